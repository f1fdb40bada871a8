set_option maxHeartbeats 4000000 in
set_option maxRecDepth 100000 in
theorem c_X4_lower (l : Launch) (dC : Nat → ClassId) (dI : Nat → Nat → Nat) (kI kL : ClassId) (zw : Nat) (zg : Nat) (w : Nat → Nat) (zc : Nat) (zd : Nat) (f : Nat → Nat) (zt : Nat) (zs : Nat) (zf : Nat) (ze : Nat) (n : Nat) (S : Nat → Int32) (F : Nat → Nat) (E : Nat → Nat) (qn : n ≤ 40) (hB : ∀ u, u < n → f u < n) (qw : cg_wf (S, F, E) n) (hW : ∀ j, w j ≤ 2 ^ 60) (sz : Nat) : Met l yX4_lower (.code yX4_lower cX4_lower 7 (some .boolean) :: tbw) { frames := 3, cells := 0, slots := 0, locals := 67 } (va_Pc [.ref zw, .ref zt, .ref zc] (cx_M (dC, dI) vwCl [(zw, .inr (4, [.ref zg])), (zg, .inl (kL, 40, .inr (.inl (cL w)))), (zc, .inr (2, [.ref zd])), (zd, .inl (kI, 40, .inl (cI f))), (zt, .inr (3, [.ref zs, .ref zf, .ref ze, .int (nI n)])), (zs, .inl (kI, 40, .inl S)), (zf, .inl (kI, 40, .inl (cA F))), (ze, .inl (kI, 40, .inl (cA E)))] [(kI, .int), (kL, .long)] sz)) (va_Qi (fun (r : Int32) (u : Unit) => r = bI ((wt_r (S, F, E) f n w).2)) (cx_B (dC, dI) vwCl (va_A [(zw, .inr (4, [.ref zg])), (zg, .inl (kL, 40, .inr (.inl (cL w)))), (zc, .inr (2, [.ref zd])), (zd, .inl (kI, 40, .inl (cI f))), (zt, .inr (3, [.ref zs, .ref zf, .ref ze, .int (nI n)])), (zs, .inl (kI, 40, .inl S)), (zf, .inl (kI, 40, .inl (cA F))), (ze, .inl (kI, 40, .inl (cA E)))] sz) (fun u : Unit => [(zw, .inr (4, [.ref zg])), (zg, .inl (kL, 40, .inr (.inl (cL ((wt_r (S, F, E) f n w).1))))), (zc, .inr (2, [.ref zd])), (zd, .inl (kI, 40, .inl (cI f))), (zt, .inr (3, [.ref zs, .ref zf, .ref ze, .int (nI n)])), (zs, .inl (kI, 40, .inl S)), (zf, .inl (kI, 40, .inl (cA F))), (ze, .inl (kI, 40, .inl (cA E)))])) (va_A [(zw, .inr (4, [.ref zg])), (zg, .inl (kL, 40, .inr (.inl (cL w)))), (zc, .inr (2, [.ref zd])), (zd, .inl (kI, 40, .inl (cI f))), (zt, .inr (3, [.ref zs, .ref zf, .ref ze, .int (nI n)])), (zs, .inl (kI, 40, .inl S)), (zf, .inl (kI, 40, .inl (cA F))), (ze, .inl (kI, 40, .inl (cA E)))] sz)) 0 0 (va_A [(zw, .inr (4, [.ref zg])), (zg, .inl (kL, 40, .inr (.inl (cL w)))), (zc, .inr (2, [.ref zd])), (zd, .inl (kI, 40, .inl (cI f))), (zt, .inr (3, [.ref zs, .ref zf, .ref ze, .int (nI n)])), (zs, .inl (kI, 40, .inl S)), (zf, .inl (kI, 40, .inl (cA F))), (ze, .inl (kI, 40, .inl (cA E)))] sz) := by
  refine Met.ofW (cc := cX4_lower) (maxL := 7) (ret := (some .boolean)) (by decide) rfl ?_
  intro p e s m args below meth c s₁ B hml hv
  obtain ⟨rfl, hsz, hP, hK, hD0⟩ := hv
  have hx := B.exec
  have hb := B.bytes
  have hr := B.returns
  have hts := atoms_spec (ws := .code yX4_lower cX4_lower 7 (some .boolean) :: tbw) B.pre
  have hw : ∀ w ∈ tbw, w.before _ s = true := fun w h => hts w (List.mem_cons_of_mem _ h)
  have hown : s.vm.findClass RX4 = some m.cls := findClass_of_methodNamed B.named
  subst hsz
  have hD := hD0.self (sz := s.heap.size)
  generalize hAe : va_A [(zw, .inr (4, [.ref zg])), (zg, .inl (kL, 40, .inr (.inl (cL w)))), (zc, .inr (2, [.ref zd])), (zd, .inl (kI, 40, .inl (cI f))), (zt, .inr (3, [.ref zs, .ref zf, .ref ze, .int (nI n)])), (zs, .inl (kI, 40, .inl S)), (zf, .inl (kI, 40, .inl (cA F))), (ze, .inl (kI, 40, .inl (cA E)))] s.heap.size = AA at hD ⊢
  have hA : ∀ q : Nat, s.heap.size ≤ q → AA q := fun q h => by rw [← hAe]; exact Or.inr h
  have hS : va_S AA s.heap s.heap [] := va_S.rf
  have hP : va_P (dC, dI) vwCl [(zw, .inr (4, [.ref zg])), (zg, .inl (kL, 40, .inr (.inl (cL w)))), (zc, .inr (2, [.ref zd])), (zd, .inl (kI, 40, .inl (cI f))), (zt, .inr (3, [.ref zs, .ref zf, .ref ze, .int (nI n)])), (zs, .inl (kI, 40, .inl S)), (zf, .inl (kI, 40, .inl (cA F))), (ze, .inl (kI, 40, .inl (cA E)))] s.heap := hP
  have hl := lv_entry ([.ref zw, .ref zt, .ref zc]) (n := 7) (Nat.le_of_ble_eq_true rfl)
  rw [lg_entry_eq]
  generalize (lg_sl ([.ref zw, .ref zt, .ref zc]) ++ List.replicate (7 - (lg_sl ([.ref zw, .ref zt, .ref zc])).length) Slot.unset).toArray = ls at hl ⊢
  have hl : lv_has ls 7 [(0, .ref zw), (1, .ref zt), (2, .ref zc)] := hl
  refine lv_iconst (v := nI 0) hx hb dX4_lower_0 (by decide) ?_
  refine lv_istore_n hx hb dX4_lower_1 rfl hl (by decide) rfl (fun ls hl => ?_)
  have hl : lv_has ls 7 [(3, .int (nI 0)), (0, .ref zw), (1, .ref zt), (2, .ref zc)] := hl
  refine lv_iconst (v := nI 0) hx hb dX4_lower_2 (by decide) ?_
  refine lv_istore hx hb dX4_lower_3 hl (by decide) rfl (fun ls hl => ?_)
  have hl : lv_has ls 7 [(4, .int (nI 0)), (3, .int (nI 0)), (0, .ref zw), (1, .ref zt), (2, .ref zc)] := hl
  refine cx_loop3 (fun (v : Nat) (ch : Bool) (g : Nat → Nat) (H : Heap) (locs : List Loc) (ls : Array Slot) => lv_has ls 7 [(3, .int (bI ch)), (4, .int (nI v)), (0, .ref zw), (1, .ref zt), (2, .ref zc)] ∧ va_P (dC, dI) vwCl [(zw, .inr (4, [.ref zg])), (zg, .inl (kL, 40, .inr (.inl (cL g)))), (zc, .inr (2, [.ref zd])), (zd, .inl (kI, 40, .inl (cI f))), (zt, .inr (3, [.ref zs, .ref zf, .ref ze, .int (nI n)])), (zs, .inl (kI, 40, .inl S)), (zf, .inl (kI, 40, .inl (cA F))), (ze, .inl (kI, 40, .inl (cA E)))] H ∧ va_D AA [(zw, .inr (4, [.ref zg])), (zg, .inl (kL, 40, .inr (.inl (cL g)))), (zc, .inr (2, [.ref zd])), (zd, .inl (kI, 40, .inl (cI f))), (zt, .inr (3, [.ref zs, .ref zf, .ref ze, .int (nI n)])), (zs, .inl (kI, 40, .inl S)), (zf, .inl (kI, 40, .inl (cA F))), (ze, .inl (kI, 40, .inl (cA E)))] ∧ va_S AA s.heap H locs ∧ (v ≤ n) ∧ ((g, ch) = wt_o (S, F, E) f (w, false) v)) (fun v ch g => n - v) (fun v ch g H locs ls hI ih1 => ?_) 0 false w ⟨lv_sub hl [1, 0, 2, 3, 4] rfl, hP, hD, hS, (by first | assumption | omega | rfl), (rfl)⟩
  obtain ⟨hl, hP, hD, hS, hv1, hg⟩ := hI
  refine lv_iload hx hb dX4_lower_5 (lv_at hl 1 rfl) ?_
  refine lv_aload_n hx hb dX4_lower_7 rfl (lv_at hl 3 rfl) ?_
  refine va_get (D := (dC, dI)) (ci := 3) (v := .int (nI n)) (C := RX3) (T := TX3) (N := 4) hx hb hts (tb_c tbX3) hown hK hP 4 rfl rfl 3 (by decide) (hw _ tw_34) (fun _ h9 => h9) rfl dX4_lower_8 ?_
  refine cx_ge (x := v) (y := n) (tgt := 64) hx hb dX4_lower_11 (by decide) (by first | omega | exact hB _ (by omega) | exact Nat.lt_of_lt_of_le (hB _ (by omega)) (by omega)) (by first | omega | exact hB _ (by omega) | exact Nat.lt_of_lt_of_le (hB _ (by omega)) (by omega)) (fun b0 => ?_) (fun b0 => ?_)
  · skip
    have e5 : (g, ch) = wt_r (S, F, E) f n w := by rw [hg, Nat.le_antisymm hv1 b0]; rfl
    obtain rfl := (congrArg Prod.fst e5 : g = (wt_r (S, F, E) f n w).1)
    obtain rfl := (congrArg Prod.snd e5 : ch = (wt_r (S, F, E) f n w).2)
    refine lv_iload_n hx hb dX4_lower_64 rfl (lv_at hl 0 rfl) ?_
    exact W.zret (v := bI ((wt_r (S, F, E) f n w).2)) hx hb hr (cx_narB _) (fun t ht hW => ⟨⟨_, (), rfl, rfl, by rw [ht]; exact hP, hD⟩, hS.F ht⟩) hS.2.2 dX4_lower_65
  have e1 := wt_o_u hg hW
  have e2 := wt_c_b (T := (S, F, E)) (L := f) e1 v
  have e3 := e1 (f v)
  refine lv_aload_n hx hb dX4_lower_14 rfl (lv_at hl 2 rfl) ?_
  refine lv_aload_n hx hb dX4_lower_15 rfl (lv_at hl 3 rfl) ?_
  refine lv_aload_n hx hb dX4_lower_16 rfl (lv_at hl 4 rfl) ?_
  refine lv_iload hx hb dX4_lower_17 (lv_at hl 1 rfl) ?_
  refine cx_sl (va_runV (As := [.ref zt, .ref zc, .int (nI v)]) (rest := []) ⟨hx, hb, hml, hown, hts⟩ (c_X4_costOf l dC dI kI kL zw zg g zc zd f zt zs zf ze n S F E v (by first | assumption | omega | rfl) (by first | assumption | omega | rfl) (by first | assumption | omega | rfl) (by first | assumption | omega | rfl)) (cwV 3 hts gv_X4_33 rfl rfl rfl hdX4_costOf ⟨Nat.le_of_ble_eq_true rfl, Nat.le_of_ble_eq_true rfl⟩) (cx_preV (hP.sub (ws' := [(zw, .inr (4, [.ref zg])), (zg, .inl (kL, 40, .inr (.inl (cL g)))), (zc, .inr (2, [.ref zd])), (zd, .inl (kI, 40, .inl (cI f))), (zt, .inr (3, [.ref zs, .ref zf, .ref ze, .int (nI n)])), (zs, .inl (kI, 40, .inl S)), (zf, .inl (kI, 40, .inl (cA F))), (ze, .inl (kI, 40, .inl (cA E)))]) [0, 1, 2, 3, 4, 5, 6, 7] rfl) hK rfl (q0 := 0) rfl) rfl rfl hl.1 rfl (lv_room (Nat.le_of_ble_eq_true rfl)) dX4_lower_19 ⟨Nat.zero_le _, Nat.zero_le _⟩) (fun r hres => ?_)
  subst hres
  refine lv_lstore hx hb dX4_lower_22 hl (by decide) rfl (fun ls hl => ?_)
  have hl : lv_has ls 7 [(5, .long (lN (wt_c (S, F, E) f g v))), (3, .int (bI ch)), (4, .int (nI v)), (0, .ref zw), (1, .ref zt), (2, .ref zc)] := hl
  refine lv_lload hx hb dX4_lower_24 (lv_at hl 0 rfl) ?_
  refine lv_aload_n hx hb dX4_lower_26 rfl (lv_at hl 3 rfl) ?_
  refine va_get (D := (dC, dI)) (ci := 4) (v := .ref zg) (C := RX4) (T := TX4) (N := 1) hx hb hts (tb_c tbX4) hown hK hP 0 rfl rfl 0 (by decide) (hw _ tw_110) (fun _ h9 => h9) rfl dX4_lower_27 ?_
  refine lv_aload_n hx hb dX4_lower_30 rfl (lv_at hl 5 rfl) ?_
  refine va_get (D := (dC, dI)) (ci := 2) (v := .ref zd) (C := RX2) (T := TX2) (N := 1) hx hb hts (tb_c tbX2) hown hK hP 2 rfl rfl 0 (by decide) (hw _ tw_99) (fun _ h9 => h9) rfl dX4_lower_31 ?_
  refine lv_iload hx hb dX4_lower_34 (lv_at hl 2 rfl) ?_
  refine cx_iald hx hb hK hP 3 0 rfl rfl (by first | decide | omega) (v := nI (f v)) (i := v) rfl (by first | omega | exact hB _ (by omega) | exact Nat.lt_of_lt_of_le (hB _ (by omega)) (by omega)) dX4_lower_36 ?_
  refine cx_lald hx hb hK hP 1 1 rfl rfl (by first | decide | omega) (v := lN (g (f v))) (i := (f v)) rfl (by first | omega | exact hB _ (by omega) | exact Nat.lt_of_lt_of_le (hB _ (by omega)) (by omega)) dX4_lower_37 ?_
  refine cx_lge (tgt := 58) hx hb dX4_lower_38 dX4_lower_39 (by decide) (by first | omega | exact hB _ (by omega) | exact Nat.lt_of_lt_of_le (hB _ (by omega)) (by omega)) (by first | omega | exact hB _ (by omega) | exact Nat.lt_of_lt_of_le (hB _ (by omega)) (by omega)) (fun b1 => ?_) (fun b1 => ?_)
  · skip
    refine lv_iinc (k := 2) (v := nI (v + 1)) hx hb dX4_lower_58 hl rfl cx_inc1 (by decide) rfl (fun ls hl => ?_)
    have hl : lv_has ls 7 [(4, .int (nI (v + 1))), (5, .long (lN (wt_c (S, F, E) f g v))), (3, .int (bI ch)), (0, .ref zw), (1, .ref zt), (2, .ref zc)] := hl
    refine lv_goto (tgt := 5) hx hb dX4_lower_61 (by decide) ?_
    exact ih1 (v + 1) ch g _ _ _ ⟨lv_sub hl [2, 0, 3, 4, 5] rfl, hP, hD, hS, (by first | assumption | omega | rfl), (by first | exact wt_o_y hg b1 | exact wt_o_n hg b1)⟩ (by show n - (v + 1) < n - v; omega)
  refine lv_aload_n hx hb dX4_lower_42 rfl (lv_at hl 3 rfl) ?_
  refine va_get (D := (dC, dI)) (ci := 4) (v := .ref zg) (C := RX4) (T := TX4) (N := 1) hx hb hts (tb_c tbX4) hown hK hP 0 rfl rfl 0 (by decide) (hw _ tw_110) (fun _ h9 => h9) rfl dX4_lower_43 ?_
  refine lv_aload_n hx hb dX4_lower_46 rfl (lv_at hl 5 rfl) ?_
  refine va_get (D := (dC, dI)) (ci := 2) (v := .ref zd) (C := RX2) (T := TX2) (N := 1) hx hb hts (tb_c tbX2) hown hK hP 2 rfl rfl 0 (by decide) (hw _ tw_99) (fun _ h9 => h9) rfl dX4_lower_47 ?_
  refine lv_iload hx hb dX4_lower_50 (lv_at hl 2 rfl) ?_
  refine cx_iald hx hb hK hP 3 0 rfl rfl (by first | decide | omega) (v := nI (f v)) (i := v) rfl (by first | omega | exact hB _ (by omega) | exact Nat.lt_of_lt_of_le (hB _ (by omega)) (by omega)) dX4_lower_52 ?_
  refine lv_lload hx hb dX4_lower_53 (lv_at hl 0 rfl) ?_
  refine cx_last hx hb hK hP hD hS 1 1 rfl rfl (by first | decide | omega) (i := (f v)) (cL_u) (by first | omega | exact hB _ (by omega) | exact Nat.lt_of_lt_of_le (hB _ (by omega)) (by omega)) dX4_lower_55 (fun H locs hP hD hS => ?_)
  have hP : va_P (dC, dI) vwCl [(zw, .inr (4, [.ref zg])), (zg, .inl (kL, 40, .inr (.inl (cL (wt_u g (f v) (wt_c (S, F, E) f g v)))))), (zc, .inr (2, [.ref zd])), (zd, .inl (kI, 40, .inl (cI f))), (zt, .inr (3, [.ref zs, .ref zf, .ref ze, .int (nI n)])), (zs, .inl (kI, 40, .inl S)), (zf, .inl (kI, 40, .inl (cA F))), (ze, .inl (kI, 40, .inl (cA E)))] H := hP
  have hD : va_D AA [(zw, .inr (4, [.ref zg])), (zg, .inl (kL, 40, .inr (.inl (cL (wt_u g (f v) (wt_c (S, F, E) f g v)))))), (zc, .inr (2, [.ref zd])), (zd, .inl (kI, 40, .inl (cI f))), (zt, .inr (3, [.ref zs, .ref zf, .ref ze, .int (nI n)])), (zs, .inl (kI, 40, .inl S)), (zf, .inl (kI, 40, .inl (cA F))), (ze, .inl (kI, 40, .inl (cA E)))] := hD
  refine lv_iconst (v := nI 1) hx hb dX4_lower_56 (by decide) ?_
  refine lv_istore_n hx hb dX4_lower_57 rfl hl (by decide) rfl (fun ls hl => ?_)
  have hl : lv_has ls 7 [(3, .int (nI 1)), (5, .long (lN (wt_c (S, F, E) f g v))), (4, .int (nI v)), (0, .ref zw), (1, .ref zt), (2, .ref zc)] := hl
  refine lv_iinc (k := 2) (v := nI (v + 1)) hx hb dX4_lower_58 hl rfl cx_inc1 (by decide) rfl (fun ls hl => ?_)
  have hl : lv_has ls 7 [(4, .int (nI (v + 1))), (3, .int (nI 1)), (5, .long (lN (wt_c (S, F, E) f g v))), (0, .ref zw), (1, .ref zt), (2, .ref zc)] := hl
  refine lv_goto (tgt := 5) hx hb dX4_lower_61 (by decide) ?_
  exact ih1 (v + 1) true (wt_u g (f v) (wt_c (S, F, E) f g v)) _ _ _ ⟨lv_sub hl [1, 0, 3, 4, 5] rfl, hP, hD, hS, (by first | assumption | omega | rfl), (by first | exact wt_o_y hg b1 | exact wt_o_n hg b1)⟩ (by show n - (v + 1) < n - v; omega)

set_option maxHeartbeats 4000000 in
set_option maxRecDepth 100000 in
theorem c_Ar_fill (l : Launch) (dC : Nat → ClassId) (dI : Nat → Nat → Nat) (kI kL : ClassId) (zg : Nat) (w : Nat → Nat) (y : Nat) (sz : Nat) : Met l yAr_fill (.code yAr_fill cAr_fill 5 none :: tbw) { frames := 0, cells := 0, slots := 0, locals := 0 } (va_Pc [.ref zg, .long (lN y)] (cx_M (dC, dI) vwCl [(zg, .inl (kL, 40, .inr (.inl (cL w))))] [(kI, .int), (kL, .long)] sz)) (va_Qv (fun (u : Unit) => True) (cx_B (dC, dI) vwCl (va_A [(zg, .inl (kL, 40, .inr (.inl (cL w))))] sz) (fun u : Unit => [(zg, .inl (kL, 40, .inr (.inl (cL (fun _ => y)))))])) (va_A [(zg, .inl (kL, 40, .inr (.inl (cL w))))] sz)) 0 0 (va_A [(zg, .inl (kL, 40, .inr (.inl (cL w))))] sz) := by
  refine Met.ofW (cc := cAr_fill) (maxL := 5) (ret := none) (by decide) rfl ?_
  intro p e s m args below meth c s₁ B hml hv
  obtain ⟨rfl, hsz, hP, hK, hD0⟩ := hv
  have hx := B.exec
  have hb := B.bytes
  have hr := B.returns
  have hts := atoms_spec (ws := .code yAr_fill cAr_fill 5 none :: tbw) B.pre
  have hw : ∀ w ∈ tbw, w.before _ s = true := fun w h => hts w (List.mem_cons_of_mem _ h)
  have hown : s.vm.findClass RAr = some m.cls := findClass_of_methodNamed B.named
  subst hsz
  have hD := hD0.self (sz := s.heap.size)
  generalize hAe : va_A [(zg, .inl (kL, 40, .inr (.inl (cL w))))] s.heap.size = AA at hD ⊢
  have hA : ∀ q : Nat, s.heap.size ≤ q → AA q := fun q h => by rw [← hAe]; exact Or.inr h
  have hS : va_S AA s.heap s.heap [] := va_S.rf
  have hP : va_P (dC, dI) vwCl [(zg, .inl (kL, 40, .inr (.inl (cL w))))] s.heap := hP
  have hl := lv_entry ([.ref zg, .long (lN y)]) (n := 5) (Nat.le_of_ble_eq_true rfl)
  rw [lg_entry_eq]
  generalize (lg_sl ([.ref zg, .long (lN y)]) ++ List.replicate (5 - (lg_sl ([.ref zg, .long (lN y)])).length) Slot.unset).toArray = ls at hl ⊢
  have hl : lv_has ls 5 [(0, .ref zg), (1, .long (lN y))] := hl
  refine lv_iconst (v := nI 0) hx hb dAr_fill_0 (by decide) ?_
  refine lv_istore_n hx hb dAr_fill_1 rfl hl (by decide) rfl (fun ls hl => ?_)
  have hl : lv_has ls 5 [(3, .int (nI 0)), (0, .ref zg), (1, .long (lN y))] := hl
  refine lv_aload_n hx hb dAr_fill_2 rfl (lv_at hl 1 rfl) ?_
  refine va_alen hx hb hK hP 0 1 rfl rfl (v := nI 40) rfl dAr_fill_3 ?_
  refine lv_istore hx hb dAr_fill_4 hl (by decide) rfl (fun ls hl => ?_)
  have hl : lv_has ls 5 [(4, .int (nI 40)), (3, .int (nI 0)), (0, .ref zg), (1, .long (lN y))] := hl
  refine cx_loop2 (fun (v : Nat) (g : Nat → Nat) (H : Heap) (locs : List Loc) (ls : Array Slot) => lv_has ls 5 [(3, .int (nI v)), (0, .ref zg), (1, .long (lN y)), (4, .int (nI 40))] ∧ va_P (dC, dI) vwCl [(zg, .inl (kL, 40, .inr (.inl (cL g))))] H ∧ va_D AA [(zg, .inl (kL, 40, .inr (.inl (cL g))))] ∧ va_S AA s.heap H locs ∧ (v ≤ 40) ∧ (∀ u, u < v → g u = y)) (fun v g => 40 - v) (fun v g H locs ls hI ih1 => ?_) 0 w ⟨lv_sub hl [1, 2, 3, 0] rfl, hP, hD, hS, (by first | assumption | omega | rfl), (fun u h => absurd h (Nat.not_lt_zero u))⟩
  obtain ⟨hl, hP, hD, hS, hv1, hg⟩ := hI
  refine lv_iload_n hx hb dAr_fill_6 rfl (lv_at hl 0 rfl) ?_
  refine lv_iload hx hb dAr_fill_7 (lv_at hl 3 rfl) ?_
  refine cx_ge (x := v) (y := 40) (tgt := 22) hx hb dAr_fill_9 (by decide) (by first | omega | exact hB _ (by omega) | exact Nat.lt_of_lt_of_le (hB _ (by omega)) (by omega)) (by first | omega | exact hB _ (by omega) | exact Nat.lt_of_lt_of_le (hB _ (by omega)) (by omega)) (fun b0 => ?_) (fun b0 => ?_)
  · skip
    have hP : va_P (dC, dI) vwCl [(zg, .inl (kL, 40, .inr (.inl (cL (fun _ => y)))))] H := cx_Pcg hP 0 rfl (fun j hj => congrArg lN (hg j (by omega)))
    have hD : va_D AA [(zg, .inl (kL, 40, .inr (.inl (cL (fun _ => y)))))] := hD.set (p := 0) rfl
    exact W.vret hx hb hr (fun t ht hW => ⟨⟨(), rfl, trivial, by rw [ht]; exact hP, hD⟩, hS.F ht⟩) hS.2.2 dAr_fill_22
  refine lv_aload_n hx hb dAr_fill_12 rfl (lv_at hl 1 rfl) ?_
  refine lv_iload_n hx hb dAr_fill_13 rfl (lv_at hl 0 rfl) ?_
  refine lv_lload_n hx hb dAr_fill_14 rfl (lv_at hl 2 rfl) ?_
  refine cx_last hx hb hK hP hD hS 0 1 rfl rfl (by first | decide | omega) (i := v) (cL_u) (by first | omega | exact hB _ (by omega) | exact Nat.lt_of_lt_of_le (hB _ (by omega)) (by omega)) dAr_fill_15 (fun H locs hP hD hS => ?_)
  have hP : va_P (dC, dI) vwCl [(zg, .inl (kL, 40, .inr (.inl (cL (wt_u g v y)))))] H := hP
  have hD : va_D AA [(zg, .inl (kL, 40, .inr (.inl (cL (wt_u g v y)))))] := hD
  refine lv_iinc (k := 0) (v := nI (v + 1)) hx hb dAr_fill_16 hl rfl cx_inc1 (by decide) rfl (fun ls hl => ?_)
  have hl : lv_has ls 5 [(3, .int (nI (v + 1))), (0, .ref zg), (1, .long (lN y)), (4, .int (nI 40))] := hl
  refine lv_goto (tgt := 6) hx hb dAr_fill_19 (by decide) ?_
  exact ih1 (v + 1) (wt_u g v y) _ _ _ ⟨lv_sub hl [0, 1, 2, 3] rfl, hP, hD, hS, (by first | assumption | omega | rfl), (cx_fill_s hg)⟩ (by show 40 - (v + 1) < 40 - v; omega)

set_option maxHeartbeats 4000000 in
set_option maxRecDepth 100000 in
theorem c_X4_weigh (l : Launch) (dC : Nat → ClassId) (dI : Nat → Nat → Nat) (kI kL : ClassId) (zw : Nat) (zg : Nat) (w : Nat → Nat) (zc : Nat) (zd : Nat) (f : Nat → Nat) (zt : Nat) (zs : Nat) (zf : Nat) (ze : Nat) (n : Nat) (S : Nat → Int32) (F : Nat → Nat) (E : Nat → Nat) (qn : n ≤ 40) (hB : ∀ u, u < n → f u < n) (qw : cg_wf (S, F, E) n) (sz : Nat) : Met l yX4_weigh (.code yX4_weigh cX4_weigh 5 none :: tbw) { frames := 4, cells := 0, slots := 0, locals := 93 } (va_Pc [.ref zw, .ref zt, .ref zc] (cx_M (dC, dI) vwCl [(zw, .inr (4, [.ref zg])), (zg, .inl (kL, 40, .inr (.inl (cL w)))), (zc, .inr (2, [.ref zd])), (zd, .inl (kI, 40, .inl (cI f))), (zt, .inr (3, [.ref zs, .ref zf, .ref ze, .int (nI n)])), (zs, .inl (kI, 40, .inl S)), (zf, .inl (kI, 40, .inl (cA F))), (ze, .inl (kI, 40, .inl (cA E)))] [(kI, .int), (kL, .long)] sz)) (va_Qv (fun (u : Unit) => True) (cx_B (dC, dI) vwCl (va_A [(zw, .inr (4, [.ref zg])), (zg, .inl (kL, 40, .inr (.inl (cL w)))), (zc, .inr (2, [.ref zd])), (zd, .inl (kI, 40, .inl (cI f))), (zt, .inr (3, [.ref zs, .ref zf, .ref ze, .int (nI n)])), (zs, .inl (kI, 40, .inl S)), (zf, .inl (kI, 40, .inl (cA F))), (ze, .inl (kI, 40, .inl (cA E)))] sz) (fun u : Unit => [(zw, .inr (4, [.ref zg])), (zg, .inl (kL, 40, .inr (.inl (cL (wt_f (S, F, E) f n))))), (zc, .inr (2, [.ref zd])), (zd, .inl (kI, 40, .inl (cI f))), (zt, .inr (3, [.ref zs, .ref zf, .ref ze, .int (nI n)])), (zs, .inl (kI, 40, .inl S)), (zf, .inl (kI, 40, .inl (cA F))), (ze, .inl (kI, 40, .inl (cA E)))])) (va_A [(zw, .inr (4, [.ref zg])), (zg, .inl (kL, 40, .inr (.inl (cL w)))), (zc, .inr (2, [.ref zd])), (zd, .inl (kI, 40, .inl (cI f))), (zt, .inr (3, [.ref zs, .ref zf, .ref ze, .int (nI n)])), (zs, .inl (kI, 40, .inl S)), (zf, .inl (kI, 40, .inl (cA F))), (ze, .inl (kI, 40, .inl (cA E)))] sz)) 0 0 (va_A [(zw, .inr (4, [.ref zg])), (zg, .inl (kL, 40, .inr (.inl (cL w)))), (zc, .inr (2, [.ref zd])), (zd, .inl (kI, 40, .inl (cI f))), (zt, .inr (3, [.ref zs, .ref zf, .ref ze, .int (nI n)])), (zs, .inl (kI, 40, .inl S)), (zf, .inl (kI, 40, .inl (cA F))), (ze, .inl (kI, 40, .inl (cA E)))] sz) := by
  refine Met.ofW (cc := cX4_weigh) (maxL := 5) (ret := none) (by decide) rfl ?_
  intro p e s m args below meth c s₁ B hml hv
  obtain ⟨rfl, hsz, hP, hK, hD0⟩ := hv
  have hx := B.exec
  have hb := B.bytes
  have hr := B.returns
  have hts := atoms_spec (ws := .code yX4_weigh cX4_weigh 5 none :: tbw) B.pre
  have hw : ∀ w ∈ tbw, w.before _ s = true := fun w h => hts w (List.mem_cons_of_mem _ h)
  have hown : s.vm.findClass RX4 = some m.cls := findClass_of_methodNamed B.named
  subst hsz
  have hD := hD0.self (sz := s.heap.size)
  generalize hAe : va_A [(zw, .inr (4, [.ref zg])), (zg, .inl (kL, 40, .inr (.inl (cL w)))), (zc, .inr (2, [.ref zd])), (zd, .inl (kI, 40, .inl (cI f))), (zt, .inr (3, [.ref zs, .ref zf, .ref ze, .int (nI n)])), (zs, .inl (kI, 40, .inl S)), (zf, .inl (kI, 40, .inl (cA F))), (ze, .inl (kI, 40, .inl (cA E)))] s.heap.size = AA at hD ⊢
  have hA : ∀ q : Nat, s.heap.size ≤ q → AA q := fun q h => by rw [← hAe]; exact Or.inr h
  have hS : va_S AA s.heap s.heap [] := va_S.rf
  have hP : va_P (dC, dI) vwCl [(zw, .inr (4, [.ref zg])), (zg, .inl (kL, 40, .inr (.inl (cL w)))), (zc, .inr (2, [.ref zd])), (zd, .inl (kI, 40, .inl (cI f))), (zt, .inr (3, [.ref zs, .ref zf, .ref ze, .int (nI n)])), (zs, .inl (kI, 40, .inl S)), (zf, .inl (kI, 40, .inl (cA F))), (ze, .inl (kI, 40, .inl (cA E)))] s.heap := hP
  have hl := lv_entry ([.ref zw, .ref zt, .ref zc]) (n := 5) (Nat.le_of_ble_eq_true rfl)
  rw [lg_entry_eq]
  generalize (lg_sl ([.ref zw, .ref zt, .ref zc]) ++ List.replicate (5 - (lg_sl ([.ref zw, .ref zt, .ref zc])).length) Slot.unset).toArray = ls at hl ⊢
  have hl : lv_has ls 5 [(0, .ref zw), (1, .ref zt), (2, .ref zc)] := hl
  refine lv_aload_n hx hb dX4_weigh_0 rfl (lv_at hl 0 rfl) ?_
  refine va_get (D := (dC, dI)) (ci := 4) (v := .ref zg) (C := RX4) (T := TX4) (N := 1) hx hb hts (tb_c tbX4) hown hK hP 0 rfl rfl 0 (by decide) (hw _ tw_110) (fun _ h9 => h9) rfl dX4_weigh_1 ?_
  refine lv_ldc2 hx hb hown (hw _ tw_288) dX4_weigh_4 ?_
  refine cx_topl (show (1152921504606846976 : Int64) = lN (2 ^ 60) by decide +kernel) ?_
  refine cx_mv (wc := [(zg, .inl (kL, 40, .inr (.inl (cL w))))]) (wr := [(zw, .inr (4, [.ref zg])), (zc, .inr (2, [.ref zd])), (zd, .inl (kI, 40, .inl (cI f))), (zt, .inr (3, [.ref zs, .ref zf, .ref ze, .int (nI n)])), (zs, .inl (kI, 40, .inl S)), (zf, .inl (kI, 40, .inl (cA F))), (ze, .inl (kI, 40, .inl (cA E)))]) hP hD hS hA [1] [0, 2, 3, 4, 5, 6, 7] rfl rfl (by decide) (by decide) (va_runS (As := [.ref zg, .long (lN (2 ^ 60))]) (rest := []) ⟨hx, hb, hml, hown, hts⟩ (c_Ar_fill l dC dI kI kL zg w (2 ^ 60)  _) ⟨callB_of 2 hts (tb_in2 tw_291) rfl rfl rfl (hw _ tw_9) (hw _ tw_289) hdAr_fill.2 ⟨Nat.le_of_ble_eq_true rfl, Nat.le_of_ble_eq_true rfl⟩, (hw _ tw_290)⟩ (cx_mreS (hP.sub (ws' := [(zg, .inl (kL, 40, .inr (.inl (cL w))))]) [1] rfl) hK (hD.sub (ws' := [(zg, .inl (kL, 40, .inr (.inl (cL w))))]) [1] (by decide) rfl)) rfl rfl hl.1 rfl (lv_room (Nat.le_of_ble_eq_true rfl)) dX4_weigh_7 ⟨Nat.zero_le _, Nat.zero_le _⟩) (fun u7 H locs hres hP hD hS => ?_)
  have hP : va_P (dC, dI) vwCl [(zw, .inr (4, [.ref zg])), (zg, .inl (kL, 40, .inr (.inl (cL (fun _ => (2 ^ 60)))))), (zc, .inr (2, [.ref zd])), (zd, .inl (kI, 40, .inl (cI f))), (zt, .inr (3, [.ref zs, .ref zf, .ref ze, .int (nI n)])), (zs, .inl (kI, 40, .inl S)), (zf, .inl (kI, 40, .inl (cA F))), (ze, .inl (kI, 40, .inl (cA E)))] H := hP.sub (ws' := [(zw, .inr (4, [.ref zg])), (zg, .inl (kL, 40, .inr (.inl (cL (fun _ => (2 ^ 60)))))), (zc, .inr (2, [.ref zd])), (zd, .inl (kI, 40, .inl (cI f))), (zt, .inr (3, [.ref zs, .ref zf, .ref ze, .int (nI n)])), (zs, .inl (kI, 40, .inl S)), (zf, .inl (kI, 40, .inl (cA F))), (ze, .inl (kI, 40, .inl (cA E)))]) [0, 7, 1, 2, 3, 4, 5, 6] rfl
  have hD : va_D AA [(zw, .inr (4, [.ref zg])), (zg, .inl (kL, 40, .inr (.inl (cL (fun _ => (2 ^ 60)))))), (zc, .inr (2, [.ref zd])), (zd, .inl (kI, 40, .inl (cI f))), (zt, .inr (3, [.ref zs, .ref zf, .ref ze, .int (nI n)])), (zs, .inl (kI, 40, .inl S)), (zf, .inl (kI, 40, .inl (cA F))), (ze, .inl (kI, 40, .inl (cA E)))] := hD.sub (ws' := [(zw, .inr (4, [.ref zg])), (zg, .inl (kL, 40, .inr (.inl (cL (fun _ => (2 ^ 60)))))), (zc, .inr (2, [.ref zd])), (zd, .inl (kI, 40, .inl (cI f))), (zt, .inr (3, [.ref zs, .ref zf, .ref ze, .int (nI n)])), (zs, .inl (kI, 40, .inl S)), (zf, .inl (kI, 40, .inl (cA F))), (ze, .inl (kI, 40, .inl (cA E)))]) [0, 7, 1, 2, 3, 4, 5, 6] (by decide) rfl
  refine lv_iconst (v := nI 1) hx hb dX4_weigh_10 (by decide) ?_
  refine lv_istore_n hx hb dX4_weigh_11 rfl hl (by decide) rfl (fun ls hl => ?_)
  have hl : lv_has ls 5 [(3, .int (nI 1)), (0, .ref zw), (1, .ref zt), (2, .ref zc)] := hl
  refine lv_iconst (v := nI 0) hx hb dX4_weigh_12 (by decide) ?_
  refine lv_istore hx hb dX4_weigh_13 hl (by decide) rfl (fun ls hl => ?_)
  have hl : lv_has ls 5 [(4, .int (nI 0)), (3, .int (nI 1)), (0, .ref zw), (1, .ref zt), (2, .ref zc)] := hl
  refine cx_loop3 (fun (r9 : Nat) (ch : Bool) (g : Nat → Nat) (H : Heap) (locs : List Loc) (ls : Array Slot) => lv_has ls 5 [(3, .int (bI ch)), (4, .int (nI r9)), (0, .ref zw), (1, .ref zt), (2, .ref zc)] ∧ va_P (dC, dI) vwCl [(zw, .inr (4, [.ref zg])), (zg, .inl (kL, 40, .inr (.inl (cL g)))), (zc, .inr (2, [.ref zd])), (zd, .inl (kI, 40, .inl (cI f))), (zt, .inr (3, [.ref zs, .ref zf, .ref ze, .int (nI n)])), (zs, .inl (kI, 40, .inl S)), (zf, .inl (kI, 40, .inl (cA F))), (ze, .inl (kI, 40, .inl (cA E)))] H ∧ va_D AA [(zw, .inr (4, [.ref zg])), (zg, .inl (kL, 40, .inr (.inl (cL g)))), (zc, .inr (2, [.ref zd])), (zd, .inl (kI, 40, .inl (cI f))), (zt, .inr (3, [.ref zs, .ref zf, .ref ze, .int (nI n)])), (zs, .inl (kI, 40, .inl S)), (zf, .inl (kI, 40, .inl (cA F))), (ze, .inl (kI, 40, .inl (cA E)))] ∧ va_S AA s.heap H locs ∧ (r9 ≤ n) ∧ (g = wt_i (S, F, E) f n r9) ∧ (ch = true ∨ wt_x (S, F, E) f n (wt_i (S, F, E) f n r9))) (fun r9 ch g => n - r9) (fun r9 ch g H locs ls hI ih1 => ?_) 0 true (fun _ => (2 ^ 60)) ⟨lv_sub hl [1, 0, 2, 3, 4] rfl, hP, hD, hS, (by first | assumption | omega | rfl), (rfl), (Or.inl rfl)⟩
  obtain ⟨hl, hP, hD, hS, hr9, hg, hch⟩ := hI
  refine lv_iload hx hb dX4_weigh_15 (lv_at hl 1 rfl) ?_
  refine lv_aload_n hx hb dX4_weigh_17 rfl (lv_at hl 3 rfl) ?_
  refine va_get (D := (dC, dI)) (ci := 3) (v := .int (nI n)) (C := RX3) (T := TX3) (N := 4) hx hb hts (tb_c tbX3) hown hK hP 4 rfl rfl 3 (by decide) (hw _ tw_34) (fun _ h9 => h9) rfl dX4_weigh_18 ?_
  refine cx_ge (x := r9) (y := n) (tgt := 41) hx hb dX4_weigh_21 (by decide) (by first | omega | exact hB _ (by omega) | exact Nat.lt_of_lt_of_le (hB _ (by omega)) (by omega)) (by first | omega | exact hB _ (by omega) | exact Nat.lt_of_lt_of_le (hB _ (by omega)) (by omega)) (fun b0 => ?_) (fun b0 => ?_)
  · skip
    obtain rfl := wt_ie qw hB qn hg hch (by first | exact Or.inl b0 | exact Or.inr b1)
    exact W.vret hx hb hr (fun t ht hW => ⟨⟨(), rfl, trivial, by rw [ht]; exact hP, hD⟩, hS.F ht⟩) hS.2.2 dX4_weigh_41
  refine lv_iload_n hx hb dX4_weigh_24 rfl (lv_at hl 0 rfl) ?_
  refine cx_if0 (tgt := 41) hx hb dX4_weigh_25 (by decide) (fun b1 => ?_) (fun b1 => ?_)
  · skip
    obtain rfl := wt_ie qw hB qn hg hch (by first | exact Or.inl b0 | exact Or.inr b1)
    exact W.vret hx hb hr (fun t ht hW => ⟨⟨(), rfl, trivial, by rw [ht]; exact hP, hD⟩, hS.F ht⟩) hS.2.2 dX4_weigh_41
  refine lv_aload_n hx hb dX4_weigh_28 rfl (lv_at hl 2 rfl) ?_
  refine lv_aload_n hx hb dX4_weigh_29 rfl (lv_at hl 3 rfl) ?_
  refine lv_aload_n hx hb dX4_weigh_30 rfl (lv_at hl 4 rfl) ?_
  refine cx_mi (wc := [(zw, .inr (4, [.ref zg])), (zg, .inl (kL, 40, .inr (.inl (cL g)))), (zc, .inr (2, [.ref zd])), (zd, .inl (kI, 40, .inl (cI f))), (zt, .inr (3, [.ref zs, .ref zf, .ref ze, .int (nI n)])), (zs, .inl (kI, 40, .inl S)), (zf, .inl (kI, 40, .inl (cA F))), (ze, .inl (kI, 40, .inl (cA E)))]) (wr := []) hP hD hS hA [0, 1, 2, 3, 4, 5, 6, 7] [] rfl rfl (by decide) (by decide) (va_runV (As := [.ref zt, .ref zc]) (rest := []) ⟨hx, hb, hml, hown, hts⟩ (c_X4_lower l dC dI kI kL zw zg g zc zd f zt zs zf ze n S F E (by first | assumption | omega | rfl) (by first | assumption | omega | rfl) (by first | assumption | omega | rfl) (by rw [hg]; exact wt_i_u r9) _) (cwV 2 hts gv_X4_29 rfl rfl rfl hdX4_lower ⟨Nat.le_of_ble_eq_true rfl, Nat.le_of_ble_eq_true rfl⟩) (cx_mreV (hP.sub (ws' := [(zw, .inr (4, [.ref zg])), (zg, .inl (kL, 40, .inr (.inl (cL g)))), (zc, .inr (2, [.ref zd])), (zd, .inl (kI, 40, .inl (cI f))), (zt, .inr (3, [.ref zs, .ref zf, .ref ze, .int (nI n)])), (zs, .inl (kI, 40, .inl S)), (zf, .inl (kI, 40, .inl (cA F))), (ze, .inl (kI, 40, .inl (cA E)))]) [0, 1, 2, 3, 4, 5, 6, 7] rfl) hK (hD.sub (ws' := [(zw, .inr (4, [.ref zg])), (zg, .inl (kL, 40, .inr (.inl (cL g)))), (zc, .inr (2, [.ref zd])), (zd, .inl (kI, 40, .inl (cI f))), (zt, .inr (3, [.ref zs, .ref zf, .ref ze, .int (nI n)])), (zs, .inl (kI, 40, .inl S)), (zf, .inl (kI, 40, .inl (cA F))), (ze, .inl (kI, 40, .inl (cA E)))]) [0, 1, 2, 3, 4, 5, 6, 7] (by decide) rfl) rfl (q0 := 0) rfl) rfl rfl hl.1 rfl (lv_room (Nat.le_of_ble_eq_true rfl)) dX4_weigh_31 ⟨Nat.zero_le _, Nat.zero_le _⟩) (fun r u31 H locs hres hP hD hS => ?_)
  subst hres
  have hP : va_P (dC, dI) vwCl [(zw, .inr (4, [.ref zg])), (zg, .inl (kL, 40, .inr (.inl (cL ((wt_r (S, F, E) f n g).1))))), (zc, .inr (2, [.ref zd])), (zd, .inl (kI, 40, .inl (cI f))), (zt, .inr (3, [.ref zs, .ref zf, .ref ze, .int (nI n)])), (zs, .inl (kI, 40, .inl S)), (zf, .inl (kI, 40, .inl (cA F))), (ze, .inl (kI, 40, .inl (cA E)))] H := hP.sub (ws' := [(zw, .inr (4, [.ref zg])), (zg, .inl (kL, 40, .inr (.inl (cL ((wt_r (S, F, E) f n g).1))))), (zc, .inr (2, [.ref zd])), (zd, .inl (kI, 40, .inl (cI f))), (zt, .inr (3, [.ref zs, .ref zf, .ref ze, .int (nI n)])), (zs, .inl (kI, 40, .inl S)), (zf, .inl (kI, 40, .inl (cA F))), (ze, .inl (kI, 40, .inl (cA E)))]) [0, 1, 2, 3, 4, 5, 6, 7] rfl
  have hD : va_D AA [(zw, .inr (4, [.ref zg])), (zg, .inl (kL, 40, .inr (.inl (cL ((wt_r (S, F, E) f n g).1))))), (zc, .inr (2, [.ref zd])), (zd, .inl (kI, 40, .inl (cI f))), (zt, .inr (3, [.ref zs, .ref zf, .ref ze, .int (nI n)])), (zs, .inl (kI, 40, .inl S)), (zf, .inl (kI, 40, .inl (cA F))), (ze, .inl (kI, 40, .inl (cA E)))] := hD.sub (ws' := [(zw, .inr (4, [.ref zg])), (zg, .inl (kL, 40, .inr (.inl (cL ((wt_r (S, F, E) f n g).1))))), (zc, .inr (2, [.ref zd])), (zd, .inl (kI, 40, .inl (cI f))), (zt, .inr (3, [.ref zs, .ref zf, .ref ze, .int (nI n)])), (zs, .inl (kI, 40, .inl S)), (zf, .inl (kI, 40, .inl (cA F))), (ze, .inl (kI, 40, .inl (cA E)))]) [0, 1, 2, 3, 4, 5, 6, 7] (by decide) rfl
  refine lv_istore_n hx hb dX4_weigh_34 rfl hl (by decide) rfl (fun ls hl => ?_)
  have hl : lv_has ls 5 [(3, .int (bI ((wt_r (S, F, E) f n g).2))), (4, .int (nI r9)), (0, .ref zw), (1, .ref zt), (2, .ref zc)] := hl
  refine lv_iinc (k := 1) (v := nI (r9 + 1)) hx hb dX4_weigh_35 hl rfl cx_inc1 (by decide) rfl (fun ls hl => ?_)
  have hl : lv_has ls 5 [(4, .int (nI (r9 + 1))), (3, .int (bI ((wt_r (S, F, E) f n g).2))), (0, .ref zw), (1, .ref zt), (2, .ref zc)] := hl
  refine lv_goto (tgt := 15) hx hb dX4_weigh_38 (by decide) ?_
  exact ih1 (r9 + 1) ((wt_r (S, F, E) f n g).2) ((wt_r (S, F, E) f n g).1) _ _ _ ⟨lv_sub hl [1, 0, 2, 3, 4] rfl, hP, hD, hS, (by first | assumption | omega | rfl), (wt_is hg), (wt_ic hB hg)⟩ (by show n - (r9 + 1) < n - r9; omega)

set_option maxHeartbeats 4000000 in
set_option maxRecDepth 100000 in
theorem c_X4_lightest (l : Launch) (dC : Nat → ClassId) (dI : Nat → Nat → Nat) (kI kL : ClassId) (zw : Nat) (zg : Nat) (zc : Nat) (zd : Nat) (f : Nat → Nat) (zt : Nat) (zs : Nat) (zf : Nat) (ze : Nat) (n : Nat) (S : Nat → Int32) (F : Nat → Nat) (E : Nat → Nat) (i : Nat) (qn : n ≤ 40) (hB : ∀ u, u < n → f u < n) (qw : cg_wf (S, F, E) n) (qi : i < n) : Met l yX4_lightest (.code yX4_lightest cX4_lightest 5 (some .int) :: tbw) { frames := 3, cells := 0, slots := 0, locals := 67 } (va_Pc [.ref zw, .ref zt, .ref zc, .int (nI i)] (cx_R (dC, dI) vwCl [(zw, .inr (4, [.ref zg])), (zg, .inl (kL, 40, .inr (.inl (cL (wt_f (S, F, E) f n))))), (zc, .inr (2, [.ref zd])), (zd, .inl (kI, 40, .inl (cI f))), (zt, .inr (3, [.ref zs, .ref zf, .ref ze, .int (nI n)])), (zs, .inl (kI, 40, .inl S)), (zf, .inl (kI, 40, .inl (cA F))), (ze, .inl (kI, 40, .inl (cA E)))] [(kI, .int), (kL, .long)])) (vp_Si (fun r => r = nI (wt_b (S, F, E) f n i))) 0 0 (fun _ => False) := by
  refine Met.ofW (cc := cX4_lightest) (maxL := 5) (ret := (some .int)) (by decide) rfl ?_
  intro p e s m args below meth c s₁ B hml hv
  obtain ⟨rfl, hP, hK⟩ := hv
  have hx := B.exec
  have hb := B.bytes
  have hr := B.returns
  have hts := atoms_spec (ws := .code yX4_lightest cX4_lightest 5 (some .int) :: tbw) B.pre
  have hw : ∀ w ∈ tbw, w.before _ s = true := fun w h => hts w (List.mem_cons_of_mem _ h)
  have hown : s.vm.findClass RX4 = some m.cls := findClass_of_methodNamed B.named
  have hP : va_P (dC, dI) vwCl [(zw, .inr (4, [.ref zg])), (zg, .inl (kL, 40, .inr (.inl (cL (wt_f (S, F, E) f n))))), (zc, .inr (2, [.ref zd])), (zd, .inl (kI, 40, .inl (cI f))), (zt, .inr (3, [.ref zs, .ref zf, .ref ze, .int (nI n)])), (zs, .inl (kI, 40, .inl S)), (zf, .inl (kI, 40, .inl (cA F))), (ze, .inl (kI, 40, .inl (cA E)))] s.heap := hP
  have hl := lv_entry ([.ref zw, .ref zt, .ref zc, .int (nI i)]) (n := 5) (Nat.le_of_ble_eq_true rfl)
  rw [lg_entry_eq]
  generalize (lg_sl ([.ref zw, .ref zt, .ref zc, .int (nI i)]) ++ List.replicate (5 - (lg_sl ([.ref zw, .ref zt, .ref zc, .int (nI i)])).length) Slot.unset).toArray = ls at hl ⊢
  have hl : lv_has ls 5 [(0, .ref zw), (1, .ref zt), (2, .ref zc), (3, .int (nI i))] := hl
  have hW := wt_f_u (T := (S, F, E)) (L := f) (n := n)
  refine lv_iconst (v := nI 0) hx hb dX4_lightest_0 (by decide) ?_
  refine lv_istore hx hb dX4_lightest_1 hl (by decide) rfl (fun ls hl => ?_)
  have hl : lv_has ls 5 [(4, .int (nI 0)), (0, .ref zw), (1, .ref zt), (2, .ref zc), (3, .int (nI i))] := hl
  refine cx_loopR1 (fun (v : Nat) (ls : Array Slot) => lv_has ls 5 [(4, .int (nI v)), (0, .ref zw), (1, .ref zt), (2, .ref zc), (3, .int (nI i))] ∧ (v ≤ n) ∧ (∀ u, u < v → ¬ (f u = f i ∧ wt_c (S, F, E) f (wt_f (S, F, E) f n) u = wt_f (S, F, E) f n (f i)))) (fun v => n - v) (fun v ls hI ih1 => ?_) 0 ⟨lv_sub hl [0, 1, 2, 3, 4] rfl, (by first | assumption | omega | rfl), (fun u h => absurd h (Nat.not_lt_zero u))⟩
  obtain ⟨hl, hv1, hno⟩ := hI
  refine lv_iload hx hb dX4_lightest_3 (lv_at hl 0 rfl) ?_
  refine lv_aload_n hx hb dX4_lightest_5 rfl (lv_at hl 2 rfl) ?_
  refine va_get (D := (dC, dI)) (ci := 3) (v := .int (nI n)) (C := RX3) (T := TX3) (N := 4) hx hb hts (tb_c tbX3) hown hK hP 4 rfl rfl 3 (by decide) (hw _ tw_34) (fun _ h9 => h9) rfl dX4_lightest_6 ?_
  refine cx_ge (x := v) (y := n) (tgt := 49) hx hb dX4_lightest_9 (by decide) (by first | omega | exact hB _ (by omega) | exact Nat.lt_of_lt_of_le (hB _ (by omega)) (by omega)) (by first | omega | exact hB _ (by omega) | exact Nat.lt_of_lt_of_le (hB _ (by omega)) (by omega)) (fun b0 => ?_) (fun b0 => ?_)
  · skip
    exact (wt_b_d qw hB qn qi hno b0).elim
  have e2 := wt_c_b (T := (S, F, E)) (L := f) hW v
  have e3 := hW (f i)
  refine lv_aload_n hx hb dX4_lightest_12 rfl (lv_at hl 3 rfl) ?_
  refine lv_iload hx hb dX4_lightest_13 (lv_at hl 0 rfl) ?_
  refine lv_iload_n hx hb dX4_lightest_15 rfl (lv_at hl 4 rfl) ?_
  refine cx_si (va_runV (As := [.int (nI v), .int (nI i)]) (rest := []) ⟨hx, hb, hml, hown, hts⟩ (c_X2_joins l dC dI kI kL zc zd f n v i (by first | assumption | omega | rfl) (by first | assumption | omega | rfl) (by first | assumption | omega | rfl) (by first | assumption | omega | rfl)) (cwV 2 hts gv_X4_56 rfl rfl rfl hdX2_joins ⟨Nat.le_of_ble_eq_true rfl, Nat.le_of_ble_eq_true rfl⟩) (cx_preV (hP.sub (ws' := [(zc, .inr (2, [.ref zd])), (zd, .inl (kI, 40, .inl (cI f)))]) [2, 3] rfl) hK rfl (q0 := 0) rfl) rfl rfl hl.1 rfl (lv_room (Nat.le_of_ble_eq_true rfl)) dX4_lightest_16 ⟨Nat.zero_le _, Nat.zero_le _⟩) (fun r hres => ?_)
  subst hres
  refine cx_if0 (tgt := 43) hx hb dX4_lightest_19 (by decide) (fun b1 => ?_) (fun b1 => ?_)
  · skip
    refine lv_iinc (k := 0) (v := nI (v + 1)) hx hb dX4_lightest_43 hl rfl cx_inc1 (by decide) rfl (fun ls hl => ?_)
    have hl : lv_has ls 5 [(4, .int (nI (v + 1))), (0, .ref zw), (1, .ref zt), (2, .ref zc), (3, .int (nI i))] := hl
    refine lv_goto (tgt := 3) hx hb dX4_lightest_46 (by decide) ?_
    exact ih1 (v + 1) _ ⟨lv_sub hl [0, 1, 2, 3, 4] rfl, (by first | assumption | omega | rfl), (wt_b_s hno (by first | exact fun h => of_decide_eq_false b1 h.1 | exact fun h => b2 h.2))⟩ (by show n - (v + 1) < n - v; omega)
  refine lv_aload_n hx hb dX4_lightest_22 rfl (lv_at hl 1 rfl) ?_
  refine lv_aload_n hx hb dX4_lightest_23 rfl (lv_at hl 2 rfl) ?_
  refine lv_aload_n hx hb dX4_lightest_24 rfl (lv_at hl 3 rfl) ?_
  refine lv_iload hx hb dX4_lightest_25 (lv_at hl 0 rfl) ?_
  refine cx_sl (va_runV (As := [.ref zt, .ref zc, .int (nI v)]) (rest := []) ⟨hx, hb, hml, hown, hts⟩ (c_X4_costOf l dC dI kI kL zw zg (wt_f (S, F, E) f n) zc zd f zt zs zf ze n S F E v (by first | assumption | omega | rfl) (by first | assumption | omega | rfl) (by first | assumption | omega | rfl) (by first | assumption | omega | rfl)) (cwV 3 hts gv_X4_33 rfl rfl rfl hdX4_costOf ⟨Nat.le_of_ble_eq_true rfl, Nat.le_of_ble_eq_true rfl⟩) (cx_preV (hP.sub (ws' := [(zw, .inr (4, [.ref zg])), (zg, .inl (kL, 40, .inr (.inl (cL (wt_f (S, F, E) f n))))), (zc, .inr (2, [.ref zd])), (zd, .inl (kI, 40, .inl (cI f))), (zt, .inr (3, [.ref zs, .ref zf, .ref ze, .int (nI n)])), (zs, .inl (kI, 40, .inl S)), (zf, .inl (kI, 40, .inl (cA F))), (ze, .inl (kI, 40, .inl (cA E)))]) [0, 1, 2, 3, 4, 5, 6, 7] rfl) hK rfl (q0 := 0) rfl) rfl rfl hl.1 rfl (lv_room (Nat.le_of_ble_eq_true rfl)) dX4_lightest_27 ⟨Nat.zero_le _, Nat.zero_le _⟩) (fun r hres => ?_)
  subst hres
  refine lv_aload_n hx hb dX4_lightest_30 rfl (lv_at hl 1 rfl) ?_
  refine lv_aload_n hx hb dX4_lightest_31 rfl (lv_at hl 3 rfl) ?_
  refine lv_iload_n hx hb dX4_lightest_32 rfl (lv_at hl 4 rfl) ?_
  refine cx_sl (va_runV (As := [.ref zc, .int (nI i)]) (rest := [.long (lN (wt_c (S, F, E) f (wt_f (S, F, E) f n) v))]) ⟨hx, hb, hml, hown, hts⟩ (c_X4_ofTerm l dC dI kI kL zw zg (wt_f (S, F, E) f n) zc zd f n i (by first | assumption | omega | rfl) (by first | assumption | omega | rfl) (by first | assumption | omega | rfl)) (cwV 2 hts gv_X4_53 rfl rfl rfl hdX4_ofTerm ⟨Nat.le_of_ble_eq_true rfl, Nat.le_of_ble_eq_true rfl⟩) (cx_preV (hP.sub (ws' := [(zw, .inr (4, [.ref zg])), (zg, .inl (kL, 40, .inr (.inl (cL (wt_f (S, F, E) f n))))), (zc, .inr (2, [.ref zd])), (zd, .inl (kI, 40, .inl (cI f)))]) [0, 1, 2, 3] rfl) hK rfl (q0 := 0) rfl) rfl rfl hl.1 rfl (lv_room (Nat.le_of_ble_eq_true rfl)) dX4_lightest_33 ⟨Nat.zero_le _, Nat.zero_le _⟩) (fun r hres => ?_)
  subst hres
  refine cx_lne (tgt := 43) hx hb dX4_lightest_36 dX4_lightest_37 (by decide) (by first | omega | exact hB _ (by omega) | exact Nat.lt_of_lt_of_le (hB _ (by omega)) (by omega)) (by first | omega | exact hB _ (by omega) | exact Nat.lt_of_lt_of_le (hB _ (by omega)) (by omega)) (fun b2 => ?_) (fun b2 => ?_)
  · skip
    refine lv_iinc (k := 0) (v := nI (v + 1)) hx hb dX4_lightest_43 hl rfl cx_inc1 (by decide) rfl (fun ls hl => ?_)
    have hl : lv_has ls 5 [(4, .int (nI (v + 1))), (0, .ref zw), (1, .ref zt), (2, .ref zc), (3, .int (nI i))] := hl
    refine lv_goto (tgt := 3) hx hb dX4_lightest_46 (by decide) ?_
    exact ih1 (v + 1) _ ⟨lv_sub hl [0, 1, 2, 3, 4] rfl, (by first | assumption | omega | rfl), (wt_b_s hno (by first | exact fun h => of_decide_eq_false b1 h.1 | exact fun h => b2 h.2))⟩ (by show n - (v + 1) < n - v; omega)
  refine lv_iload hx hb dX4_lightest_40 (lv_at hl 0 rfl) ?_
  exact W.iret (v := nI v) hx hb hr (fun t ht hW => ⟨_, rfl, congrArg nI (wt_b_at hno (of_decide_eq_true b1) b2 b0), ht⟩) (fun _ h9 => by cases h9) dX4_lightest_42
