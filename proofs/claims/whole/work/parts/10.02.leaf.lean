set_option maxHeartbeats 4000000 in
set_option maxRecDepth 100000 in
theorem c_X2_congruent (l : Launch) (dC : Nat → ClassId) (dI : Nat → Nat → Nat) (kI kL : ClassId) (zc : Nat) (zd : Nat) (f : Nat → Nat) (zt : Nat) (zs : Nat) (zf : Nat) (ze : Nat) (n : Nat) (S : Nat → Int32) (F : Nat → Nat) (E : Nat → Nat) (i : Nat) (j : Nat) (qn : n ≤ 40) (hB : ∀ u, u < n → f u < n) (qw : cg_wf (S, F, E) n) (qi : i < n) (qj : j < n) : Met l yX2_congruent (.code yX2_congruent cX2_congruent 4 (some .boolean) :: tbw) { frames := 3, cells := 0, slots := 0, locals := 69 } (va_Pc [.ref zc, .ref zt, .int (nI i), .int (nI j)] (cx_R (dC, dI) vwCl [(zc, .inr (2, [.ref zd])), (zd, .inl (kI, 40, .inl (cI f))), (zt, .inr (3, [.ref zs, .ref zf, .ref ze, .int (nI n)])), (zs, .inl (kI, 40, .inl S)), (zf, .inl (kI, 40, .inl (cA F))), (ze, .inl (kI, 40, .inl (cA E)))] [(kI, .int), (kL, .long)])) (vp_Si (fun r => r = bI (decide (cg_lk (S, F, E) f i j)))) 0 0 (fun _ => False) := by
  refine Met.ofW (cc := cX2_congruent) (maxL := 4) (ret := (some .boolean)) (by decide) rfl ?_
  intro p e s m args below meth c s₁ B hml hv
  obtain ⟨rfl, hP, hK⟩ := hv
  have hx := B.exec
  have hb := B.bytes
  have hr := B.returns
  have hts := atoms_spec (ws := .code yX2_congruent cX2_congruent 4 (some .boolean) :: tbw) B.pre
  have hw : ∀ w ∈ tbw, w.before _ s = true := fun w h => hts w (List.mem_cons_of_mem _ h)
  have hown : s.vm.findClass RX2 = some m.cls := findClass_of_methodNamed B.named
  have hP : va_P (dC, dI) vwCl [(zc, .inr (2, [.ref zd])), (zd, .inl (kI, 40, .inl (cI f))), (zt, .inr (3, [.ref zs, .ref zf, .ref ze, .int (nI n)])), (zs, .inl (kI, 40, .inl S)), (zf, .inl (kI, 40, .inl (cA F))), (ze, .inl (kI, 40, .inl (cA E)))] s.heap := hP
  have hl := lv_entry ([.ref zc, .ref zt, .int (nI i), .int (nI j)]) (n := 4) (Nat.le_of_ble_eq_true rfl)
  rw [lg_entry_eq]
  generalize (lg_sl ([.ref zc, .ref zt, .int (nI i), .int (nI j)]) ++ List.replicate (4 - (lg_sl ([.ref zc, .ref zt, .int (nI i), .int (nI j)])).length) Slot.unset).toArray = ls at hl ⊢
  have hl : lv_has ls 4 [(0, .ref zc), (1, .ref zt), (2, .int (nI i)), (3, .int (nI j))] := hl
  refine lv_aload_n hx hb dX2_congruent_0 rfl (lv_at hl 0 rfl) ?_
  refine lv_aload_n hx hb dX2_congruent_1 rfl (lv_at hl 1 rfl) ?_
  refine lv_iload_n hx hb dX2_congruent_2 rfl (lv_at hl 2 rfl) ?_
  refine lv_aload_n hx hb dX2_congruent_3 rfl (lv_at hl 1 rfl) ?_
  refine va_get (D := (dC, dI)) (ci := 3) (v := .ref zs) (C := RX3) (T := TX3) (N := 4) hx hb hts (tb_c tbX3) hown hK hP 2 rfl rfl 0 (by decide) (hw _ tw_25) (fun _ h9 => h9) rfl dX2_congruent_4 ?_
  refine lv_iload_n hx hb dX2_congruent_7 rfl (lv_at hl 3 rfl) ?_
  refine cx_iald hx hb hK hP 3 0 rfl rfl (by first | decide | omega) (v := (S j)) (i := j) rfl (by first | omega | exact hB _ (by omega) | exact Nat.lt_of_lt_of_le (hB _ (by omega)) (by omega)) dX2_congruent_8 ?_
  refine lv_aload_n hx hb dX2_congruent_9 rfl (lv_at hl 1 rfl) ?_
  refine va_get (D := (dC, dI)) (ci := 3) (v := .ref zf) (C := RX3) (T := TX3) (N := 4) hx hb hts (tb_c tbX3) hown hK hP 2 rfl rfl 1 (by decide) (hw _ tw_29) (fun _ h9 => h9) rfl dX2_congruent_10 ?_
  refine lv_iload_n hx hb dX2_congruent_13 rfl (lv_at hl 3 rfl) ?_
  refine cx_iald hx hb hK hP 4 0 rfl rfl (by first | decide | omega) (v := aI (F j)) (i := j) rfl (by first | omega | exact hB _ (by omega) | exact Nat.lt_of_lt_of_le (hB _ (by omega)) (by omega)) dX2_congruent_14 ?_
  refine lv_aload_n hx hb dX2_congruent_15 rfl (lv_at hl 1 rfl) ?_
  refine va_get (D := (dC, dI)) (ci := 3) (v := .ref ze) (C := RX3) (T := TX3) (N := 4) hx hb hts (tb_c tbX3) hown hK hP 2 rfl rfl 2 (by decide) (hw _ tw_32) (fun _ h9 => h9) rfl dX2_congruent_16 ?_
  refine lv_iload_n hx hb dX2_congruent_19 rfl (lv_at hl 3 rfl) ?_
  refine cx_iald hx hb hK hP 5 0 rfl rfl (by first | decide | omega) (v := aI (E j)) (i := j) rfl (by first | omega | exact hB _ (by omega) | exact Nat.lt_of_lt_of_le (hB _ (by omega)) (by omega)) dX2_congruent_20 ?_
  refine cx_si (va_runV (As := [.ref zt, .int (nI i), .int (S j), .int (aI (F j)), .int (aI (E j))]) (rest := []) ⟨hx, hb, hml, hown, hts⟩ (c_X2_fits l dC dI kI kL zc zd f zt zs zf ze n S F E i (S j) (F j) (E j) (by first | assumption | omega | rfl) (by first | assumption | omega | rfl) (by first | assumption | omega | rfl) (by first | assumption | omega | rfl) (by have := qw j qj; simp only at this; omega) (by have := qw j qj; simp only at this; omega)) (cwV 5 hts gv_X2_58 rfl rfl rfl hdX2_fits ⟨Nat.le_of_ble_eq_true rfl, Nat.le_of_ble_eq_true rfl⟩) (cx_preV (hP.sub (ws' := [(zc, .inr (2, [.ref zd])), (zd, .inl (kI, 40, .inl (cI f))), (zt, .inr (3, [.ref zs, .ref zf, .ref ze, .int (nI n)])), (zs, .inl (kI, 40, .inl S)), (zf, .inl (kI, 40, .inl (cA F))), (ze, .inl (kI, 40, .inl (cA E)))]) [0, 1, 2, 3, 4, 5] rfl) hK rfl (q0 := 0) rfl) rfl rfl hl.1 rfl (lv_room (Nat.le_of_ble_eq_true rfl)) dX2_congruent_21 ⟨Nat.zero_le _, Nat.zero_le _⟩) (fun r hres => ?_)
  subst hres
  exact W.zret (v := bI (decide (S i = (S j) ∧ cg_ar f (F i) = cg_ar f (F j) ∧ cg_ar f (E i) = cg_ar f (E j)))) hx hb hr (cx_narB _) (fun t ht hW => ⟨_, rfl, rfl, ht⟩) (fun _ h9 => by cases h9) dX2_congruent_24

set_option maxHeartbeats 4000000 in
set_option maxRecDepth 100000 in
theorem c_X2_merge (l : Launch) (dC : Nat → ClassId) (dI : Nat → Nat → Nat) (kI kL : ClassId) (zc : Nat) (zd : Nat) (f : Nat → Nat) (n : Nat) (i : Nat) (j : Nat) (qn : n ≤ 40) (hB : ∀ u, u < n → f u < n) (qi : i < n) (qj : j < n) (sz : Nat) : Met l yX2_merge (.code yX2_merge cX2_merge 7 none :: tbw) { frames := 1, cells := 0, slots := 0, locals := 21 } (va_Pc [.ref zc, .int (nI i), .int (nI j), .int (nI n)] (cx_M (dC, dI) vwCl [(zc, .inr (2, [.ref zd])), (zd, .inl (kI, 40, .inl (cI f)))] [(kI, .int), (kL, .long)] sz)) (va_Qv (fun (u : Unit) => True) (cx_B (dC, dI) vwCl (va_A [(zc, .inr (2, [.ref zd])), (zd, .inl (kI, 40, .inl (cI f)))] sz) (fun u : Unit => [(zc, .inr (2, [.ref zd])), (zd, .inl (kI, 40, .inl (cI (cg_mg n f i j))))])) (va_A [(zc, .inr (2, [.ref zd])), (zd, .inl (kI, 40, .inl (cI f)))] sz)) 0 0 (va_A [(zc, .inr (2, [.ref zd])), (zd, .inl (kI, 40, .inl (cI f)))] sz) := by
  refine Met.ofW (cc := cX2_merge) (maxL := 7) (ret := none) (by decide) rfl ?_
  intro p e s m args below meth c s₁ B hml hv
  obtain ⟨rfl, hsz, hP, hK, hD0⟩ := hv
  have hx := B.exec
  have hb := B.bytes
  have hr := B.returns
  have hts := atoms_spec (ws := .code yX2_merge cX2_merge 7 none :: tbw) B.pre
  have hw : ∀ w ∈ tbw, w.before _ s = true := fun w h => hts w (List.mem_cons_of_mem _ h)
  have hown : s.vm.findClass RX2 = some m.cls := findClass_of_methodNamed B.named
  subst hsz
  have hD := hD0.self (sz := s.heap.size)
  generalize hAe : va_A [(zc, .inr (2, [.ref zd])), (zd, .inl (kI, 40, .inl (cI f)))] s.heap.size = AA at hD ⊢
  have hA : ∀ q : Nat, s.heap.size ≤ q → AA q := fun q h => by rw [← hAe]; exact Or.inr h
  have hS : va_S AA s.heap s.heap [] := va_S.rf
  have hP : va_P (dC, dI) vwCl [(zc, .inr (2, [.ref zd])), (zd, .inl (kI, 40, .inl (cI f)))] s.heap := hP
  have hl := lv_entry ([.ref zc, .int (nI i), .int (nI j), .int (nI n)]) (n := 7) (Nat.le_of_ble_eq_true rfl)
  rw [lg_entry_eq]
  generalize (lg_sl ([.ref zc, .int (nI i), .int (nI j), .int (nI n)]) ++ List.replicate (7 - (lg_sl ([.ref zc, .int (nI i), .int (nI j), .int (nI n)])).length) Slot.unset).toArray = ls at hl ⊢
  have hl : lv_has ls 7 [(0, .ref zc), (1, .int (nI i)), (2, .int (nI j)), (3, .int (nI n))] := hl
  have e1 := hB i qi
  have e2 := hB j qj
  refine lv_aload_n hx hb dX2_merge_0 rfl (lv_at hl 0 rfl) ?_
  refine va_get (D := (dC, dI)) (ci := 2) (v := .ref zd) (C := RX2) (T := TX2) (N := 1) hx hb hts (tb_c tbX2) hown hK hP 0 rfl rfl 0 (by decide) (hw _ tw_98) (fun _ h9 => h9) rfl dX2_merge_1 ?_
  refine lv_iload_n hx hb dX2_merge_4 rfl (lv_at hl 1 rfl) ?_
  refine cx_iald hx hb hK hP 1 0 rfl rfl (by first | decide | omega) (v := nI (f i)) (i := i) rfl (by first | omega | exact hB _ (by omega) | exact Nat.lt_of_lt_of_le (hB _ (by omega)) (by omega)) dX2_merge_5 ?_
  refine lv_aload_n hx hb dX2_merge_6 rfl (lv_at hl 0 rfl) ?_
  refine va_get (D := (dC, dI)) (ci := 2) (v := .ref zd) (C := RX2) (T := TX2) (N := 1) hx hb hts (tb_c tbX2) hown hK hP 0 rfl rfl 0 (by decide) (hw _ tw_98) (fun _ h9 => h9) rfl dX2_merge_7 ?_
  refine lv_iload_n hx hb dX2_merge_10 rfl (lv_at hl 2 rfl) ?_
  refine cx_iald hx hb hK hP 1 0 rfl rfl (by first | decide | omega) (v := nI (f j)) (i := j) rfl (by first | omega | exact hB _ (by omega) | exact Nat.lt_of_lt_of_le (hB _ (by omega)) (by omega)) dX2_merge_11 ?_
  refine cx_min hx hb (hml.trans hl.1.symm) hown (hw _ tw_172) (hw _ tw_173) (hw _ tw_8) (hw _ tw_174) (Nat.le_of_ble_eq_true rfl) (Nat.le_of_ble_eq_true rfl) (Nat.zero_le _) (Nat.zero_le _) (x := (f i)) (y := (f j)) (by first | omega | exact hB _ (by omega) | exact Nat.lt_of_lt_of_le (hB _ (by omega)) (by omega)) (by first | omega | exact hB _ (by omega) | exact Nat.lt_of_lt_of_le (hB _ (by omega)) (by omega)) dX2_merge_12 ?_
  refine lv_istore hx hb dX2_merge_15 hl (by decide) rfl (fun ls hl => ?_)
  have hl : lv_has ls 7 [(4, .int (nI (min (f i) (f j)))), (0, .ref zc), (1, .int (nI i)), (2, .int (nI j)), (3, .int (nI n))] := hl
  refine lv_aload_n hx hb dX2_merge_17 rfl (lv_at hl 1 rfl) ?_
  refine va_get (D := (dC, dI)) (ci := 2) (v := .ref zd) (C := RX2) (T := TX2) (N := 1) hx hb hts (tb_c tbX2) hown hK hP 0 rfl rfl 0 (by decide) (hw _ tw_98) (fun _ h9 => h9) rfl dX2_merge_18 ?_
  refine lv_iload_n hx hb dX2_merge_21 rfl (lv_at hl 2 rfl) ?_
  refine cx_iald hx hb hK hP 1 0 rfl rfl (by first | decide | omega) (v := nI (f i)) (i := i) rfl (by first | omega | exact hB _ (by omega) | exact Nat.lt_of_lt_of_le (hB _ (by omega)) (by omega)) dX2_merge_22 ?_
  refine lv_aload_n hx hb dX2_merge_23 rfl (lv_at hl 1 rfl) ?_
  refine va_get (D := (dC, dI)) (ci := 2) (v := .ref zd) (C := RX2) (T := TX2) (N := 1) hx hb hts (tb_c tbX2) hown hK hP 0 rfl rfl 0 (by decide) (hw _ tw_98) (fun _ h9 => h9) rfl dX2_merge_24 ?_
  refine lv_iload_n hx hb dX2_merge_27 rfl (lv_at hl 3 rfl) ?_
  refine cx_iald hx hb hK hP 1 0 rfl rfl (by first | decide | omega) (v := nI (f j)) (i := j) rfl (by first | omega | exact hB _ (by omega) | exact Nat.lt_of_lt_of_le (hB _ (by omega)) (by omega)) dX2_merge_28 ?_
  refine cx_max hx hb (hml.trans hl.1.symm) hown (hw _ tw_175) (hw _ tw_176) (hw _ tw_8) (hw _ tw_177) (Nat.le_of_ble_eq_true rfl) (Nat.le_of_ble_eq_true rfl) (Nat.zero_le _) (Nat.zero_le _) (x := (f i)) (y := (f j)) (by first | omega | exact hB _ (by omega) | exact Nat.lt_of_lt_of_le (hB _ (by omega)) (by omega)) (by first | omega | exact hB _ (by omega) | exact Nat.lt_of_lt_of_le (hB _ (by omega)) (by omega)) dX2_merge_29 ?_
  refine lv_istore hx hb dX2_merge_32 hl (by decide) rfl (fun ls hl => ?_)
  have hl : lv_has ls 7 [(5, .int (nI (max (f i) (f j)))), (4, .int (nI (min (f i) (f j)))), (0, .ref zc), (1, .int (nI i)), (2, .int (nI j)), (3, .int (nI n))] := hl
  refine lv_iconst (v := nI 0) hx hb dX2_merge_34 (by decide) ?_
  refine lv_istore hx hb dX2_merge_35 hl (by decide) rfl (fun ls hl => ?_)
  have hl : lv_has ls 7 [(6, .int (nI 0)), (5, .int (nI (max (f i) (f j)))), (4, .int (nI (min (f i) (f j)))), (0, .ref zc), (1, .int (nI i)), (2, .int (nI j)), (3, .int (nI n))] := hl
  refine cx_loop2 (fun (v : Nat) (g : Nat → Nat) (H : Heap) (locs : List Loc) (ls : Array Slot) => lv_has ls 7 [(6, .int (nI v)), (0, .ref zc), (1, .int (nI i)), (2, .int (nI j)), (3, .int (nI n)), (4, .int (nI (min (f i) (f j)))), (5, .int (nI (max (f i) (f j))))] ∧ va_P (dC, dI) vwCl [(zc, .inr (2, [.ref zd])), (zd, .inl (kI, 40, .inl (cI g)))] H ∧ va_D AA [(zc, .inr (2, [.ref zd])), (zd, .inl (kI, 40, .inl (cI g)))] ∧ va_S AA s.heap H locs ∧ (v ≤ n) ∧ (g = cg_mu n f i j v)) (fun v g => n - v) (fun v g H locs ls hI ih1 => ?_) 0 f ⟨lv_sub hl [0, 3, 4, 5, 6, 2, 1] rfl, hP, hD, hS, (by first | assumption | omega | rfl), (cg_mu_0)⟩
  obtain ⟨hl, hP, hD, hS, hv1, hg⟩ := hI
  refine lv_iload hx hb dX2_merge_37 (lv_at hl 0 rfl) ?_
  refine lv_iload_n hx hb dX2_merge_39 rfl (lv_at hl 4 rfl) ?_
  refine cx_ge (x := v) (y := n) (tgt := 70) hx hb dX2_merge_40 (by decide) (by first | omega | exact hB _ (by omega) | exact Nat.lt_of_lt_of_le (hB _ (by omega)) (by omega)) (by first | omega | exact hB _ (by omega) | exact Nat.lt_of_lt_of_le (hB _ (by omega)) (by omega)) (fun b0 => ?_) (fun b0 => ?_)
  · skip
    obtain rfl := cg_mu_e hg b0
    exact W.vret hx hb hr (fun t ht hW => ⟨⟨(), rfl, trivial, by rw [ht]; exact hP, hD⟩, hS.F ht⟩) hS.2.2 dX2_merge_70
  have e3 := cg_mu_at hg
  have e4 := hB v b0
  refine lv_aload_n hx hb dX2_merge_43 rfl (lv_at hl 1 rfl) ?_
  refine va_get (D := (dC, dI)) (ci := 2) (v := .ref zd) (C := RX2) (T := TX2) (N := 1) hx hb hts (tb_c tbX2) hown hK hP 0 rfl rfl 0 (by decide) (hw _ tw_98) (fun _ h9 => h9) rfl dX2_merge_44 ?_
  refine lv_iload hx hb dX2_merge_47 (lv_at hl 0 rfl) ?_
  refine cx_iald hx hb hK hP 1 0 rfl rfl (by first | decide | omega) (v := nI (g v)) (i := v) rfl (by first | omega | exact hB _ (by omega) | exact Nat.lt_of_lt_of_le (hB _ (by omega)) (by omega)) dX2_merge_49 ?_
  refine lv_iload hx hb dX2_merge_50 (lv_at hl 6 rfl) ?_
  refine cx_ne (x := (g v)) (y := (max (f i) (f j))) (tgt := 64) hx hb dX2_merge_52 (by decide) (by first | omega | exact hB _ (by omega) | exact Nat.lt_of_lt_of_le (hB _ (by omega)) (by omega)) (by first | omega | exact hB _ (by omega) | exact Nat.lt_of_lt_of_le (hB _ (by omega)) (by omega)) (fun b1 => ?_) (fun b1 => ?_)
  · skip
    refine lv_iinc (k := 0) (v := nI (v + 1)) hx hb dX2_merge_64 hl rfl cx_inc1 (by decide) rfl (fun ls hl => ?_)
    have hl : lv_has ls 7 [(6, .int (nI (v + 1))), (0, .ref zc), (1, .int (nI i)), (2, .int (nI j)), (3, .int (nI n)), (4, .int (nI (min (f i) (f j)))), (5, .int (nI (max (f i) (f j))))] := hl
    refine lv_goto (tgt := 37) hx hb dX2_merge_67 (by decide) ?_
    exact ih1 (v + 1) g _ _ _ ⟨lv_sub hl [0, 1, 2, 3, 4, 5, 6] rfl, hP, hD, hS, (by first | assumption | omega | rfl), (by first | exact cg_mu_y hg b0 b1 | exact cg_mu_n hg b1)⟩ (by show n - (v + 1) < n - v; omega)
  refine lv_aload_n hx hb dX2_merge_55 rfl (lv_at hl 1 rfl) ?_
  refine va_get (D := (dC, dI)) (ci := 2) (v := .ref zd) (C := RX2) (T := TX2) (N := 1) hx hb hts (tb_c tbX2) hown hK hP 0 rfl rfl 0 (by decide) (hw _ tw_98) (fun _ h9 => h9) rfl dX2_merge_56 ?_
  refine lv_iload hx hb dX2_merge_59 (lv_at hl 0 rfl) ?_
  refine lv_iload hx hb dX2_merge_61 (lv_at hl 5 rfl) ?_
  refine cx_iast hx hb hK hP hD hS 1 0 rfl rfl (by first | decide | omega) (i := v) (cI_u) (by first | omega | exact hB _ (by omega) | exact Nat.lt_of_lt_of_le (hB _ (by omega)) (by omega)) dX2_merge_63 (fun H locs hP hD hS => ?_)
  have hP : va_P (dC, dI) vwCl [(zc, .inr (2, [.ref zd])), (zd, .inl (kI, 40, .inl (cI (wt_u g v (min (f i) (f j))))))] H := hP
  have hD : va_D AA [(zc, .inr (2, [.ref zd])), (zd, .inl (kI, 40, .inl (cI (wt_u g v (min (f i) (f j))))))] := hD
  refine lv_iinc (k := 0) (v := nI (v + 1)) hx hb dX2_merge_64 hl rfl cx_inc1 (by decide) rfl (fun ls hl => ?_)
  have hl : lv_has ls 7 [(6, .int (nI (v + 1))), (0, .ref zc), (1, .int (nI i)), (2, .int (nI j)), (3, .int (nI n)), (4, .int (nI (min (f i) (f j)))), (5, .int (nI (max (f i) (f j))))] := hl
  refine lv_goto (tgt := 37) hx hb dX2_merge_67 (by decide) ?_
  exact ih1 (v + 1) (wt_u g v (min (f i) (f j))) _ _ _ ⟨lv_sub hl [0, 1, 2, 3, 4, 5, 6] rfl, hP, hD, hS, (by first | assumption | omega | rfl), (by first | exact cg_mu_y hg b0 b1 | exact cg_mu_n hg b1)⟩ (by show n - (v + 1) < n - v; omega)

set_option maxHeartbeats 4000000 in
set_option maxRecDepth 100000 in
theorem c_X2_mergeCongruent (l : Launch) (dC : Nat → ClassId) (dI : Nat → Nat → Nat) (kI kL : ClassId) (zc : Nat) (zd : Nat) (f : Nat → Nat) (zt : Nat) (zs : Nat) (zf : Nat) (ze : Nat) (n : Nat) (S : Nat → Int32) (F : Nat → Nat) (E : Nat → Nat) (qn : n ≤ 40) (qo : cg_ok n f) (qw : cg_wf (S, F, E) n) (sz : Nat) : Met l yX2_mergeCongruent (.code yX2_mergeCongruent cX2_mergeCongruent 5 (some .boolean) :: tbw) { frames := 4, cells := 0, slots := 0, locals := 92 } (va_Pc [.ref zc, .ref zt] (cx_M (dC, dI) vwCl [(zc, .inr (2, [.ref zd])), (zd, .inl (kI, 40, .inl (cI f))), (zt, .inr (3, [.ref zs, .ref zf, .ref ze, .int (nI n)])), (zs, .inl (kI, 40, .inl S)), (zf, .inl (kI, 40, .inl (cA F))), (ze, .inl (kI, 40, .inl (cA E)))] [(kI, .int), (kL, .long)] sz)) (va_Qi (fun (r : Int32) (u : Unit) => r = bI ((cg_rd (S, F, E) n f).2)) (cx_B (dC, dI) vwCl (va_A [(zc, .inr (2, [.ref zd])), (zd, .inl (kI, 40, .inl (cI f))), (zt, .inr (3, [.ref zs, .ref zf, .ref ze, .int (nI n)])), (zs, .inl (kI, 40, .inl S)), (zf, .inl (kI, 40, .inl (cA F))), (ze, .inl (kI, 40, .inl (cA E)))] sz) (fun u : Unit => [(zc, .inr (2, [.ref zd])), (zd, .inl (kI, 40, .inl (cI ((cg_rd (S, F, E) n f).1)))), (zt, .inr (3, [.ref zs, .ref zf, .ref ze, .int (nI n)])), (zs, .inl (kI, 40, .inl S)), (zf, .inl (kI, 40, .inl (cA F))), (ze, .inl (kI, 40, .inl (cA E)))])) (va_A [(zc, .inr (2, [.ref zd])), (zd, .inl (kI, 40, .inl (cI f))), (zt, .inr (3, [.ref zs, .ref zf, .ref ze, .int (nI n)])), (zs, .inl (kI, 40, .inl S)), (zf, .inl (kI, 40, .inl (cA F))), (ze, .inl (kI, 40, .inl (cA E)))] sz)) 0 0 (va_A [(zc, .inr (2, [.ref zd])), (zd, .inl (kI, 40, .inl (cI f))), (zt, .inr (3, [.ref zs, .ref zf, .ref ze, .int (nI n)])), (zs, .inl (kI, 40, .inl S)), (zf, .inl (kI, 40, .inl (cA F))), (ze, .inl (kI, 40, .inl (cA E)))] sz) := by
  refine Met.ofW (cc := cX2_mergeCongruent) (maxL := 5) (ret := (some .boolean)) (by decide) rfl ?_
  intro p e s m args below meth c s₁ B hml hv
  obtain ⟨rfl, hsz, hP, hK, hD0⟩ := hv
  have hx := B.exec
  have hb := B.bytes
  have hr := B.returns
  have hts := atoms_spec (ws := .code yX2_mergeCongruent cX2_mergeCongruent 5 (some .boolean) :: tbw) B.pre
  have hw : ∀ w ∈ tbw, w.before _ s = true := fun w h => hts w (List.mem_cons_of_mem _ h)
  have hown : s.vm.findClass RX2 = some m.cls := findClass_of_methodNamed B.named
  subst hsz
  have hD := hD0.self (sz := s.heap.size)
  generalize hAe : va_A [(zc, .inr (2, [.ref zd])), (zd, .inl (kI, 40, .inl (cI f))), (zt, .inr (3, [.ref zs, .ref zf, .ref ze, .int (nI n)])), (zs, .inl (kI, 40, .inl S)), (zf, .inl (kI, 40, .inl (cA F))), (ze, .inl (kI, 40, .inl (cA E)))] s.heap.size = AA at hD ⊢
  have hA : ∀ q : Nat, s.heap.size ≤ q → AA q := fun q h => by rw [← hAe]; exact Or.inr h
  have hS : va_S AA s.heap s.heap [] := va_S.rf
  have hP : va_P (dC, dI) vwCl [(zc, .inr (2, [.ref zd])), (zd, .inl (kI, 40, .inl (cI f))), (zt, .inr (3, [.ref zs, .ref zf, .ref ze, .int (nI n)])), (zs, .inl (kI, 40, .inl S)), (zf, .inl (kI, 40, .inl (cA F))), (ze, .inl (kI, 40, .inl (cA E)))] s.heap := hP
  have hl := lv_entry ([.ref zc, .ref zt]) (n := 5) (Nat.le_of_ble_eq_true rfl)
  rw [lg_entry_eq]
  generalize (lg_sl ([.ref zc, .ref zt]) ++ List.replicate (5 - (lg_sl ([.ref zc, .ref zt])).length) Slot.unset).toArray = ls at hl ⊢
  have hl : lv_has ls 5 [(0, .ref zc), (1, .ref zt)] := hl
  refine lv_iconst (v := nI 0) hx hb dX2_mergeCongruent_0 (by decide) ?_
  refine lv_istore_n hx hb dX2_mergeCongruent_1 rfl hl (by decide) rfl (fun ls hl => ?_)
  have hl : lv_has ls 5 [(2, .int (nI 0)), (0, .ref zc), (1, .ref zt)] := hl
  refine lv_iconst (v := nI 0) hx hb dX2_mergeCongruent_2 (by decide) ?_
  refine lv_istore_n hx hb dX2_mergeCongruent_3 rfl hl (by decide) rfl (fun ls hl => ?_)
  have hl : lv_has ls 5 [(3, .int (nI 0)), (2, .int (nI 0)), (0, .ref zc), (1, .ref zt)] := hl
  refine cx_loop3 (fun (v : Nat) (ch : Bool) (g : Nat → Nat) (H : Heap) (locs : List Loc) (ls : Array Slot) => lv_has ls 5 [(2, .int (bI ch)), (3, .int (nI v)), (0, .ref zc), (1, .ref zt)] ∧ va_P (dC, dI) vwCl [(zc, .inr (2, [.ref zd])), (zd, .inl (kI, 40, .inl (cI g))), (zt, .inr (3, [.ref zs, .ref zf, .ref ze, .int (nI n)])), (zs, .inl (kI, 40, .inl S)), (zf, .inl (kI, 40, .inl (cA F))), (ze, .inl (kI, 40, .inl (cA E)))] H ∧ va_D AA [(zc, .inr (2, [.ref zd])), (zd, .inl (kI, 40, .inl (cI g))), (zt, .inr (3, [.ref zs, .ref zf, .ref ze, .int (nI n)])), (zs, .inl (kI, 40, .inl S)), (zf, .inl (kI, 40, .inl (cA F))), (ze, .inl (kI, 40, .inl (cA E)))] ∧ va_S AA s.heap H locs ∧ (v ≤ n) ∧ ((g, ch) = cg_ou (S, F, E) n (f, false) v)) (fun v ch g => n - v) (fun v ch g H locs ls hI ih1 => ?_) 0 false f ⟨lv_sub hl [1, 0, 2, 3] rfl, hP, hD, hS, (by first | assumption | omega | rfl), (rfl)⟩
  obtain ⟨hl, hP, hD, hS, hv1, hg⟩ := hI
  refine lv_iload_n hx hb dX2_mergeCongruent_4 rfl (lv_at hl 1 rfl) ?_
  refine lv_aload_n hx hb dX2_mergeCongruent_5 rfl (lv_at hl 3 rfl) ?_
  refine va_get (D := (dC, dI)) (ci := 3) (v := .int (nI n)) (C := RX3) (T := TX3) (N := 4) hx hb hts (tb_c tbX3) hown hK hP 2 rfl rfl 3 (by decide) (hw _ tw_36) (fun _ h9 => h9) rfl dX2_mergeCongruent_6 ?_
  refine cx_ge (x := v) (y := n) (tgt := 67) hx hb dX2_mergeCongruent_9 (by decide) (by first | omega | exact hB _ (by omega) | exact Nat.lt_of_lt_of_le (hB _ (by omega)) (by omega)) (by first | omega | exact hB _ (by omega) | exact Nat.lt_of_lt_of_le (hB _ (by omega)) (by omega)) (fun b0 => ?_) (fun b0 => ?_)
  · skip
    have e5 : (g, ch) = cg_rd (S, F, E) n f := by rw [hg, Nat.le_antisymm hv1 b0]; rfl
    obtain rfl := (congrArg Prod.fst e5 : g = (cg_rd (S, F, E) n f).1)
    obtain rfl := (congrArg Prod.snd e5 : ch = (cg_rd (S, F, E) n f).2)
    refine lv_iload_n hx hb dX2_mergeCongruent_67 rfl (lv_at hl 0 rfl) ?_
    exact W.zret (v := bI ((cg_rd (S, F, E) n f).2)) hx hb hr (cx_narB _) (fun t ht hW => ⟨⟨_, (), rfl, rfl, by rw [ht]; exact hP, hD⟩, hS.F ht⟩) hS.2.2 dX2_mergeCongruent_68
  refine lv_iconst (v := nI 0) hx hb dX2_mergeCongruent_12 (by decide) ?_
  refine lv_istore hx hb dX2_mergeCongruent_13 hl (by decide) rfl (fun ls hl => ?_)
  have hl : lv_has ls 5 [(4, .int (nI 0)), (2, .int (bI ch)), (3, .int (nI v)), (0, .ref zc), (1, .ref zt)] := hl
  refine cx_loop3 (fun (q : Nat) (ch2 : Bool) (g2 : Nat → Nat) (H : Heap) (locs : List Loc) (ls : Array Slot) => lv_has ls 5 [(2, .int (bI ch2)), (4, .int (nI q)), (0, .ref zc), (1, .ref zt), (3, .int (nI v))] ∧ va_P (dC, dI) vwCl [(zc, .inr (2, [.ref zd])), (zd, .inl (kI, 40, .inl (cI g2))), (zt, .inr (3, [.ref zs, .ref zf, .ref ze, .int (nI n)])), (zs, .inl (kI, 40, .inl S)), (zf, .inl (kI, 40, .inl (cA F))), (ze, .inl (kI, 40, .inl (cA E)))] H ∧ va_D AA [(zc, .inr (2, [.ref zd])), (zd, .inl (kI, 40, .inl (cI g2))), (zt, .inr (3, [.ref zs, .ref zf, .ref ze, .int (nI n)])), (zs, .inl (kI, 40, .inl S)), (zf, .inl (kI, 40, .inl (cA F))), (ze, .inl (kI, 40, .inl (cA E)))] ∧ va_S AA s.heap H locs ∧ (q ≤ v) ∧ ((g2, ch2) = cg_in (S, F, E) n (cg_ou (S, F, E) n (f, false) v) v q)) (fun q ch2 g2 => v - q) (fun q ch2 g2 H locs ls hI ih2 => ?_) 0 ch g ⟨lv_sub hl [1, 0, 3, 4, 2] rfl, hP, hD, hS, (by first | assumption | omega | rfl), (hg)⟩
  obtain ⟨hl, hP, hD, hS, hq, hg2⟩ := hI
  have ok2 := cg_in_ok qo hg2 b0 (by omega)
  have hB := cg_ok_B ok2
  refine lv_iload hx hb dX2_mergeCongruent_15 (lv_at hl 1 rfl) ?_
  refine lv_iload_n hx hb dX2_mergeCongruent_17 rfl (lv_at hl 4 rfl) ?_
  refine cx_ge (x := q) (y := v) (tgt := 61) hx hb dX2_mergeCongruent_18 (by decide) (by first | omega | exact hB _ (by omega) | exact Nat.lt_of_lt_of_le (hB _ (by omega)) (by omega)) (by first | omega | exact hB _ (by omega) | exact Nat.lt_of_lt_of_le (hB _ (by omega)) (by omega)) (fun b1 => ?_) (fun b1 => ?_)
  · skip
    refine lv_iinc (k := 4) (v := nI (v + 1)) hx hb dX2_mergeCongruent_61 hl rfl cx_inc1 (by decide) rfl (fun ls hl => ?_)
    have hl : lv_has ls 5 [(3, .int (nI (v + 1))), (2, .int (bI ch2)), (4, .int (nI q)), (0, .ref zc), (1, .ref zt)] := hl
    refine lv_goto (tgt := 4) hx hb dX2_mergeCongruent_64 (by decide) ?_
    exact ih1 (v + 1) ch2 g2 _ _ _ ⟨lv_sub hl [1, 0, 3, 4] rfl, hP, hD, hS, (by first | assumption | omega | rfl), (by rw [hg2, Nat.le_antisymm hq b1]; rfl)⟩ (by show n - (v + 1) < n - v; omega)
  refine lv_aload_n hx hb dX2_mergeCongruent_21 rfl (lv_at hl 2 rfl) ?_
  refine lv_iload hx hb dX2_mergeCongruent_22 (lv_at hl 1 rfl) ?_
  refine lv_iload_n hx hb dX2_mergeCongruent_24 rfl (lv_at hl 4 rfl) ?_
  refine cx_si (va_runV (As := [.int (nI q), .int (nI v)]) (rest := []) ⟨hx, hb, hml, hown, hts⟩ (c_X2_joins l dC dI kI kL zc zd g2 n q v (by first | assumption | omega | rfl) (by first | assumption | omega | rfl) (by first | assumption | omega | rfl) (by first | assumption | omega | rfl)) (cwV 2 hts gv_X2_30 rfl rfl rfl hdX2_joins ⟨Nat.le_of_ble_eq_true rfl, Nat.le_of_ble_eq_true rfl⟩) (cx_preV (hP.sub (ws' := [(zc, .inr (2, [.ref zd])), (zd, .inl (kI, 40, .inl (cI g2)))]) [0, 1] rfl) hK rfl (q0 := 0) rfl) rfl rfl hl.1 rfl (lv_room (Nat.le_of_ble_eq_true rfl)) dX2_mergeCongruent_25 ⟨Nat.zero_le _, Nat.zero_le _⟩) (fun r hres => ?_)
  subst hres
  refine cx_if1 (tgt := 55) hx hb dX2_mergeCongruent_28 (by decide) (fun b2 => ?_) (fun b2 => ?_)
  · skip
    refine lv_iinc (k := 1) (v := nI (q + 1)) hx hb dX2_mergeCongruent_55 hl rfl cx_inc1 (by decide) rfl (fun ls hl => ?_)
    have hl : lv_has ls 5 [(4, .int (nI (q + 1))), (2, .int (bI ch2)), (0, .ref zc), (1, .ref zt), (3, .int (nI v))] := hl
    refine lv_goto (tgt := 15) hx hb dX2_mergeCongruent_58 (by decide) ?_
    exact ih2 (q + 1) ch2 g2 _ _ _ ⟨lv_sub hl [1, 0, 2, 3, 4] rfl, hP, hD, hS, (by first | assumption | omega | rfl), (by first | exact cg_in_y hg2 (of_decide_eq_false b2) (of_decide_eq_true b3) | exact cg_in_n hg2 (Or.inl (of_decide_eq_true b2)) | exact cg_in_n hg2 (Or.inr (of_decide_eq_false b3)))⟩ (by show v - (q + 1) < v - q; omega)
  refine lv_aload_n hx hb dX2_mergeCongruent_31 rfl (lv_at hl 2 rfl) ?_
  refine lv_aload_n hx hb dX2_mergeCongruent_32 rfl (lv_at hl 3 rfl) ?_
  refine lv_iload hx hb dX2_mergeCongruent_33 (lv_at hl 1 rfl) ?_
  refine lv_iload_n hx hb dX2_mergeCongruent_35 rfl (lv_at hl 4 rfl) ?_
  refine cx_si (va_runV (As := [.ref zt, .int (nI q), .int (nI v)]) (rest := []) ⟨hx, hb, hml, hown, hts⟩ (c_X2_congruent l dC dI kI kL zc zd g2 zt zs zf ze n S F E q v (by first | assumption | omega | rfl) (by first | assumption | omega | rfl) (by first | assumption | omega | rfl) (by first | assumption | omega | rfl) (by first | assumption | omega | rfl)) (cwV 3 hts gv_X2_54 rfl rfl rfl hdX2_congruent ⟨Nat.le_of_ble_eq_true rfl, Nat.le_of_ble_eq_true rfl⟩) (cx_preV (hP.sub (ws' := [(zc, .inr (2, [.ref zd])), (zd, .inl (kI, 40, .inl (cI g2))), (zt, .inr (3, [.ref zs, .ref zf, .ref ze, .int (nI n)])), (zs, .inl (kI, 40, .inl S)), (zf, .inl (kI, 40, .inl (cA F))), (ze, .inl (kI, 40, .inl (cA E)))]) [0, 1, 2, 3, 4, 5] rfl) hK rfl (q0 := 0) rfl) rfl rfl hl.1 rfl (lv_room (Nat.le_of_ble_eq_true rfl)) dX2_mergeCongruent_36 ⟨Nat.zero_le _, Nat.zero_le _⟩) (fun r hres => ?_)
  subst hres
  refine cx_if0 (tgt := 55) hx hb dX2_mergeCongruent_39 (by decide) (fun b3 => ?_) (fun b3 => ?_)
  · skip
    refine lv_iinc (k := 1) (v := nI (q + 1)) hx hb dX2_mergeCongruent_55 hl rfl cx_inc1 (by decide) rfl (fun ls hl => ?_)
    have hl : lv_has ls 5 [(4, .int (nI (q + 1))), (2, .int (bI ch2)), (0, .ref zc), (1, .ref zt), (3, .int (nI v))] := hl
    refine lv_goto (tgt := 15) hx hb dX2_mergeCongruent_58 (by decide) ?_
    exact ih2 (q + 1) ch2 g2 _ _ _ ⟨lv_sub hl [1, 0, 2, 3, 4] rfl, hP, hD, hS, (by first | assumption | omega | rfl), (by first | exact cg_in_y hg2 (of_decide_eq_false b2) (of_decide_eq_true b3) | exact cg_in_n hg2 (Or.inl (of_decide_eq_true b2)) | exact cg_in_n hg2 (Or.inr (of_decide_eq_false b3)))⟩ (by show v - (q + 1) < v - q; omega)
  refine lv_aload_n hx hb dX2_mergeCongruent_42 rfl (lv_at hl 2 rfl) ?_
  refine lv_iload hx hb dX2_mergeCongruent_43 (lv_at hl 1 rfl) ?_
  refine lv_iload_n hx hb dX2_mergeCongruent_45 rfl (lv_at hl 4 rfl) ?_
  refine lv_aload_n hx hb dX2_mergeCongruent_46 rfl (lv_at hl 3 rfl) ?_
  refine va_get (D := (dC, dI)) (ci := 3) (v := .int (nI n)) (C := RX3) (T := TX3) (N := 4) hx hb hts (tb_c tbX3) hown hK hP 2 rfl rfl 3 (by decide) (hw _ tw_36) (fun _ h9 => h9) rfl dX2_mergeCongruent_47 ?_
  refine cx_mv (wc := [(zc, .inr (2, [.ref zd])), (zd, .inl (kI, 40, .inl (cI g2)))]) (wr := [(zt, .inr (3, [.ref zs, .ref zf, .ref ze, .int (nI n)])), (zs, .inl (kI, 40, .inl S)), (zf, .inl (kI, 40, .inl (cA F))), (ze, .inl (kI, 40, .inl (cA E)))]) hP hD hS hA [0, 1] [2, 3, 4, 5] rfl rfl (by decide) (by decide) (va_runV (As := [.int (nI q), .int (nI v), .int (nI n)]) (rest := []) ⟨hx, hb, hml, hown, hts⟩ (c_X2_merge l dC dI kI kL zc zd g2 n q v (by first | assumption | omega | rfl) (by first | assumption | omega | rfl) (by first | assumption | omega | rfl) (by first | assumption | omega | rfl) _) (cwV 3 hts gv_X2_46 rfl rfl rfl hdX2_merge ⟨Nat.le_of_ble_eq_true rfl, Nat.le_of_ble_eq_true rfl⟩) (cx_mreV (hP.sub (ws' := [(zc, .inr (2, [.ref zd])), (zd, .inl (kI, 40, .inl (cI g2)))]) [0, 1] rfl) hK (hD.sub (ws' := [(zc, .inr (2, [.ref zd])), (zd, .inl (kI, 40, .inl (cI g2)))]) [0, 1] (by decide) rfl) rfl (q0 := 0) rfl) rfl rfl hl.1 rfl (lv_room (Nat.le_of_ble_eq_true rfl)) dX2_mergeCongruent_50 ⟨Nat.zero_le _, Nat.zero_le _⟩) (fun u50 H locs hres hP hD hS => ?_)
  have hP : va_P (dC, dI) vwCl [(zc, .inr (2, [.ref zd])), (zd, .inl (kI, 40, .inl (cI (cg_mg n g2 q v)))), (zt, .inr (3, [.ref zs, .ref zf, .ref ze, .int (nI n)])), (zs, .inl (kI, 40, .inl S)), (zf, .inl (kI, 40, .inl (cA F))), (ze, .inl (kI, 40, .inl (cA E)))] H := hP.sub (ws' := [(zc, .inr (2, [.ref zd])), (zd, .inl (kI, 40, .inl (cI (cg_mg n g2 q v)))), (zt, .inr (3, [.ref zs, .ref zf, .ref ze, .int (nI n)])), (zs, .inl (kI, 40, .inl S)), (zf, .inl (kI, 40, .inl (cA F))), (ze, .inl (kI, 40, .inl (cA E)))]) [4, 5, 0, 1, 2, 3] rfl
  have hD : va_D AA [(zc, .inr (2, [.ref zd])), (zd, .inl (kI, 40, .inl (cI (cg_mg n g2 q v)))), (zt, .inr (3, [.ref zs, .ref zf, .ref ze, .int (nI n)])), (zs, .inl (kI, 40, .inl S)), (zf, .inl (kI, 40, .inl (cA F))), (ze, .inl (kI, 40, .inl (cA E)))] := hD.sub (ws' := [(zc, .inr (2, [.ref zd])), (zd, .inl (kI, 40, .inl (cI (cg_mg n g2 q v)))), (zt, .inr (3, [.ref zs, .ref zf, .ref ze, .int (nI n)])), (zs, .inl (kI, 40, .inl S)), (zf, .inl (kI, 40, .inl (cA F))), (ze, .inl (kI, 40, .inl (cA E)))]) [4, 5, 0, 1, 2, 3] (by decide) rfl
  refine lv_iconst (v := nI 1) hx hb dX2_mergeCongruent_53 (by decide) ?_
  refine lv_istore_n hx hb dX2_mergeCongruent_54 rfl hl (by decide) rfl (fun ls hl => ?_)
  have hl : lv_has ls 5 [(2, .int (nI 1)), (4, .int (nI q)), (0, .ref zc), (1, .ref zt), (3, .int (nI v))] := hl
  refine lv_iinc (k := 1) (v := nI (q + 1)) hx hb dX2_mergeCongruent_55 hl rfl cx_inc1 (by decide) rfl (fun ls hl => ?_)
  have hl : lv_has ls 5 [(4, .int (nI (q + 1))), (2, .int (nI 1)), (0, .ref zc), (1, .ref zt), (3, .int (nI v))] := hl
  refine lv_goto (tgt := 15) hx hb dX2_mergeCongruent_58 (by decide) ?_
  exact ih2 (q + 1) true (cg_mg n g2 q v) _ _ _ ⟨lv_sub hl [1, 0, 2, 3, 4] rfl, hP, hD, hS, (by first | assumption | omega | rfl), (by first | exact cg_in_y hg2 (of_decide_eq_false b2) (of_decide_eq_true b3) | exact cg_in_n hg2 (Or.inl (of_decide_eq_true b2)) | exact cg_in_n hg2 (Or.inr (of_decide_eq_false b3)))⟩ (by show v - (q + 1) < v - q; omega)

set_option maxHeartbeats 4000000 in
set_option maxRecDepth 100000 in
theorem c_X2_settle (l : Launch) (dC : Nat → ClassId) (dI : Nat → Nat → Nat) (kI kL : ClassId) (zc : Nat) (zd : Nat) (f : Nat → Nat) (zt : Nat) (zs : Nat) (zf : Nat) (ze : Nat) (n : Nat) (S : Nat → Int32) (F : Nat → Nat) (E : Nat → Nat) (zp : Nat) (zl : Nat) (zr : Nat) (k : Nat) (mx : Nat) (lf : Nat → Nat) (rt : Nat → Nat) (x : Int32) (qn : n ≤ 40) (qw : cg_wf (S, F, E) n) (qk : k ≤ 24) (qm : k ≤ mx) (qmx : mx < 2 ^ 31) (qe : cg_we n lf rt k) (sz : Nat) : Met l yX2_settle (.code yX2_settle cX2_settle 6 none :: tbw) { frames := 5, cells := 0, slots := 0, locals := 116 } (va_Pc [.ref zc, .ref zt, .ref zp, .int x] (cx_M (dC, dI) vwCl [(zc, .inr (2, [.ref zd])), (zd, .inl (kI, 40, .inl (cI f))), (zt, .inr (3, [.ref zs, .ref zf, .ref ze, .int (nI n)])), (zs, .inl (kI, 40, .inl S)), (zf, .inl (kI, 40, .inl (cA F))), (ze, .inl (kI, 40, .inl (cA E))), (zp, .inr (1, [.ref zl, .ref zr, .int (nI k)])), (zl, .inl (kI, mx, .inl (cI lf))), (zr, .inl (kI, mx, .inl (cI rt)))] [(kI, .int), (kL, .long)] sz)) (va_Qv (fun (u : Nat → Nat) => ∀ z, z < n → u z = cg_lab (S, F, E) n lf rt (bt x) k z) (cx_B (dC, dI) vwCl (va_A [(zc, .inr (2, [.ref zd])), (zd, .inl (kI, 40, .inl (cI f))), (zt, .inr (3, [.ref zs, .ref zf, .ref ze, .int (nI n)])), (zs, .inl (kI, 40, .inl S)), (zf, .inl (kI, 40, .inl (cA F))), (ze, .inl (kI, 40, .inl (cA E))), (zp, .inr (1, [.ref zl, .ref zr, .int (nI k)])), (zl, .inl (kI, mx, .inl (cI lf))), (zr, .inl (kI, mx, .inl (cI rt)))] sz) (fun u : Nat → Nat => [(zc, .inr (2, [.ref zd])), (zd, .inl (kI, 40, .inl (cI u))), (zt, .inr (3, [.ref zs, .ref zf, .ref ze, .int (nI n)])), (zs, .inl (kI, 40, .inl S)), (zf, .inl (kI, 40, .inl (cA F))), (ze, .inl (kI, 40, .inl (cA E))), (zp, .inr (1, [.ref zl, .ref zr, .int (nI k)])), (zl, .inl (kI, mx, .inl (cI lf))), (zr, .inl (kI, mx, .inl (cI rt)))])) (va_A [(zc, .inr (2, [.ref zd])), (zd, .inl (kI, 40, .inl (cI f))), (zt, .inr (3, [.ref zs, .ref zf, .ref ze, .int (nI n)])), (zs, .inl (kI, 40, .inl S)), (zf, .inl (kI, 40, .inl (cA F))), (ze, .inl (kI, 40, .inl (cA E))), (zp, .inr (1, [.ref zl, .ref zr, .int (nI k)])), (zl, .inl (kI, mx, .inl (cI lf))), (zr, .inl (kI, mx, .inl (cI rt)))] sz)) 0 0 (va_A [(zc, .inr (2, [.ref zd])), (zd, .inl (kI, 40, .inl (cI f))), (zt, .inr (3, [.ref zs, .ref zf, .ref ze, .int (nI n)])), (zs, .inl (kI, 40, .inl S)), (zf, .inl (kI, 40, .inl (cA F))), (ze, .inl (kI, 40, .inl (cA E))), (zp, .inr (1, [.ref zl, .ref zr, .int (nI k)])), (zl, .inl (kI, mx, .inl (cI lf))), (zr, .inl (kI, mx, .inl (cI rt)))] sz) := by
  refine Met.ofW (cc := cX2_settle) (maxL := 6) (ret := none) (by decide) rfl ?_
  intro p e s m args below meth c s₁ B hml hv
  obtain ⟨rfl, hsz, hP, hK, hD0⟩ := hv
  have hx := B.exec
  have hb := B.bytes
  have hr := B.returns
  have hts := atoms_spec (ws := .code yX2_settle cX2_settle 6 none :: tbw) B.pre
  have hw : ∀ w ∈ tbw, w.before _ s = true := fun w h => hts w (List.mem_cons_of_mem _ h)
  have hown : s.vm.findClass RX2 = some m.cls := findClass_of_methodNamed B.named
  subst hsz
  have hD := hD0.self (sz := s.heap.size)
  generalize hAe : va_A [(zc, .inr (2, [.ref zd])), (zd, .inl (kI, 40, .inl (cI f))), (zt, .inr (3, [.ref zs, .ref zf, .ref ze, .int (nI n)])), (zs, .inl (kI, 40, .inl S)), (zf, .inl (kI, 40, .inl (cA F))), (ze, .inl (kI, 40, .inl (cA E))), (zp, .inr (1, [.ref zl, .ref zr, .int (nI k)])), (zl, .inl (kI, mx, .inl (cI lf))), (zr, .inl (kI, mx, .inl (cI rt)))] s.heap.size = AA at hD ⊢
  have hA : ∀ q : Nat, s.heap.size ≤ q → AA q := fun q h => by rw [← hAe]; exact Or.inr h
  have hS : va_S AA s.heap s.heap [] := va_S.rf
  have hP : va_P (dC, dI) vwCl [(zc, .inr (2, [.ref zd])), (zd, .inl (kI, 40, .inl (cI f))), (zt, .inr (3, [.ref zs, .ref zf, .ref ze, .int (nI n)])), (zs, .inl (kI, 40, .inl S)), (zf, .inl (kI, 40, .inl (cA F))), (ze, .inl (kI, 40, .inl (cA E))), (zp, .inr (1, [.ref zl, .ref zr, .int (nI k)])), (zl, .inl (kI, mx, .inl (cI lf))), (zr, .inl (kI, mx, .inl (cI rt)))] s.heap := hP
  have hl := lv_entry ([.ref zc, .ref zt, .ref zp, .int x]) (n := 6) (Nat.le_of_ble_eq_true rfl)
  rw [lg_entry_eq]
  generalize (lg_sl ([.ref zc, .ref zt, .ref zp, .int x]) ++ List.replicate (6 - (lg_sl ([.ref zc, .ref zt, .ref zp, .int x])).length) Slot.unset).toArray = ls at hl ⊢
  have hl : lv_has ls 6 [(0, .ref zc), (1, .ref zt), (2, .ref zp), (3, .int x)] := hl
  refine lv_iconst (v := nI 0) hx hb dX2_settle_0 (by decide) ?_
  refine lv_istore hx hb dX2_settle_1 hl (by decide) rfl (fun ls hl => ?_)
  have hl : lv_has ls 6 [(4, .int (nI 0)), (0, .ref zc), (1, .ref zt), (2, .ref zp), (3, .int x)] := hl
  refine cx_loop2 (fun (v : Nat) (g : Nat → Nat) (H : Heap) (locs : List Loc) (ls : Array Slot) => lv_has ls 6 [(4, .int (nI v)), (0, .ref zc), (1, .ref zt), (2, .ref zp), (3, .int x)] ∧ va_P (dC, dI) vwCl [(zc, .inr (2, [.ref zd])), (zd, .inl (kI, 40, .inl (cI g))), (zt, .inr (3, [.ref zs, .ref zf, .ref ze, .int (nI n)])), (zs, .inl (kI, 40, .inl S)), (zf, .inl (kI, 40, .inl (cA F))), (ze, .inl (kI, 40, .inl (cA E))), (zp, .inr (1, [.ref zl, .ref zr, .int (nI k)])), (zl, .inl (kI, mx, .inl (cI lf))), (zr, .inl (kI, mx, .inl (cI rt)))] H ∧ va_D AA [(zc, .inr (2, [.ref zd])), (zd, .inl (kI, 40, .inl (cI g))), (zt, .inr (3, [.ref zs, .ref zf, .ref ze, .int (nI n)])), (zs, .inl (kI, 40, .inl S)), (zf, .inl (kI, 40, .inl (cA F))), (ze, .inl (kI, 40, .inl (cA E))), (zp, .inr (1, [.ref zl, .ref zr, .int (nI k)])), (zl, .inl (kI, mx, .inl (cI lf))), (zr, .inl (kI, mx, .inl (cI rt)))] ∧ va_S AA s.heap H locs ∧ (v ≤ n) ∧ (∀ u, u < v → g u = u)) (fun v g => n - v) (fun v g H locs ls hI ih1 => ?_) 0 f ⟨lv_sub hl [0, 1, 2, 3, 4] rfl, hP, hD, hS, (by first | assumption | omega | rfl), (fun u h => absurd h (Nat.not_lt_zero u))⟩
  obtain ⟨hl, hP, hD, hS, hv1, hg⟩ := hI
  refine lv_iload hx hb dX2_settle_3 (lv_at hl 0 rfl) ?_
  refine lv_aload_n hx hb dX2_settle_5 rfl (lv_at hl 2 rfl) ?_
  refine va_get (D := (dC, dI)) (ci := 3) (v := .int (nI n)) (C := RX3) (T := TX3) (N := 4) hx hb hts (tb_c tbX3) hown hK hP 2 rfl rfl 3 (by decide) (hw _ tw_36) (fun _ h9 => h9) rfl dX2_settle_6 ?_
  refine cx_ge (x := v) (y := n) (tgt := 27) hx hb dX2_settle_9 (by decide) (by first | omega | exact hB _ (by omega) | exact Nat.lt_of_lt_of_le (hB _ (by omega)) (by omega)) (by first | omega | exact hB _ (by omega) | exact Nat.lt_of_lt_of_le (hB _ (by omega)) (by omega)) (fun b0 => ?_) (fun b0 => ?_)
  · skip
    refine lv_iconst (v := nI 0) hx hb dX2_settle_27 (by decide) ?_
    refine lv_istore hx hb dX2_settle_28 hl (by decide) rfl (fun ls hl => ?_)
    have hl : lv_has ls 6 [(4, .int (nI 0)), (0, .ref zc), (1, .ref zt), (2, .ref zp), (3, .int x)] := hl
    refine cx_loop2 (fun (q : Nat) (g2 : Nat → Nat) (H : Heap) (locs : List Loc) (ls : Array Slot) => lv_has ls 6 [(4, .int (nI q)), (0, .ref zc), (1, .ref zt), (2, .ref zp), (3, .int x)] ∧ va_P (dC, dI) vwCl [(zc, .inr (2, [.ref zd])), (zd, .inl (kI, 40, .inl (cI g2))), (zt, .inr (3, [.ref zs, .ref zf, .ref ze, .int (nI n)])), (zs, .inl (kI, 40, .inl S)), (zf, .inl (kI, 40, .inl (cA F))), (ze, .inl (kI, 40, .inl (cA E))), (zp, .inr (1, [.ref zl, .ref zr, .int (nI k)])), (zl, .inl (kI, mx, .inl (cI lf))), (zr, .inl (kI, mx, .inl (cI rt)))] H ∧ va_D AA [(zc, .inr (2, [.ref zd])), (zd, .inl (kI, 40, .inl (cI g2))), (zt, .inr (3, [.ref zs, .ref zf, .ref ze, .int (nI n)])), (zs, .inl (kI, 40, .inl S)), (zf, .inl (kI, 40, .inl (cA F))), (ze, .inl (kI, 40, .inl (cA E))), (zp, .inr (1, [.ref zl, .ref zr, .int (nI k)])), (zl, .inl (kI, mx, .inl (cI lf))), (zr, .inl (kI, mx, .inl (cI rt)))] ∧ va_S AA s.heap H locs ∧ (q ≤ k) ∧ (∀ u, u < n → g2 u = cg_eq n lf rt (bt x) q u)) (fun q g2 => k - q) (fun q g2 H locs ls hI ih2 => ?_) 0 g ⟨lv_sub hl [0, 1, 2, 3, 4] rfl, hP, hD, hS, (by first | assumption | omega | rfl), (fun u h => hg u (by omega))⟩
    obtain ⟨hl, hP, hD, hS, hq, hg2⟩ := hI
    have hB := cg_eq_B hg2 qe hq
    refine lv_iload hx hb dX2_settle_30 (lv_at hl 0 rfl) ?_
    refine lv_aload_n hx hb dX2_settle_32 rfl (lv_at hl 3 rfl) ?_
    refine va_get (D := (dC, dI)) (ci := 1) (v := .int (nI k)) (C := RX1) (T := TX1) (N := 3) hx hb hts (tb_c tbX1) hown hK hP 6 rfl rfl 2 (by decide) (hw _ tw_61) (fun _ h9 => h9) rfl dX2_settle_33 ?_
    refine cx_ge (x := q) (y := k) (tgt := 76) hx hb dX2_settle_36 (by decide) (by first | omega | exact hB _ (by omega) | exact Nat.lt_of_lt_of_le (hB _ (by omega)) (by omega)) (by first | omega | exact hB _ (by omega) | exact Nat.lt_of_lt_of_le (hB _ (by omega)) (by omega)) (fun b1 => ?_) (fun b1 => ?_)
    · skip
      refine lv_iconst (v := nI 1) hx hb dX2_settle_76 (by decide) ?_
      refine lv_istore hx hb dX2_settle_77 hl (by decide) rfl (fun ls hl => ?_)
      have hl : lv_has ls 6 [(4, .int (nI 1)), (0, .ref zc), (1, .ref zt), (2, .ref zp), (3, .int x)] := hl
      refine lv_iconst (v := nI 0) hx hb dX2_settle_79 (by decide) ?_
      refine lv_istore hx hb dX2_settle_80 hl (by decide) rfl (fun ls hl => ?_)
      have hl : lv_has ls 6 [(5, .int (nI 0)), (4, .int (nI 1)), (0, .ref zc), (1, .ref zt), (2, .ref zp), (3, .int x)] := hl
      refine cx_loop3 (fun (r9 : Nat) (ch : Bool) (g3 : Nat → Nat) (H : Heap) (locs : List Loc) (ls : Array Slot) => lv_has ls 6 [(4, .int (bI ch)), (5, .int (nI r9)), (0, .ref zc), (1, .ref zt), (2, .ref zp), (3, .int x)] ∧ va_P (dC, dI) vwCl [(zc, .inr (2, [.ref zd])), (zd, .inl (kI, 40, .inl (cI g3))), (zt, .inr (3, [.ref zs, .ref zf, .ref ze, .int (nI n)])), (zs, .inl (kI, 40, .inl S)), (zf, .inl (kI, 40, .inl (cA F))), (ze, .inl (kI, 40, .inl (cA E))), (zp, .inr (1, [.ref zl, .ref zr, .int (nI k)])), (zl, .inl (kI, mx, .inl (cI lf))), (zr, .inl (kI, mx, .inl (cI rt)))] H ∧ va_D AA [(zc, .inr (2, [.ref zd])), (zd, .inl (kI, 40, .inl (cI g3))), (zt, .inr (3, [.ref zs, .ref zf, .ref ze, .int (nI n)])), (zs, .inl (kI, 40, .inl S)), (zf, .inl (kI, 40, .inl (cA F))), (ze, .inl (kI, 40, .inl (cA E))), (zp, .inr (1, [.ref zl, .ref zr, .int (nI k)])), (zl, .inl (kI, mx, .inl (cI lf))), (zr, .inl (kI, mx, .inl (cI rt)))] ∧ va_S AA s.heap H locs ∧ (r9 ≤ n) ∧ (∀ u, u < n → g3 u = cg_it (S, F, E) n (cg_eq n lf rt (bt x) k) r9 u) ∧ (ch = true ∨ cg_fx (S, F, E) n (cg_it (S, F, E) n (cg_eq n lf rt (bt x) k) r9))) (fun r9 ch g3 => n - r9) (fun r9 ch g3 H locs ls hI ih3 => ?_) 0 true g2 ⟨lv_sub hl [1, 0, 2, 3, 4, 5] rfl, hP, hD, hS, (by first | assumption | omega | rfl), (by rw [← Nat.le_antisymm hq b1]; exact hg2), (Or.inl rfl)⟩
      obtain ⟨hl, hP, hD, hS, hr9, hg3, hch⟩ := hI
      refine lv_iload hx hb dX2_settle_82 (lv_at hl 1 rfl) ?_
      refine lv_aload_n hx hb dX2_settle_84 rfl (lv_at hl 3 rfl) ?_
      refine va_get (D := (dC, dI)) (ci := 3) (v := .int (nI n)) (C := RX3) (T := TX3) (N := 4) hx hb hts (tb_c tbX3) hown hK hP 2 rfl rfl 3 (by decide) (hw _ tw_36) (fun _ h9 => h9) rfl dX2_settle_85 ?_
      refine cx_ge (x := r9) (y := n) (tgt := 109) hx hb dX2_settle_88 (by decide) (by first | omega | exact hB _ (by omega) | exact Nat.lt_of_lt_of_le (hB _ (by omega)) (by omega)) (by first | omega | exact hB _ (by omega) | exact Nat.lt_of_lt_of_le (hB _ (by omega)) (by omega)) (fun b3 => ?_) (fun b3 => ?_)
      · skip
        exact W.vret hx hb hr (fun t ht hW => ⟨⟨g3, rfl, cg_re qe hg3 hch (by first | exact Or.inl b3 | exact Or.inr b4), by rw [ht]; exact hP, hD⟩, hS.F ht⟩) hS.2.2 dX2_settle_109
      refine lv_iload hx hb dX2_settle_91 (lv_at hl 0 rfl) ?_
      refine cx_if0 (tgt := 109) hx hb dX2_settle_93 (by decide) (fun b4 => ?_) (fun b4 => ?_)
      · skip
        exact W.vret hx hb hr (fun t ht hW => ⟨⟨g3, rfl, cg_re qe hg3 hch (by first | exact Or.inl b3 | exact Or.inr b4), by rw [ht]; exact hP, hD⟩, hS.F ht⟩) hS.2.2 dX2_settle_109
      refine lv_aload_n hx hb dX2_settle_96 rfl (lv_at hl 2 rfl) ?_
      refine lv_aload_n hx hb dX2_settle_97 rfl (lv_at hl 3 rfl) ?_
      refine cx_mi (wc := [(zc, .inr (2, [.ref zd])), (zd, .inl (kI, 40, .inl (cI g3))), (zt, .inr (3, [.ref zs, .ref zf, .ref ze, .int (nI n)])), (zs, .inl (kI, 40, .inl S)), (zf, .inl (kI, 40, .inl (cA F))), (ze, .inl (kI, 40, .inl (cA E)))]) (wr := [(zp, .inr (1, [.ref zl, .ref zr, .int (nI k)])), (zl, .inl (kI, mx, .inl (cI lf))), (zr, .inl (kI, mx, .inl (cI rt)))]) hP hD hS hA [0, 1, 2, 3, 4, 5] [6, 7, 8] rfl rfl (by decide) (by decide) (va_runV (As := [.ref zt]) (rest := []) ⟨hx, hb, hml, hown, hts⟩ (c_X2_mergeCongruent l dC dI kI kL zc zd g3 zt zs zf ze n S F E (by first | assumption | omega | rfl) (cg_ok_ag hg3 (cg_it_ok (cg_eq_ok k qe) r9)) (by first | assumption | omega | rfl) _) (cwV 1 hts gv_X2_50 rfl rfl rfl hdX2_mergeCongruent ⟨Nat.le_of_ble_eq_true rfl, Nat.le_of_ble_eq_true rfl⟩) (cx_mreV (hP.sub (ws' := [(zc, .inr (2, [.ref zd])), (zd, .inl (kI, 40, .inl (cI g3))), (zt, .inr (3, [.ref zs, .ref zf, .ref ze, .int (nI n)])), (zs, .inl (kI, 40, .inl S)), (zf, .inl (kI, 40, .inl (cA F))), (ze, .inl (kI, 40, .inl (cA E)))]) [0, 1, 2, 3, 4, 5] rfl) hK (hD.sub (ws' := [(zc, .inr (2, [.ref zd])), (zd, .inl (kI, 40, .inl (cI g3))), (zt, .inr (3, [.ref zs, .ref zf, .ref ze, .int (nI n)])), (zs, .inl (kI, 40, .inl S)), (zf, .inl (kI, 40, .inl (cA F))), (ze, .inl (kI, 40, .inl (cA E)))]) [0, 1, 2, 3, 4, 5] (by decide) rfl) rfl (q0 := 0) rfl) rfl rfl hl.1 rfl (lv_room (Nat.le_of_ble_eq_true rfl)) dX2_settle_98 ⟨Nat.zero_le _, Nat.zero_le _⟩) (fun r u98 H locs hres hP hD hS => ?_)
      subst hres
      have hP : va_P (dC, dI) vwCl [(zc, .inr (2, [.ref zd])), (zd, .inl (kI, 40, .inl (cI ((cg_rd (S, F, E) n g3).1)))), (zt, .inr (3, [.ref zs, .ref zf, .ref ze, .int (nI n)])), (zs, .inl (kI, 40, .inl S)), (zf, .inl (kI, 40, .inl (cA F))), (ze, .inl (kI, 40, .inl (cA E))), (zp, .inr (1, [.ref zl, .ref zr, .int (nI k)])), (zl, .inl (kI, mx, .inl (cI lf))), (zr, .inl (kI, mx, .inl (cI rt)))] H := hP.sub (ws' := [(zc, .inr (2, [.ref zd])), (zd, .inl (kI, 40, .inl (cI ((cg_rd (S, F, E) n g3).1)))), (zt, .inr (3, [.ref zs, .ref zf, .ref ze, .int (nI n)])), (zs, .inl (kI, 40, .inl S)), (zf, .inl (kI, 40, .inl (cA F))), (ze, .inl (kI, 40, .inl (cA E))), (zp, .inr (1, [.ref zl, .ref zr, .int (nI k)])), (zl, .inl (kI, mx, .inl (cI lf))), (zr, .inl (kI, mx, .inl (cI rt)))]) [3, 4, 5, 6, 7, 8, 0, 1, 2] rfl
      have hD : va_D AA [(zc, .inr (2, [.ref zd])), (zd, .inl (kI, 40, .inl (cI ((cg_rd (S, F, E) n g3).1)))), (zt, .inr (3, [.ref zs, .ref zf, .ref ze, .int (nI n)])), (zs, .inl (kI, 40, .inl S)), (zf, .inl (kI, 40, .inl (cA F))), (ze, .inl (kI, 40, .inl (cA E))), (zp, .inr (1, [.ref zl, .ref zr, .int (nI k)])), (zl, .inl (kI, mx, .inl (cI lf))), (zr, .inl (kI, mx, .inl (cI rt)))] := hD.sub (ws' := [(zc, .inr (2, [.ref zd])), (zd, .inl (kI, 40, .inl (cI ((cg_rd (S, F, E) n g3).1)))), (zt, .inr (3, [.ref zs, .ref zf, .ref ze, .int (nI n)])), (zs, .inl (kI, 40, .inl S)), (zf, .inl (kI, 40, .inl (cA F))), (ze, .inl (kI, 40, .inl (cA E))), (zp, .inr (1, [.ref zl, .ref zr, .int (nI k)])), (zl, .inl (kI, mx, .inl (cI lf))), (zr, .inl (kI, mx, .inl (cI rt)))]) [3, 4, 5, 6, 7, 8, 0, 1, 2] (by decide) rfl
      refine lv_istore hx hb dX2_settle_101 hl (by decide) rfl (fun ls hl => ?_)
      have hl : lv_has ls 6 [(4, .int (bI ((cg_rd (S, F, E) n g3).2))), (5, .int (nI r9)), (0, .ref zc), (1, .ref zt), (2, .ref zp), (3, .int x)] := hl
      refine lv_iinc (k := 1) (v := nI (r9 + 1)) hx hb dX2_settle_103 hl rfl cx_inc1 (by decide) rfl (fun ls hl => ?_)
      have hl : lv_has ls 6 [(5, .int (nI (r9 + 1))), (4, .int (bI ((cg_rd (S, F, E) n g3).2))), (0, .ref zc), (1, .ref zt), (2, .ref zp), (3, .int x)] := hl
      refine lv_goto (tgt := 82) hx hb dX2_settle_106 (by decide) ?_
      exact ih3 (r9 + 1) ((cg_rd (S, F, E) n g3).2) ((cg_rd (S, F, E) n g3).1) _ _ _ ⟨lv_sub hl [1, 0, 2, 3, 4, 5] rfl, hP, hD, hS, (by first | assumption | omega | rfl), (cg_rs qw hg3), (cg_rc qw (cg_eq_ok k qe) hg3)⟩ (by show n - (r9 + 1) < n - r9; omega)
    refine lv_iload_n hx hb dX2_settle_39 rfl (lv_at hl 4 rfl) ?_
    refine lv_iconst (v := nI 1) hx hb dX2_settle_40 (by decide) ?_
    refine lv_iload hx hb dX2_settle_41 (lv_at hl 0 rfl) ?_
    refine lv_ishl hx hb dX2_settle_43 ?_
    refine lv_iand hx hb dX2_settle_44 ?_
    refine lv_if_eq (tgt := 70) hx hb dX2_settle_45 (by decide) (fun b2 => ?_) (fun b2 => ?_)
    · skip
      refine lv_iinc (k := 0) (v := nI (q + 1)) hx hb dX2_settle_70 hl rfl cx_inc1 (by decide) rfl (fun ls hl => ?_)
      have hl : lv_has ls 6 [(4, .int (nI (q + 1))), (0, .ref zc), (1, .ref zt), (2, .ref zp), (3, .int x)] := hl
      refine lv_goto (tgt := 30) hx hb dX2_settle_73 (by decide) ?_
      exact ih2 (q + 1) g2 _ _ _ ⟨lv_sub hl [0, 1, 2, 3, 4] rfl, hP, hD, hS, (by first | assumption | omega | rfl), (by first | exact cg_eq_y hg2 (qe q b1).1 (qe q b1).2 (by cases h9 : bt x q with | true => rfl | false => exact absurd ((cb_test (by omega)).mpr h9) b2) | exact cg_eq_n hg2 ((cb_test (by omega)).mp b2))⟩ (by show k - (q + 1) < k - q; omega)
    refine lv_aload_n hx hb dX2_settle_48 rfl (lv_at hl 1 rfl) ?_
    refine lv_aload_n hx hb dX2_settle_49 rfl (lv_at hl 3 rfl) ?_
    refine va_get (D := (dC, dI)) (ci := 1) (v := .ref zl) (C := RX1) (T := TX1) (N := 3) hx hb hts (tb_c tbX1) hown hK hP 6 rfl rfl 0 (by decide) (hw _ tw_54) (fun _ h9 => h9) rfl dX2_settle_50 ?_
    refine lv_iload hx hb dX2_settle_53 (lv_at hl 0 rfl) ?_
    refine cx_iald hx hb hK hP 7 0 rfl rfl (by first | decide | omega) (v := nI (lf q)) (i := q) rfl (by first | omega | exact hB _ (by omega) | exact Nat.lt_of_lt_of_le (hB _ (by omega)) (by omega)) dX2_settle_55 ?_
    refine lv_aload_n hx hb dX2_settle_56 rfl (lv_at hl 3 rfl) ?_
    refine va_get (D := (dC, dI)) (ci := 1) (v := .ref zr) (C := RX1) (T := TX1) (N := 3) hx hb hts (tb_c tbX1) hown hK hP 6 rfl rfl 1 (by decide) (hw _ tw_57) (fun _ h9 => h9) rfl dX2_settle_57 ?_
    refine lv_iload hx hb dX2_settle_60 (lv_at hl 0 rfl) ?_
    refine cx_iald hx hb hK hP 8 0 rfl rfl (by first | decide | omega) (v := nI (rt q)) (i := q) rfl (by first | omega | exact hB _ (by omega) | exact Nat.lt_of_lt_of_le (hB _ (by omega)) (by omega)) dX2_settle_62 ?_
    refine lv_aload_n hx hb dX2_settle_63 rfl (lv_at hl 2 rfl) ?_
    refine va_get (D := (dC, dI)) (ci := 3) (v := .int (nI n)) (C := RX3) (T := TX3) (N := 4) hx hb hts (tb_c tbX3) hown hK hP 2 rfl rfl 3 (by decide) (hw _ tw_36) (fun _ h9 => h9) rfl dX2_settle_64 ?_
    refine cx_mv (wc := [(zc, .inr (2, [.ref zd])), (zd, .inl (kI, 40, .inl (cI g2)))]) (wr := [(zt, .inr (3, [.ref zs, .ref zf, .ref ze, .int (nI n)])), (zs, .inl (kI, 40, .inl S)), (zf, .inl (kI, 40, .inl (cA F))), (ze, .inl (kI, 40, .inl (cA E))), (zp, .inr (1, [.ref zl, .ref zr, .int (nI k)])), (zl, .inl (kI, mx, .inl (cI lf))), (zr, .inl (kI, mx, .inl (cI rt)))]) hP hD hS hA [0, 1] [2, 3, 4, 5, 6, 7, 8] rfl rfl (by decide) (by decide) (va_runV (As := [.int (nI (lf q)), .int (nI (rt q)), .int (nI n)]) (rest := []) ⟨hx, hb, hml, hown, hts⟩ (c_X2_merge l dC dI kI kL zc zd g2 n (lf q) (rt q) (by first | assumption | omega | rfl) (by first | assumption | omega | rfl) ((qe q b1).1) ((qe q b1).2) _) (cwV 3 hts gv_X2_46 rfl rfl rfl hdX2_merge ⟨Nat.le_of_ble_eq_true rfl, Nat.le_of_ble_eq_true rfl⟩) (cx_mreV (hP.sub (ws' := [(zc, .inr (2, [.ref zd])), (zd, .inl (kI, 40, .inl (cI g2)))]) [0, 1] rfl) hK (hD.sub (ws' := [(zc, .inr (2, [.ref zd])), (zd, .inl (kI, 40, .inl (cI g2)))]) [0, 1] (by decide) rfl) rfl (q0 := 0) rfl) rfl rfl hl.1 rfl (lv_room (Nat.le_of_ble_eq_true rfl)) dX2_settle_67 ⟨Nat.zero_le _, Nat.zero_le _⟩) (fun u67 H locs hres hP hD hS => ?_)
    have hP : va_P (dC, dI) vwCl [(zc, .inr (2, [.ref zd])), (zd, .inl (kI, 40, .inl (cI (cg_mg n g2 (lf q) (rt q))))), (zt, .inr (3, [.ref zs, .ref zf, .ref ze, .int (nI n)])), (zs, .inl (kI, 40, .inl S)), (zf, .inl (kI, 40, .inl (cA F))), (ze, .inl (kI, 40, .inl (cA E))), (zp, .inr (1, [.ref zl, .ref zr, .int (nI k)])), (zl, .inl (kI, mx, .inl (cI lf))), (zr, .inl (kI, mx, .inl (cI rt)))] H := hP.sub (ws' := [(zc, .inr (2, [.ref zd])), (zd, .inl (kI, 40, .inl (cI (cg_mg n g2 (lf q) (rt q))))), (zt, .inr (3, [.ref zs, .ref zf, .ref ze, .int (nI n)])), (zs, .inl (kI, 40, .inl S)), (zf, .inl (kI, 40, .inl (cA F))), (ze, .inl (kI, 40, .inl (cA E))), (zp, .inr (1, [.ref zl, .ref zr, .int (nI k)])), (zl, .inl (kI, mx, .inl (cI lf))), (zr, .inl (kI, mx, .inl (cI rt)))]) [7, 8, 0, 1, 2, 3, 4, 5, 6] rfl
    have hD : va_D AA [(zc, .inr (2, [.ref zd])), (zd, .inl (kI, 40, .inl (cI (cg_mg n g2 (lf q) (rt q))))), (zt, .inr (3, [.ref zs, .ref zf, .ref ze, .int (nI n)])), (zs, .inl (kI, 40, .inl S)), (zf, .inl (kI, 40, .inl (cA F))), (ze, .inl (kI, 40, .inl (cA E))), (zp, .inr (1, [.ref zl, .ref zr, .int (nI k)])), (zl, .inl (kI, mx, .inl (cI lf))), (zr, .inl (kI, mx, .inl (cI rt)))] := hD.sub (ws' := [(zc, .inr (2, [.ref zd])), (zd, .inl (kI, 40, .inl (cI (cg_mg n g2 (lf q) (rt q))))), (zt, .inr (3, [.ref zs, .ref zf, .ref ze, .int (nI n)])), (zs, .inl (kI, 40, .inl S)), (zf, .inl (kI, 40, .inl (cA F))), (ze, .inl (kI, 40, .inl (cA E))), (zp, .inr (1, [.ref zl, .ref zr, .int (nI k)])), (zl, .inl (kI, mx, .inl (cI lf))), (zr, .inl (kI, mx, .inl (cI rt)))]) [7, 8, 0, 1, 2, 3, 4, 5, 6] (by decide) rfl
    refine lv_iinc (k := 0) (v := nI (q + 1)) hx hb dX2_settle_70 hl rfl cx_inc1 (by decide) rfl (fun ls hl => ?_)
    have hl : lv_has ls 6 [(4, .int (nI (q + 1))), (0, .ref zc), (1, .ref zt), (2, .ref zp), (3, .int x)] := hl
    refine lv_goto (tgt := 30) hx hb dX2_settle_73 (by decide) ?_
    exact ih2 (q + 1) (cg_mg n g2 (lf q) (rt q)) _ _ _ ⟨lv_sub hl [0, 1, 2, 3, 4] rfl, hP, hD, hS, (by first | assumption | omega | rfl), (by first | exact cg_eq_y hg2 (qe q b1).1 (qe q b1).2 (by cases h9 : bt x q with | true => rfl | false => exact absurd ((cb_test (by omega)).mpr h9) b2) | exact cg_eq_n hg2 ((cb_test (by omega)).mp b2))⟩ (by show k - (q + 1) < k - q; omega)
  refine lv_aload_n hx hb dX2_settle_12 rfl (lv_at hl 1 rfl) ?_
  refine va_get (D := (dC, dI)) (ci := 2) (v := .ref zd) (C := RX2) (T := TX2) (N := 1) hx hb hts (tb_c tbX2) hown hK hP 0 rfl rfl 0 (by decide) (hw _ tw_98) (fun _ h9 => h9) rfl dX2_settle_13 ?_
  refine lv_iload hx hb dX2_settle_16 (lv_at hl 0 rfl) ?_
  refine lv_iload hx hb dX2_settle_18 (lv_at hl 0 rfl) ?_
  refine cx_iast hx hb hK hP hD hS 1 0 rfl rfl (by first | decide | omega) (i := v) (cI_u) (by first | omega | exact hB _ (by omega) | exact Nat.lt_of_lt_of_le (hB _ (by omega)) (by omega)) dX2_settle_20 (fun H locs hP hD hS => ?_)
  have hP : va_P (dC, dI) vwCl [(zc, .inr (2, [.ref zd])), (zd, .inl (kI, 40, .inl (cI (wt_u g v v)))), (zt, .inr (3, [.ref zs, .ref zf, .ref ze, .int (nI n)])), (zs, .inl (kI, 40, .inl S)), (zf, .inl (kI, 40, .inl (cA F))), (ze, .inl (kI, 40, .inl (cA E))), (zp, .inr (1, [.ref zl, .ref zr, .int (nI k)])), (zl, .inl (kI, mx, .inl (cI lf))), (zr, .inl (kI, mx, .inl (cI rt)))] H := hP
  have hD : va_D AA [(zc, .inr (2, [.ref zd])), (zd, .inl (kI, 40, .inl (cI (wt_u g v v)))), (zt, .inr (3, [.ref zs, .ref zf, .ref ze, .int (nI n)])), (zs, .inl (kI, 40, .inl S)), (zf, .inl (kI, 40, .inl (cA F))), (ze, .inl (kI, 40, .inl (cA E))), (zp, .inr (1, [.ref zl, .ref zr, .int (nI k)])), (zl, .inl (kI, mx, .inl (cI lf))), (zr, .inl (kI, mx, .inl (cI rt)))] := hD
  refine lv_iinc (k := 0) (v := nI (v + 1)) hx hb dX2_settle_21 hl rfl cx_inc1 (by decide) rfl (fun ls hl => ?_)
  have hl : lv_has ls 6 [(4, .int (nI (v + 1))), (0, .ref zc), (1, .ref zt), (2, .ref zp), (3, .int x)] := hl
  refine lv_goto (tgt := 3) hx hb dX2_settle_24 (by decide) ?_
  exact ih1 (v + 1) (wt_u g v v) _ _ _ ⟨lv_sub hl [0, 1, 2, 3, 4] rfl, hP, hD, hS, (by first | assumption | omega | rfl), (cg_id_s hg)⟩ (by show n - (v + 1) < n - v; omega)
