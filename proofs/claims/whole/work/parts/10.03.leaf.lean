set_option maxHeartbeats 4000000 in
set_option maxRecDepth 100000 in
theorem c_X3_numberOf (l : Launch) (dC : Nat → ClassId) (dI : Nat → Nat → Nat) (kI kL : ClassId) (zt : Nat) (zs : Nat) (zf : Nat) (ze : Nat) (n : Nat) (S : Nat → Int32) (F : Nat → Nat) (E : Nat → Nat) (sy : Int32) (x : Nat) (y : Nat) (qn : n ≤ 40) (qw : cg_wf (S, F, E) n) (qx : x ≤ n) (qy : y ≤ n) : Met l yX3_numberOf (.code yX3_numberOf cX3_numberOf 5 (some .int) :: tbw) { frames := 0, cells := 0, slots := 0, locals := 0 } (va_Pc [.ref zt, .int sy, .int (aI x), .int (aI y)] (cx_R (dC, dI) vwCl [(zt, .inr (3, [.ref zs, .ref zf, .ref ze, .int (nI n)])), (zs, .inl (kI, 40, .inl S)), (zf, .inl (kI, 40, .inl (cA F))), (ze, .inl (kI, 40, .inl (cA E)))] [(kI, .int), (kL, .long)])) (vp_Si (fun r => r = aI (cg_sr (cg_PN S F E sy x y) n))) 0 0 (fun _ => False) := by
  refine Met.ofW (cc := cX3_numberOf) (maxL := 5) (ret := (some .int)) (by decide) rfl ?_
  intro p e s m args below meth c s₁ B hml hv
  obtain ⟨rfl, hP, hK⟩ := hv
  have hx := B.exec
  have hb := B.bytes
  have hr := B.returns
  have hts := atoms_spec (ws := .code yX3_numberOf cX3_numberOf 5 (some .int) :: tbw) B.pre
  have hw : ∀ w ∈ tbw, w.before _ s = true := fun w h => hts w (List.mem_cons_of_mem _ h)
  have hown : s.vm.findClass RX3 = some m.cls := findClass_of_methodNamed B.named
  have hP : va_P (dC, dI) vwCl [(zt, .inr (3, [.ref zs, .ref zf, .ref ze, .int (nI n)])), (zs, .inl (kI, 40, .inl S)), (zf, .inl (kI, 40, .inl (cA F))), (ze, .inl (kI, 40, .inl (cA E)))] s.heap := hP
  have hl := lv_entry ([.ref zt, .int sy, .int (aI x), .int (aI y)]) (n := 5) (Nat.le_of_ble_eq_true rfl)
  rw [lg_entry_eq]
  generalize (lg_sl ([.ref zt, .int sy, .int (aI x), .int (aI y)]) ++ List.replicate (5 - (lg_sl ([.ref zt, .int sy, .int (aI x), .int (aI y)])).length) Slot.unset).toArray = ls at hl ⊢
  have hl : lv_has ls 5 [(0, .ref zt), (1, .int sy), (2, .int (aI x)), (3, .int (aI y))] := hl
  refine lv_iconst (v := nI 0) hx hb dX3_numberOf_0 (by decide) ?_
  refine lv_istore hx hb dX3_numberOf_1 hl (by decide) rfl (fun ls hl => ?_)
  have hl : lv_has ls 5 [(4, .int (nI 0)), (0, .ref zt), (1, .int sy), (2, .int (aI x)), (3, .int (aI y))] := hl
  refine cx_loopR1 (fun (v : Nat) (ls : Array Slot) => lv_has ls 5 [(4, .int (nI v)), (0, .ref zt), (1, .int sy), (2, .int (aI x)), (3, .int (aI y))] ∧ (v ≤ n) ∧ (∀ u, u < v → (cg_PN S F E sy x y) u = false)) (fun v => n - v) (fun v ls hI ih1 => ?_) 0 ⟨lv_sub hl [0, 1, 2, 3, 4] rfl, (by first | assumption | omega | rfl), (fun u h => absurd h (Nat.not_lt_zero u))⟩
  obtain ⟨hl, hv1, hno⟩ := hI
  refine lv_iload hx hb dX3_numberOf_3 (lv_at hl 0 rfl) ?_
  refine lv_aload_n hx hb dX3_numberOf_5 rfl (lv_at hl 1 rfl) ?_
  refine va_get (D := (dC, dI)) (ci := 3) (v := .int (nI n)) (C := RX3) (T := TX3) (N := 4) hx hb hts (tb_c tbX3) hown hK hP 0 rfl rfl 3 (by decide) (hw _ tw_33) (fun _ h9 => h9) rfl dX3_numberOf_6 ?_
  refine cx_ge (x := v) (y := n) (tgt := 54) hx hb dX3_numberOf_9 (by decide) (by first | omega | exact hB _ (by omega) | exact Nat.lt_of_lt_of_le (hB _ (by omega)) (by omega)) (by first | omega | exact hB _ (by omega) | exact Nat.lt_of_lt_of_le (hB _ (by omega)) (by omega)) (fun b0 => ?_) (fun b0 => ?_)
  · skip
    refine lv_iconst (v := (-1)) hx hb dX3_numberOf_54 (by decide) ?_
    exact W.iret (v := (-1)) hx hb hr (fun t ht hW => ⟨_, rfl, congrArg aI (cg_sr_n hno b0), ht⟩) (fun _ h9 => by cases h9) dX3_numberOf_55
  have e1 := qw v b0
  simp only at e1
  refine lv_aload_n hx hb dX3_numberOf_12 rfl (lv_at hl 1 rfl) ?_
  refine va_get (D := (dC, dI)) (ci := 3) (v := .ref zs) (C := RX3) (T := TX3) (N := 4) hx hb hts (tb_c tbX3) hown hK hP 0 rfl rfl 0 (by decide) (hw _ tw_24) (fun _ h9 => h9) rfl dX3_numberOf_13 ?_
  refine lv_iload hx hb dX3_numberOf_16 (lv_at hl 0 rfl) ?_
  refine cx_iald hx hb hK hP 1 0 rfl rfl (by first | decide | omega) (v := (S v)) (i := v) rfl (by first | omega | exact hB _ (by omega) | exact Nat.lt_of_lt_of_le (hB _ (by omega)) (by omega)) dX3_numberOf_18 ?_
  refine lv_iload_n hx hb dX3_numberOf_19 rfl (lv_at hl 2 rfl) ?_
  refine lv_icmp_ne (tgt := 48) hx hb dX3_numberOf_20 (by decide) (fun b1 => ?_) (fun b1 => ?_)
  · skip
    refine lv_iinc (k := 0) (v := nI (v + 1)) hx hb dX3_numberOf_48 hl rfl cx_inc1 (by decide) rfl (fun ls hl => ?_)
    have hl : lv_has ls 5 [(4, .int (nI (v + 1))), (0, .ref zt), (1, .int sy), (2, .int (aI x)), (3, .int (aI y))] := hl
    refine lv_goto (tgt := 3) hx hb dX3_numberOf_51 (by decide) ?_
    exact ih1 (v + 1) _ ⟨lv_sub hl [0, 1, 2, 3, 4] rfl, (by first | assumption | omega | rfl), (cg_sr_s hno (by first | exact cx_nof1 b1 | exact cx_nof2 b2 | exact cx_nof3 b3))⟩ (by show n - (v + 1) < n - v; omega)
  refine lv_aload_n hx hb dX3_numberOf_23 rfl (lv_at hl 1 rfl) ?_
  refine va_get (D := (dC, dI)) (ci := 3) (v := .ref zf) (C := RX3) (T := TX3) (N := 4) hx hb hts (tb_c tbX3) hown hK hP 0 rfl rfl 1 (by decide) (hw _ tw_27) (fun _ h9 => h9) rfl dX3_numberOf_24 ?_
  refine lv_iload hx hb dX3_numberOf_27 (lv_at hl 0 rfl) ?_
  refine cx_iald hx hb hK hP 2 0 rfl rfl (by first | decide | omega) (v := aI (F v)) (i := v) rfl (by first | omega | exact hB _ (by omega) | exact Nat.lt_of_lt_of_le (hB _ (by omega)) (by omega)) dX3_numberOf_29 ?_
  refine lv_iload_n hx hb dX3_numberOf_30 rfl (lv_at hl 3 rfl) ?_
  refine cx_ane (x := (F v)) (y := x) (tgt := 48) hx hb dX3_numberOf_31 (by decide) (by first | omega | exact hB _ (by omega) | exact Nat.lt_of_lt_of_le (hB _ (by omega)) (by omega)) (by first | omega | exact hB _ (by omega) | exact Nat.lt_of_lt_of_le (hB _ (by omega)) (by omega)) (fun b2 => ?_) (fun b2 => ?_)
  · skip
    refine lv_iinc (k := 0) (v := nI (v + 1)) hx hb dX3_numberOf_48 hl rfl cx_inc1 (by decide) rfl (fun ls hl => ?_)
    have hl : lv_has ls 5 [(4, .int (nI (v + 1))), (0, .ref zt), (1, .int sy), (2, .int (aI x)), (3, .int (aI y))] := hl
    refine lv_goto (tgt := 3) hx hb dX3_numberOf_51 (by decide) ?_
    exact ih1 (v + 1) _ ⟨lv_sub hl [0, 1, 2, 3, 4] rfl, (by first | assumption | omega | rfl), (cg_sr_s hno (by first | exact cx_nof1 b1 | exact cx_nof2 b2 | exact cx_nof3 b3))⟩ (by show n - (v + 1) < n - v; omega)
  refine lv_aload_n hx hb dX3_numberOf_34 rfl (lv_at hl 1 rfl) ?_
  refine va_get (D := (dC, dI)) (ci := 3) (v := .ref ze) (C := RX3) (T := TX3) (N := 4) hx hb hts (tb_c tbX3) hown hK hP 0 rfl rfl 2 (by decide) (hw _ tw_30) (fun _ h9 => h9) rfl dX3_numberOf_35 ?_
  refine lv_iload hx hb dX3_numberOf_38 (lv_at hl 0 rfl) ?_
  refine cx_iald hx hb hK hP 3 0 rfl rfl (by first | decide | omega) (v := aI (E v)) (i := v) rfl (by first | omega | exact hB _ (by omega) | exact Nat.lt_of_lt_of_le (hB _ (by omega)) (by omega)) dX3_numberOf_40 ?_
  refine lv_iload_n hx hb dX3_numberOf_41 rfl (lv_at hl 4 rfl) ?_
  refine cx_ane (x := (E v)) (y := y) (tgt := 48) hx hb dX3_numberOf_42 (by decide) (by first | omega | exact hB _ (by omega) | exact Nat.lt_of_lt_of_le (hB _ (by omega)) (by omega)) (by first | omega | exact hB _ (by omega) | exact Nat.lt_of_lt_of_le (hB _ (by omega)) (by omega)) (fun b3 => ?_) (fun b3 => ?_)
  · skip
    refine lv_iinc (k := 0) (v := nI (v + 1)) hx hb dX3_numberOf_48 hl rfl cx_inc1 (by decide) rfl (fun ls hl => ?_)
    have hl : lv_has ls 5 [(4, .int (nI (v + 1))), (0, .ref zt), (1, .int sy), (2, .int (aI x)), (3, .int (aI y))] := hl
    refine lv_goto (tgt := 3) hx hb dX3_numberOf_51 (by decide) ?_
    exact ih1 (v + 1) _ ⟨lv_sub hl [0, 1, 2, 3, 4] rfl, (by first | assumption | omega | rfl), (cg_sr_s hno (by first | exact cx_nof1 b1 | exact cx_nof2 b2 | exact cx_nof3 b3))⟩ (by show n - (v + 1) < n - v; omega)
  refine lv_iload hx hb dX3_numberOf_45 (lv_at hl 0 rfl) ?_
  exact W.iret (v := nI v) hx hb hr (fun t ht hW => ⟨_, rfl, congrArg aI (cg_sr_y hno (cx_nof b1 b2 b3) b0), ht⟩) (fun _ h9 => by cases h9) dX3_numberOf_47

set_option maxHeartbeats 4000000 in
set_option maxRecDepth 100000 in
theorem c_X3_add (l : Launch) (dC : Nat → ClassId) (dI : Nat → Nat → Nat) (kI kL : ClassId) (zt : Nat) (zs : Nat) (zf : Nat) (ze : Nat) (n : Nat) (S : Nat → Int32) (F : Nat → Nat) (E : Nat → Nat) (sy : Int32) (x : Nat) (y : Nat) (qn : n < 40) (sz : Nat) : Met l yX3_add (.code yX3_add cX3_add 4 (some .int) :: tbw) { frames := 0, cells := 0, slots := 0, locals := 0 } (va_Pc [.ref zt, .int sy, .int (aI x), .int (aI y)] (cx_M (dC, dI) vwCl [(zt, .inr (3, [.ref zs, .ref zf, .ref ze, .int (nI n)])), (zs, .inl (kI, 40, .inl S)), (zf, .inl (kI, 40, .inl (cA F))), (ze, .inl (kI, 40, .inl (cA E)))] [(kI, .int), (kL, .long)] sz)) (va_Qi (fun (r : Int32) (u : Unit) => r = nI n) (cx_B (dC, dI) vwCl (va_A [(zt, .inr (3, [.ref zs, .ref zf, .ref ze, .int (nI n)])), (zs, .inl (kI, 40, .inl S)), (zf, .inl (kI, 40, .inl (cA F))), (ze, .inl (kI, 40, .inl (cA E)))] sz) (fun u : Unit => [(zt, .inr (3, [.ref zs, .ref zf, .ref ze, .int (nI (n + 1))])), (zs, .inl (kI, 40, .inl (upd S n sy))), (zf, .inl (kI, 40, .inl (cA (wt_u F n x)))), (ze, .inl (kI, 40, .inl (cA (wt_u E n y))))])) (va_A [(zt, .inr (3, [.ref zs, .ref zf, .ref ze, .int (nI n)])), (zs, .inl (kI, 40, .inl S)), (zf, .inl (kI, 40, .inl (cA F))), (ze, .inl (kI, 40, .inl (cA E)))] sz)) 0 0 (va_A [(zt, .inr (3, [.ref zs, .ref zf, .ref ze, .int (nI n)])), (zs, .inl (kI, 40, .inl S)), (zf, .inl (kI, 40, .inl (cA F))), (ze, .inl (kI, 40, .inl (cA E)))] sz) := by
  refine Met.ofW (cc := cX3_add) (maxL := 4) (ret := (some .int)) (by decide) rfl ?_
  intro p e s m args below meth c s₁ B hml hv
  obtain ⟨rfl, hsz, hP, hK, hD0⟩ := hv
  have hx := B.exec
  have hb := B.bytes
  have hr := B.returns
  have hts := atoms_spec (ws := .code yX3_add cX3_add 4 (some .int) :: tbw) B.pre
  have hw : ∀ w ∈ tbw, w.before _ s = true := fun w h => hts w (List.mem_cons_of_mem _ h)
  have hown : s.vm.findClass RX3 = some m.cls := findClass_of_methodNamed B.named
  subst hsz
  have hD := hD0.self (sz := s.heap.size)
  generalize hAe : va_A [(zt, .inr (3, [.ref zs, .ref zf, .ref ze, .int (nI n)])), (zs, .inl (kI, 40, .inl S)), (zf, .inl (kI, 40, .inl (cA F))), (ze, .inl (kI, 40, .inl (cA E)))] s.heap.size = AA at hD ⊢
  have hA : ∀ q : Nat, s.heap.size ≤ q → AA q := fun q h => by rw [← hAe]; exact Or.inr h
  have hS : va_S AA s.heap s.heap [] := va_S.rf
  have hP : va_P (dC, dI) vwCl [(zt, .inr (3, [.ref zs, .ref zf, .ref ze, .int (nI n)])), (zs, .inl (kI, 40, .inl S)), (zf, .inl (kI, 40, .inl (cA F))), (ze, .inl (kI, 40, .inl (cA E)))] s.heap := hP
  have hl := lv_entry ([.ref zt, .int sy, .int (aI x), .int (aI y)]) (n := 4) (Nat.le_of_ble_eq_true rfl)
  rw [lg_entry_eq]
  generalize (lg_sl ([.ref zt, .int sy, .int (aI x), .int (aI y)]) ++ List.replicate (4 - (lg_sl ([.ref zt, .int sy, .int (aI x), .int (aI y)])).length) Slot.unset).toArray = ls at hl ⊢
  have hl : lv_has ls 4 [(0, .ref zt), (1, .int sy), (2, .int (aI x)), (3, .int (aI y))] := hl
  refine lv_aload_n hx hb dX3_add_0 rfl (lv_at hl 0 rfl) ?_
  refine va_get (D := (dC, dI)) (ci := 3) (v := .ref zs) (C := RX3) (T := TX3) (N := 4) hx hb hts (tb_c tbX3) hown hK hP 0 rfl rfl 0 (by decide) (hw _ tw_24) (fun _ h9 => h9) rfl dX3_add_1 ?_
  refine lv_aload_n hx hb dX3_add_4 rfl (lv_at hl 0 rfl) ?_
  refine va_get (D := (dC, dI)) (ci := 3) (v := .int (nI n)) (C := RX3) (T := TX3) (N := 4) hx hb hts (tb_c tbX3) hown hK hP 0 rfl rfl 3 (by decide) (hw _ tw_33) (fun _ h9 => h9) rfl dX3_add_5 ?_
  refine lv_iload_n hx hb dX3_add_8 rfl (lv_at hl 1 rfl) ?_
  refine cx_iast hx hb hK hP hD hS 1 0 rfl rfl (by first | decide | omega) (i := n) (rfl) (by first | omega | exact hB _ (by omega) | exact Nat.lt_of_lt_of_le (hB _ (by omega)) (by omega)) dX3_add_9 (fun H locs hP hD hS => ?_)
  have hP : va_P (dC, dI) vwCl [(zt, .inr (3, [.ref zs, .ref zf, .ref ze, .int (nI n)])), (zs, .inl (kI, 40, .inl (upd S n sy))), (zf, .inl (kI, 40, .inl (cA F))), (ze, .inl (kI, 40, .inl (cA E)))] H := hP
  have hD : va_D AA [(zt, .inr (3, [.ref zs, .ref zf, .ref ze, .int (nI n)])), (zs, .inl (kI, 40, .inl (upd S n sy))), (zf, .inl (kI, 40, .inl (cA F))), (ze, .inl (kI, 40, .inl (cA E)))] := hD
  refine lv_aload_n hx hb dX3_add_10 rfl (lv_at hl 0 rfl) ?_
  refine va_get (D := (dC, dI)) (ci := 3) (v := .ref zf) (C := RX3) (T := TX3) (N := 4) hx hb hts (tb_c tbX3) hown hK hP 0 rfl rfl 1 (by decide) (hw _ tw_27) (fun _ h9 => h9) rfl dX3_add_11 ?_
  refine lv_aload_n hx hb dX3_add_14 rfl (lv_at hl 0 rfl) ?_
  refine va_get (D := (dC, dI)) (ci := 3) (v := .int (nI n)) (C := RX3) (T := TX3) (N := 4) hx hb hts (tb_c tbX3) hown hK hP 0 rfl rfl 3 (by decide) (hw _ tw_33) (fun _ h9 => h9) rfl dX3_add_15 ?_
  refine lv_iload_n hx hb dX3_add_18 rfl (lv_at hl 2 rfl) ?_
  refine cx_iast hx hb hK hP hD hS 2 0 rfl rfl (by first | decide | omega) (i := n) (cA_u) (by first | omega | exact hB _ (by omega) | exact Nat.lt_of_lt_of_le (hB _ (by omega)) (by omega)) dX3_add_19 (fun H locs hP hD hS => ?_)
  have hP : va_P (dC, dI) vwCl [(zt, .inr (3, [.ref zs, .ref zf, .ref ze, .int (nI n)])), (zs, .inl (kI, 40, .inl (upd S n sy))), (zf, .inl (kI, 40, .inl (cA (wt_u F n x)))), (ze, .inl (kI, 40, .inl (cA E)))] H := hP
  have hD : va_D AA [(zt, .inr (3, [.ref zs, .ref zf, .ref ze, .int (nI n)])), (zs, .inl (kI, 40, .inl (upd S n sy))), (zf, .inl (kI, 40, .inl (cA (wt_u F n x)))), (ze, .inl (kI, 40, .inl (cA E)))] := hD
  refine lv_aload_n hx hb dX3_add_20 rfl (lv_at hl 0 rfl) ?_
  refine va_get (D := (dC, dI)) (ci := 3) (v := .ref ze) (C := RX3) (T := TX3) (N := 4) hx hb hts (tb_c tbX3) hown hK hP 0 rfl rfl 2 (by decide) (hw _ tw_30) (fun _ h9 => h9) rfl dX3_add_21 ?_
  refine lv_aload_n hx hb dX3_add_24 rfl (lv_at hl 0 rfl) ?_
  refine va_get (D := (dC, dI)) (ci := 3) (v := .int (nI n)) (C := RX3) (T := TX3) (N := 4) hx hb hts (tb_c tbX3) hown hK hP 0 rfl rfl 3 (by decide) (hw _ tw_33) (fun _ h9 => h9) rfl dX3_add_25 ?_
  refine lv_iload_n hx hb dX3_add_28 rfl (lv_at hl 3 rfl) ?_
  refine cx_iast hx hb hK hP hD hS 3 0 rfl rfl (by first | decide | omega) (i := n) (cA_u) (by first | omega | exact hB _ (by omega) | exact Nat.lt_of_lt_of_le (hB _ (by omega)) (by omega)) dX3_add_29 (fun H locs hP hD hS => ?_)
  have hP : va_P (dC, dI) vwCl [(zt, .inr (3, [.ref zs, .ref zf, .ref ze, .int (nI n)])), (zs, .inl (kI, 40, .inl (upd S n sy))), (zf, .inl (kI, 40, .inl (cA (wt_u F n x)))), (ze, .inl (kI, 40, .inl (cA (wt_u E n y))))] H := hP
  have hD : va_D AA [(zt, .inr (3, [.ref zs, .ref zf, .ref ze, .int (nI n)])), (zs, .inl (kI, 40, .inl (upd S n sy))), (zf, .inl (kI, 40, .inl (cA (wt_u F n x)))), (ze, .inl (kI, 40, .inl (cA (wt_u E n y))))] := hD
  refine lv_aload_n hx hb dX3_add_30 rfl (lv_at hl 0 rfl) ?_
  refine lv_dup hx hb dX3_add_31 rfl ?_
  refine va_get (D := (dC, dI)) (ci := 3) (v := .int (nI n)) (C := RX3) (T := TX3) (N := 4) hx hb hts (tb_c tbX3) hown hK hP 0 rfl rfl 3 (by decide) (hw _ tw_33) (fun _ h9 => h9) rfl dX3_add_32 ?_
  refine lv_iconst (v := nI 1) hx hb dX3_add_35 (by decide) ?_
  refine cx_iadd hx hb dX3_add_36 ?_
  refine va_put (D := (dC, dI)) (ci := 3) (v := .int (nI (n + 1))) (ty := .int) (C := RX3) (T := TX3) (N := 4) hx hb hts (tb_c tbX3) tyX3 tyX3_ok nmX3 hown hK hP hD hS 0 rfl rfl 3 (by decide) (hw _ tw_33) (fun _ h9 => h9) rfl (by decide +kernel) rfl rfl (Nat.le_of_ble_eq_true rfl) dX3_add_37 (fun H locs hP hD hS => ?_)
  have hP : va_P (dC, dI) vwCl [(zt, .inr (3, [.ref zs, .ref zf, .ref ze, .int (nI (n + 1))])), (zs, .inl (kI, 40, .inl (upd S n sy))), (zf, .inl (kI, 40, .inl (cA (wt_u F n x)))), (ze, .inl (kI, 40, .inl (cA (wt_u E n y))))] H := hP
  have hD : va_D AA [(zt, .inr (3, [.ref zs, .ref zf, .ref ze, .int (nI (n + 1))])), (zs, .inl (kI, 40, .inl (upd S n sy))), (zf, .inl (kI, 40, .inl (cA (wt_u F n x)))), (ze, .inl (kI, 40, .inl (cA (wt_u E n y))))] := hD
  refine lv_aload_n hx hb dX3_add_40 rfl (lv_at hl 0 rfl) ?_
  refine va_get (D := (dC, dI)) (ci := 3) (v := .int (nI (n + 1))) (C := RX3) (T := TX3) (N := 4) hx hb hts (tb_c tbX3) hown hK hP 0 rfl rfl 3 (by decide) (hw _ tw_33) (fun _ h9 => h9) rfl dX3_add_41 ?_
  refine lv_iconst (v := nI 1) hx hb dX3_add_44 (by decide) ?_
  refine cx_isub hx hb dX3_add_45 (by omega) ?_
  exact W.iret (v := nI ((n + 1) - 1)) hx hb hr (fun t ht hW => ⟨⟨_, (), rfl, rfl, by rw [ht]; exact hP, hD⟩, hS.F ht⟩) hS.2.2 dX3_add_46

set_option maxHeartbeats 4000000 in
set_option maxRecDepth 100000 in
theorem c_X1_isFull (l : Launch) (dC : Nat → ClassId) (dI : Nat → Nat → Nat) (kI kL : ClassId) (zp : Nat) (zl : Nat) (zr : Nat) (k : Nat) (mx : Nat) (lf : Nat → Nat) (rt : Nat → Nat) (qk : k < 2 ^ 31) (qmx : mx < 2 ^ 31) : Met l yX1_isFull (.code yX1_isFull cX1_isFull 1 (some .boolean) :: tbw) { frames := 0, cells := 0, slots := 0, locals := 0 } (va_Pc [.ref zp] (cx_R (dC, dI) vwCl [(zp, .inr (1, [.ref zl, .ref zr, .int (nI k)])), (zl, .inl (kI, mx, .inl (cI lf))), (zr, .inl (kI, mx, .inl (cI rt)))] [(kI, .int), (kL, .long)])) (vp_Si (fun r => r = bI (decide (mx ≤ k)))) 0 0 (fun _ => False) := by
  refine Met.ofW (cc := cX1_isFull) (maxL := 1) (ret := (some .boolean)) (by decide) rfl ?_
  intro p e s m args below meth c s₁ B hml hv
  obtain ⟨rfl, hP, hK⟩ := hv
  have hx := B.exec
  have hb := B.bytes
  have hr := B.returns
  have hts := atoms_spec (ws := .code yX1_isFull cX1_isFull 1 (some .boolean) :: tbw) B.pre
  have hw : ∀ w ∈ tbw, w.before _ s = true := fun w h => hts w (List.mem_cons_of_mem _ h)
  have hown : s.vm.findClass RX1 = some m.cls := findClass_of_methodNamed B.named
  have hP : va_P (dC, dI) vwCl [(zp, .inr (1, [.ref zl, .ref zr, .int (nI k)])), (zl, .inl (kI, mx, .inl (cI lf))), (zr, .inl (kI, mx, .inl (cI rt)))] s.heap := hP
  have hl := lv_entry ([.ref zp]) (n := 1) (Nat.le_of_ble_eq_true rfl)
  rw [lg_entry_eq]
  generalize (lg_sl ([.ref zp]) ++ List.replicate (1 - (lg_sl ([.ref zp])).length) Slot.unset).toArray = ls at hl ⊢
  have hl : lv_has ls 1 [(0, .ref zp)] := hl
  refine lv_aload_n hx hb dX1_isFull_0 rfl (lv_at hl 0 rfl) ?_
  refine va_get (D := (dC, dI)) (ci := 1) (v := .int (nI k)) (C := RX1) (T := TX1) (N := 3) hx hb hts (tb_c tbX1) hown hK hP 0 rfl rfl 2 (by decide) (hw _ tw_59) (fun _ h9 => h9) rfl dX1_isFull_1 ?_
  refine lv_aload_n hx hb dX1_isFull_4 rfl (lv_at hl 0 rfl) ?_
  refine va_get (D := (dC, dI)) (ci := 1) (v := .ref zl) (C := RX1) (T := TX1) (N := 3) hx hb hts (tb_c tbX1) hown hK hP 0 rfl rfl 0 (by decide) (hw _ tw_53) (fun _ h9 => h9) rfl dX1_isFull_5 ?_
  refine va_alen hx hb hK hP 1 0 rfl rfl (v := nI mx) rfl dX1_isFull_8 ?_
  refine cx_lt (x := k) (y := mx) (tgt := 16) hx hb dX1_isFull_9 (by decide) (by first | omega | exact hB _ (by omega) | exact Nat.lt_of_lt_of_le (hB _ (by omega)) (by omega)) (by first | omega | exact hB _ (by omega) | exact Nat.lt_of_lt_of_le (hB _ (by omega)) (by omega)) (fun b0 => ?_) (fun b0 => ?_)
  · skip
    refine lv_iconst (v := nI 0) hx hb dX1_isFull_16 (by decide) ?_
    exact W.zret (v := nI 0) hx hb hr (cx_narB false) (fun t ht hW => ⟨_, rfl, cx_bf (by first | assumption | omega | (simp_all; done)), ht⟩) (fun _ h9 => by cases h9) dX1_isFull_17
  refine lv_iconst (v := nI 1) hx hb dX1_isFull_12 (by decide) ?_
  refine lv_goto (tgt := 17) hx hb dX1_isFull_13 (by decide) ?_
  exact W.zret (v := nI 1) hx hb hr (cx_narB true) (fun t ht hW => ⟨_, rfl, cx_bt (by first | assumption | omega | (simp_all; done)), ht⟩) (fun _ h9 => by cases h9) dX1_isFull_17

set_option maxHeartbeats 4000000 in
set_option maxRecDepth 100000 in
theorem c_X1_add (l : Launch) (dC : Nat → ClassId) (dI : Nat → Nat → Nat) (kI kL : ClassId) (zp : Nat) (zl : Nat) (zr : Nat) (k : Nat) (mx : Nat) (lf : Nat → Nat) (rt : Nat → Nat) (i : Nat) (j : Nat) (qk : k < mx) (qmx : mx < 2 ^ 31) (sz : Nat) : Met l yX1_add (.code yX1_add cX1_add 3 (some .int) :: tbw) { frames := 0, cells := 0, slots := 0, locals := 0 } (va_Pc [.ref zp, .int (nI i), .int (nI j)] (cx_M (dC, dI) vwCl [(zp, .inr (1, [.ref zl, .ref zr, .int (nI k)])), (zl, .inl (kI, mx, .inl (cI lf))), (zr, .inl (kI, mx, .inl (cI rt)))] [(kI, .int), (kL, .long)] sz)) (va_Qi (fun (r : Int32) (u : Unit) => r = nI k) (cx_B (dC, dI) vwCl (va_A [(zp, .inr (1, [.ref zl, .ref zr, .int (nI k)])), (zl, .inl (kI, mx, .inl (cI lf))), (zr, .inl (kI, mx, .inl (cI rt)))] sz) (fun u : Unit => [(zp, .inr (1, [.ref zl, .ref zr, .int (nI (k + 1))])), (zl, .inl (kI, mx, .inl (cI (wt_u lf k i)))), (zr, .inl (kI, mx, .inl (cI (wt_u rt k j))))])) (va_A [(zp, .inr (1, [.ref zl, .ref zr, .int (nI k)])), (zl, .inl (kI, mx, .inl (cI lf))), (zr, .inl (kI, mx, .inl (cI rt)))] sz)) 0 0 (va_A [(zp, .inr (1, [.ref zl, .ref zr, .int (nI k)])), (zl, .inl (kI, mx, .inl (cI lf))), (zr, .inl (kI, mx, .inl (cI rt)))] sz) := by
  refine Met.ofW (cc := cX1_add) (maxL := 3) (ret := (some .int)) (by decide) rfl ?_
  intro p e s m args below meth c s₁ B hml hv
  obtain ⟨rfl, hsz, hP, hK, hD0⟩ := hv
  have hx := B.exec
  have hb := B.bytes
  have hr := B.returns
  have hts := atoms_spec (ws := .code yX1_add cX1_add 3 (some .int) :: tbw) B.pre
  have hw : ∀ w ∈ tbw, w.before _ s = true := fun w h => hts w (List.mem_cons_of_mem _ h)
  have hown : s.vm.findClass RX1 = some m.cls := findClass_of_methodNamed B.named
  subst hsz
  have hD := hD0.self (sz := s.heap.size)
  generalize hAe : va_A [(zp, .inr (1, [.ref zl, .ref zr, .int (nI k)])), (zl, .inl (kI, mx, .inl (cI lf))), (zr, .inl (kI, mx, .inl (cI rt)))] s.heap.size = AA at hD ⊢
  have hA : ∀ q : Nat, s.heap.size ≤ q → AA q := fun q h => by rw [← hAe]; exact Or.inr h
  have hS : va_S AA s.heap s.heap [] := va_S.rf
  have hP : va_P (dC, dI) vwCl [(zp, .inr (1, [.ref zl, .ref zr, .int (nI k)])), (zl, .inl (kI, mx, .inl (cI lf))), (zr, .inl (kI, mx, .inl (cI rt)))] s.heap := hP
  have hl := lv_entry ([.ref zp, .int (nI i), .int (nI j)]) (n := 3) (Nat.le_of_ble_eq_true rfl)
  rw [lg_entry_eq]
  generalize (lg_sl ([.ref zp, .int (nI i), .int (nI j)]) ++ List.replicate (3 - (lg_sl ([.ref zp, .int (nI i), .int (nI j)])).length) Slot.unset).toArray = ls at hl ⊢
  have hl : lv_has ls 3 [(0, .ref zp), (1, .int (nI i)), (2, .int (nI j))] := hl
  refine lv_aload_n hx hb dX1_add_0 rfl (lv_at hl 0 rfl) ?_
  refine va_get (D := (dC, dI)) (ci := 1) (v := .ref zl) (C := RX1) (T := TX1) (N := 3) hx hb hts (tb_c tbX1) hown hK hP 0 rfl rfl 0 (by decide) (hw _ tw_53) (fun _ h9 => h9) rfl dX1_add_1 ?_
  refine lv_aload_n hx hb dX1_add_4 rfl (lv_at hl 0 rfl) ?_
  refine va_get (D := (dC, dI)) (ci := 1) (v := .int (nI k)) (C := RX1) (T := TX1) (N := 3) hx hb hts (tb_c tbX1) hown hK hP 0 rfl rfl 2 (by decide) (hw _ tw_59) (fun _ h9 => h9) rfl dX1_add_5 ?_
  refine lv_iload_n hx hb dX1_add_8 rfl (lv_at hl 1 rfl) ?_
  refine cx_iast hx hb hK hP hD hS 1 0 rfl rfl (by first | decide | omega) (i := k) (cI_u) (by first | omega | exact hB _ (by omega) | exact Nat.lt_of_lt_of_le (hB _ (by omega)) (by omega)) dX1_add_9 (fun H locs hP hD hS => ?_)
  have hP : va_P (dC, dI) vwCl [(zp, .inr (1, [.ref zl, .ref zr, .int (nI k)])), (zl, .inl (kI, mx, .inl (cI (wt_u lf k i)))), (zr, .inl (kI, mx, .inl (cI rt)))] H := hP
  have hD : va_D AA [(zp, .inr (1, [.ref zl, .ref zr, .int (nI k)])), (zl, .inl (kI, mx, .inl (cI (wt_u lf k i)))), (zr, .inl (kI, mx, .inl (cI rt)))] := hD
  refine lv_aload_n hx hb dX1_add_10 rfl (lv_at hl 0 rfl) ?_
  refine va_get (D := (dC, dI)) (ci := 1) (v := .ref zr) (C := RX1) (T := TX1) (N := 3) hx hb hts (tb_c tbX1) hown hK hP 0 rfl rfl 1 (by decide) (hw _ tw_56) (fun _ h9 => h9) rfl dX1_add_11 ?_
  refine lv_aload_n hx hb dX1_add_14 rfl (lv_at hl 0 rfl) ?_
  refine va_get (D := (dC, dI)) (ci := 1) (v := .int (nI k)) (C := RX1) (T := TX1) (N := 3) hx hb hts (tb_c tbX1) hown hK hP 0 rfl rfl 2 (by decide) (hw _ tw_59) (fun _ h9 => h9) rfl dX1_add_15 ?_
  refine lv_iload_n hx hb dX1_add_18 rfl (lv_at hl 2 rfl) ?_
  refine cx_iast hx hb hK hP hD hS 2 0 rfl rfl (by first | decide | omega) (i := k) (cI_u) (by first | omega | exact hB _ (by omega) | exact Nat.lt_of_lt_of_le (hB _ (by omega)) (by omega)) dX1_add_19 (fun H locs hP hD hS => ?_)
  have hP : va_P (dC, dI) vwCl [(zp, .inr (1, [.ref zl, .ref zr, .int (nI k)])), (zl, .inl (kI, mx, .inl (cI (wt_u lf k i)))), (zr, .inl (kI, mx, .inl (cI (wt_u rt k j))))] H := hP
  have hD : va_D AA [(zp, .inr (1, [.ref zl, .ref zr, .int (nI k)])), (zl, .inl (kI, mx, .inl (cI (wt_u lf k i)))), (zr, .inl (kI, mx, .inl (cI (wt_u rt k j))))] := hD
  refine lv_aload_n hx hb dX1_add_20 rfl (lv_at hl 0 rfl) ?_
  refine lv_dup hx hb dX1_add_21 rfl ?_
  refine va_get (D := (dC, dI)) (ci := 1) (v := .int (nI k)) (C := RX1) (T := TX1) (N := 3) hx hb hts (tb_c tbX1) hown hK hP 0 rfl rfl 2 (by decide) (hw _ tw_59) (fun _ h9 => h9) rfl dX1_add_22 ?_
  refine lv_iconst (v := nI 1) hx hb dX1_add_25 (by decide) ?_
  refine cx_iadd hx hb dX1_add_26 ?_
  refine va_put (D := (dC, dI)) (ci := 1) (v := .int (nI (k + 1))) (ty := .int) (C := RX1) (T := TX1) (N := 3) hx hb hts (tb_c tbX1) tyX1 tyX1_ok nmX1 hown hK hP hD hS 0 rfl rfl 2 (by decide) (hw _ tw_59) (fun _ h9 => h9) rfl (by decide +kernel) rfl rfl (Nat.le_of_ble_eq_true rfl) dX1_add_27 (fun H locs hP hD hS => ?_)
  have hP : va_P (dC, dI) vwCl [(zp, .inr (1, [.ref zl, .ref zr, .int (nI (k + 1))])), (zl, .inl (kI, mx, .inl (cI (wt_u lf k i)))), (zr, .inl (kI, mx, .inl (cI (wt_u rt k j))))] H := hP
  have hD : va_D AA [(zp, .inr (1, [.ref zl, .ref zr, .int (nI (k + 1))])), (zl, .inl (kI, mx, .inl (cI (wt_u lf k i)))), (zr, .inl (kI, mx, .inl (cI (wt_u rt k j))))] := hD
  refine lv_aload_n hx hb dX1_add_30 rfl (lv_at hl 0 rfl) ?_
  refine va_get (D := (dC, dI)) (ci := 1) (v := .int (nI (k + 1))) (C := RX1) (T := TX1) (N := 3) hx hb hts (tb_c tbX1) hown hK hP 0 rfl rfl 2 (by decide) (hw _ tw_59) (fun _ h9 => h9) rfl dX1_add_31 ?_
  refine lv_iconst (v := nI 1) hx hb dX1_add_34 (by decide) ?_
  refine cx_isub hx hb dX1_add_35 (by omega) ?_
  exact W.iret (v := nI ((k + 1) - 1)) hx hb hr (fun t ht hW => ⟨⟨_, (), rfl, rfl, by rw [ht]; exact hP, hD⟩, hS.F ht⟩) hS.2.2 dX1_add_36
