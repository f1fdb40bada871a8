set_option maxHeartbeats 4000000 in
set_option maxRecDepth 100000 in
theorem c_X0_push (l : Launch) (dC : Nat → ClassId) (dI : Nat → Nat → Nat) (kI kL : ClassId) (zv : Nat) (z1 : Nat) (z2 : Nat) (z3 : Nat) (dp : Nat) (ct : Nat → Nat) (st : Nat → Nat) (dt : Nat → Nat) (n : Nat) (k : Nat) (d : Nat) (qd : dp < 6) (sz : Nat) : Met l yX0_push (.code yX0_push cX0_push 4 none :: tbw) { frames := 0, cells := 0, slots := 0, locals := 0 } (va_Pc [.ref zv, .int (nI n), .int (nI k), .int (nI d)] (cx_M (dC, dI) vwCl [(zv, .inr (0, [.ref z1, .ref z2, .ref z3, .int (nI dp)])), (z1, .inl (kI, 6, .inl (cI ct))), (z2, .inl (kI, 6, .inl (cI st))), (z3, .inl (kI, 6, .inl (cI dt)))] [(kI, .int), (kL, .long)] sz)) (va_Qv (fun (u : Unit) => True) (cx_B (dC, dI) vwCl (va_A [(zv, .inr (0, [.ref z1, .ref z2, .ref z3, .int (nI dp)])), (z1, .inl (kI, 6, .inl (cI ct))), (z2, .inl (kI, 6, .inl (cI st))), (z3, .inl (kI, 6, .inl (cI dt)))] sz) (fun u : Unit => [(zv, .inr (0, [.ref z1, .ref z2, .ref z3, .int (nI (dp + 1))])), (z1, .inl (kI, 6, .inl (cI (wt_u ct dp n)))), (z2, .inl (kI, 6, .inl (cI (wt_u st dp k)))), (z3, .inl (kI, 6, .inl (cI (wt_u dt dp d))))])) (va_A [(zv, .inr (0, [.ref z1, .ref z2, .ref z3, .int (nI dp)])), (z1, .inl (kI, 6, .inl (cI ct))), (z2, .inl (kI, 6, .inl (cI st))), (z3, .inl (kI, 6, .inl (cI dt)))] sz)) 0 0 (va_A [(zv, .inr (0, [.ref z1, .ref z2, .ref z3, .int (nI dp)])), (z1, .inl (kI, 6, .inl (cI ct))), (z2, .inl (kI, 6, .inl (cI st))), (z3, .inl (kI, 6, .inl (cI dt)))] sz) := by
  refine Met.ofW (cc := cX0_push) (maxL := 4) (ret := none) (by decide) rfl ?_
  intro p e s m args below meth c s₁ B hml hv
  obtain ⟨rfl, hsz, hP, hK, hD0⟩ := hv
  have hx := B.exec
  have hb := B.bytes
  have hr := B.returns
  have hts := atoms_spec (ws := .code yX0_push cX0_push 4 none :: tbw) B.pre
  have hw : ∀ w ∈ tbw, w.before _ s = true := fun w h => hts w (List.mem_cons_of_mem _ h)
  have hown : s.vm.findClass RX0 = some m.cls := findClass_of_methodNamed B.named
  subst hsz
  have hD := hD0.self (sz := s.heap.size)
  generalize hAe : va_A [(zv, .inr (0, [.ref z1, .ref z2, .ref z3, .int (nI dp)])), (z1, .inl (kI, 6, .inl (cI ct))), (z2, .inl (kI, 6, .inl (cI st))), (z3, .inl (kI, 6, .inl (cI dt)))] s.heap.size = AA at hD ⊢
  have hA : ∀ q : Nat, s.heap.size ≤ q → AA q := fun q h => by rw [← hAe]; exact Or.inr h
  have hS : va_S AA s.heap s.heap [] := va_S.rf
  have hP : va_P (dC, dI) vwCl [(zv, .inr (0, [.ref z1, .ref z2, .ref z3, .int (nI dp)])), (z1, .inl (kI, 6, .inl (cI ct))), (z2, .inl (kI, 6, .inl (cI st))), (z3, .inl (kI, 6, .inl (cI dt)))] s.heap := hP
  have hl := lv_entry ([.ref zv, .int (nI n), .int (nI k), .int (nI d)]) (n := 4) (Nat.le_of_ble_eq_true rfl)
  rw [lg_entry_eq]
  generalize (lg_sl ([.ref zv, .int (nI n), .int (nI k), .int (nI d)]) ++ List.replicate (4 - (lg_sl ([.ref zv, .int (nI n), .int (nI k), .int (nI d)])).length) Slot.unset).toArray = ls at hl ⊢
  have hl : lv_has ls 4 [(0, .ref zv), (1, .int (nI n)), (2, .int (nI k)), (3, .int (nI d))] := hl
  refine lv_aload_n hx hb dX0_push_0 rfl (lv_at hl 0 rfl) ?_
  refine va_get (D := (dC, dI)) (ci := 0) (v := .ref z1) (C := RX0) (T := TX0) (N := 4) hx hb hts (tb_c tbX0) hown hK hP 0 rfl rfl 0 (by decide) (hw _ tw_75) (fun _ h9 => h9) rfl dX0_push_1 ?_
  refine lv_aload_n hx hb dX0_push_4 rfl (lv_at hl 0 rfl) ?_
  refine va_get (D := (dC, dI)) (ci := 0) (v := .int (nI dp)) (C := RX0) (T := TX0) (N := 4) hx hb hts (tb_c tbX0) hown hK hP 0 rfl rfl 3 (by decide) (hw _ tw_81) (fun _ h9 => h9) rfl dX0_push_5 ?_
  refine lv_iload_n hx hb dX0_push_8 rfl (lv_at hl 1 rfl) ?_
  refine cx_iast hx hb hK hP hD hS 1 0 rfl rfl (by first | decide | omega) (i := dp) (cI_u) (by first | omega | exact hB _ (by omega) | exact Nat.lt_of_lt_of_le (hB _ (by omega)) (by omega)) dX0_push_9 (fun H locs hP hD hS => ?_)
  have hP : va_P (dC, dI) vwCl [(zv, .inr (0, [.ref z1, .ref z2, .ref z3, .int (nI dp)])), (z1, .inl (kI, 6, .inl (cI (wt_u ct dp n)))), (z2, .inl (kI, 6, .inl (cI st))), (z3, .inl (kI, 6, .inl (cI dt)))] H := hP
  have hD : va_D AA [(zv, .inr (0, [.ref z1, .ref z2, .ref z3, .int (nI dp)])), (z1, .inl (kI, 6, .inl (cI (wt_u ct dp n)))), (z2, .inl (kI, 6, .inl (cI st))), (z3, .inl (kI, 6, .inl (cI dt)))] := hD
  refine lv_aload_n hx hb dX0_push_10 rfl (lv_at hl 0 rfl) ?_
  refine va_get (D := (dC, dI)) (ci := 0) (v := .ref z2) (C := RX0) (T := TX0) (N := 4) hx hb hts (tb_c tbX0) hown hK hP 0 rfl rfl 1 (by decide) (hw _ tw_77) (fun _ h9 => h9) rfl dX0_push_11 ?_
  refine lv_aload_n hx hb dX0_push_14 rfl (lv_at hl 0 rfl) ?_
  refine va_get (D := (dC, dI)) (ci := 0) (v := .int (nI dp)) (C := RX0) (T := TX0) (N := 4) hx hb hts (tb_c tbX0) hown hK hP 0 rfl rfl 3 (by decide) (hw _ tw_81) (fun _ h9 => h9) rfl dX0_push_15 ?_
  refine lv_iload_n hx hb dX0_push_18 rfl (lv_at hl 2 rfl) ?_
  refine cx_iast hx hb hK hP hD hS 2 0 rfl rfl (by first | decide | omega) (i := dp) (cI_u) (by first | omega | exact hB _ (by omega) | exact Nat.lt_of_lt_of_le (hB _ (by omega)) (by omega)) dX0_push_19 (fun H locs hP hD hS => ?_)
  have hP : va_P (dC, dI) vwCl [(zv, .inr (0, [.ref z1, .ref z2, .ref z3, .int (nI dp)])), (z1, .inl (kI, 6, .inl (cI (wt_u ct dp n)))), (z2, .inl (kI, 6, .inl (cI (wt_u st dp k)))), (z3, .inl (kI, 6, .inl (cI dt)))] H := hP
  have hD : va_D AA [(zv, .inr (0, [.ref z1, .ref z2, .ref z3, .int (nI dp)])), (z1, .inl (kI, 6, .inl (cI (wt_u ct dp n)))), (z2, .inl (kI, 6, .inl (cI (wt_u st dp k)))), (z3, .inl (kI, 6, .inl (cI dt)))] := hD
  refine lv_aload_n hx hb dX0_push_20 rfl (lv_at hl 0 rfl) ?_
  refine va_get (D := (dC, dI)) (ci := 0) (v := .ref z3) (C := RX0) (T := TX0) (N := 4) hx hb hts (tb_c tbX0) hown hK hP 0 rfl rfl 2 (by decide) (hw _ tw_79) (fun _ h9 => h9) rfl dX0_push_21 ?_
  refine lv_aload_n hx hb dX0_push_24 rfl (lv_at hl 0 rfl) ?_
  refine va_get (D := (dC, dI)) (ci := 0) (v := .int (nI dp)) (C := RX0) (T := TX0) (N := 4) hx hb hts (tb_c tbX0) hown hK hP 0 rfl rfl 3 (by decide) (hw _ tw_81) (fun _ h9 => h9) rfl dX0_push_25 ?_
  refine lv_iload_n hx hb dX0_push_28 rfl (lv_at hl 3 rfl) ?_
  refine cx_iast hx hb hK hP hD hS 3 0 rfl rfl (by first | decide | omega) (i := dp) (cI_u) (by first | omega | exact hB _ (by omega) | exact Nat.lt_of_lt_of_le (hB _ (by omega)) (by omega)) dX0_push_29 (fun H locs hP hD hS => ?_)
  have hP : va_P (dC, dI) vwCl [(zv, .inr (0, [.ref z1, .ref z2, .ref z3, .int (nI dp)])), (z1, .inl (kI, 6, .inl (cI (wt_u ct dp n)))), (z2, .inl (kI, 6, .inl (cI (wt_u st dp k)))), (z3, .inl (kI, 6, .inl (cI (wt_u dt dp d))))] H := hP
  have hD : va_D AA [(zv, .inr (0, [.ref z1, .ref z2, .ref z3, .int (nI dp)])), (z1, .inl (kI, 6, .inl (cI (wt_u ct dp n)))), (z2, .inl (kI, 6, .inl (cI (wt_u st dp k)))), (z3, .inl (kI, 6, .inl (cI (wt_u dt dp d))))] := hD
  refine lv_aload_n hx hb dX0_push_30 rfl (lv_at hl 0 rfl) ?_
  refine lv_dup hx hb dX0_push_31 rfl ?_
  refine va_get (D := (dC, dI)) (ci := 0) (v := .int (nI dp)) (C := RX0) (T := TX0) (N := 4) hx hb hts (tb_c tbX0) hown hK hP 0 rfl rfl 3 (by decide) (hw _ tw_81) (fun _ h9 => h9) rfl dX0_push_32 ?_
  refine lv_iconst (v := nI 1) hx hb dX0_push_35 (by decide) ?_
  refine cx_iadd hx hb dX0_push_36 ?_
  refine va_put (D := (dC, dI)) (ci := 0) (v := .int (nI (dp + 1))) (ty := .int) (C := RX0) (T := TX0) (N := 4) hx hb hts (tb_c tbX0) tyX0 tyX0_ok nmX0 hown hK hP hD hS 0 rfl rfl 3 (by decide) (hw _ tw_81) (fun _ h9 => h9) rfl (by decide +kernel) rfl rfl (Nat.le_of_ble_eq_true rfl) dX0_push_37 (fun H locs hP hD hS => ?_)
  have hP : va_P (dC, dI) vwCl [(zv, .inr (0, [.ref z1, .ref z2, .ref z3, .int (nI (dp + 1))])), (z1, .inl (kI, 6, .inl (cI (wt_u ct dp n)))), (z2, .inl (kI, 6, .inl (cI (wt_u st dp k)))), (z3, .inl (kI, 6, .inl (cI (wt_u dt dp d))))] H := hP
  have hD : va_D AA [(zv, .inr (0, [.ref z1, .ref z2, .ref z3, .int (nI (dp + 1))])), (z1, .inl (kI, 6, .inl (cI (wt_u ct dp n)))), (z2, .inl (kI, 6, .inl (cI (wt_u st dp k)))), (z3, .inl (kI, 6, .inl (cI (wt_u dt dp d))))] := hD
  exact W.vret hx hb hr (fun t ht hW => ⟨⟨(), rfl, trivial, by rw [ht]; exact hP, hD⟩, hS.F ht⟩) hS.2.2 dX0_push_40

set_option maxHeartbeats 4000000 in
set_option maxRecDepth 100000 in
theorem c_X4_ofTerm (l : Launch) (dC : Nat → ClassId) (dI : Nat → Nat → Nat) (kI kL : ClassId) (zw : Nat) (zg : Nat) (w : Nat → Nat) (zc : Nat) (zd : Nat) (f : Nat → Nat) (n : Nat) (i : Nat) (qn : n ≤ 40) (hB : ∀ u, u < n → f u < n) (qi : i < n) : Met l yX4_ofTerm (.code yX4_ofTerm cX4_ofTerm 3 (some .long) :: tbw) { frames := 0, cells := 0, slots := 0, locals := 0 } (va_Pc [.ref zw, .ref zc, .int (nI i)] (cx_R (dC, dI) vwCl [(zw, .inr (4, [.ref zg])), (zg, .inl (kL, 40, .inr (.inl (cL w)))), (zc, .inr (2, [.ref zd])), (zd, .inl (kI, 40, .inl (cI f)))] [(kI, .int), (kL, .long)])) (vp_Sl (fun r => r = lN (w (f i)))) 0 0 (fun _ => False) := by
  refine Met.ofW (cc := cX4_ofTerm) (maxL := 3) (ret := (some .long)) (by decide) rfl ?_
  intro p e s m args below meth c s₁ B hml hv
  obtain ⟨rfl, hP, hK⟩ := hv
  have hx := B.exec
  have hb := B.bytes
  have hr := B.returns
  have hts := atoms_spec (ws := .code yX4_ofTerm cX4_ofTerm 3 (some .long) :: tbw) B.pre
  have hw : ∀ w ∈ tbw, w.before _ s = true := fun w h => hts w (List.mem_cons_of_mem _ h)
  have hown : s.vm.findClass RX4 = some m.cls := findClass_of_methodNamed B.named
  have hP : va_P (dC, dI) vwCl [(zw, .inr (4, [.ref zg])), (zg, .inl (kL, 40, .inr (.inl (cL w)))), (zc, .inr (2, [.ref zd])), (zd, .inl (kI, 40, .inl (cI f)))] s.heap := hP
  have hl := lv_entry ([.ref zw, .ref zc, .int (nI i)]) (n := 3) (Nat.le_of_ble_eq_true rfl)
  rw [lg_entry_eq]
  generalize (lg_sl ([.ref zw, .ref zc, .int (nI i)]) ++ List.replicate (3 - (lg_sl ([.ref zw, .ref zc, .int (nI i)])).length) Slot.unset).toArray = ls at hl ⊢
  have hl : lv_has ls 3 [(0, .ref zw), (1, .ref zc), (2, .int (nI i))] := hl
  refine lv_aload_n hx hb dX4_ofTerm_0 rfl (lv_at hl 0 rfl) ?_
  refine va_get (D := (dC, dI)) (ci := 4) (v := .ref zg) (C := RX4) (T := TX4) (N := 1) hx hb hts (tb_c tbX4) hown hK hP 0 rfl rfl 0 (by decide) (hw _ tw_110) (fun _ h9 => h9) rfl dX4_ofTerm_1 ?_
  refine lv_aload_n hx hb dX4_ofTerm_4 rfl (lv_at hl 1 rfl) ?_
  refine va_get (D := (dC, dI)) (ci := 2) (v := .ref zd) (C := RX2) (T := TX2) (N := 1) hx hb hts (tb_c tbX2) hown hK hP 2 rfl rfl 0 (by decide) (hw _ tw_99) (fun _ h9 => h9) rfl dX4_ofTerm_5 ?_
  refine lv_iload_n hx hb dX4_ofTerm_8 rfl (lv_at hl 2 rfl) ?_
  refine cx_iald hx hb hK hP 3 0 rfl rfl (by first | decide | omega) (v := nI (f i)) (i := i) rfl (by first | omega | exact hB _ (by omega) | exact Nat.lt_of_lt_of_le (hB _ (by omega)) (by omega)) dX4_ofTerm_9 ?_
  refine cx_lald hx hb hK hP 1 1 rfl rfl (by first | decide | omega) (v := lN (w (f i))) (i := (f i)) rfl (by first | omega | exact hB _ (by omega) | exact Nat.lt_of_lt_of_le (hB _ (by omega)) (by omega)) dX4_ofTerm_10 ?_
  exact W.lret (v := lN (w (f i))) hx hb hr (fun t ht hW => ⟨_, rfl, rfl, ht⟩) (fun _ h9 => by cases h9) dX4_ofTerm_11

set_option maxHeartbeats 4000000 in
set_option maxRecDepth 100000 in
theorem c_X4_ofArgument (l : Launch) (dC : Nat → ClassId) (dI : Nat → Nat → Nat) (kI kL : ClassId) (zw : Nat) (zg : Nat) (w : Nat → Nat) (zc : Nat) (zd : Nat) (f : Nat → Nat) (n : Nat) (x : Nat) (qn : n ≤ 40) (hB : ∀ u, u < n → f u < n) (qx : x ≤ n) : Met l yX4_ofArgument (.code yX4_ofArgument cX4_ofArgument 3 (some .long) :: tbw) { frames := 1, cells := 0, slots := 0, locals := 22 } (va_Pc [.ref zw, .ref zc, .int (aI x)] (cx_R (dC, dI) vwCl [(zw, .inr (4, [.ref zg])), (zg, .inl (kL, 40, .inr (.inl (cL w)))), (zc, .inr (2, [.ref zd])), (zd, .inl (kI, 40, .inl (cI f)))] [(kI, .int), (kL, .long)])) (vp_Sl (fun r => r = lN (wt_a f w x))) 0 0 (fun _ => False) := by
  refine Met.ofW (cc := cX4_ofArgument) (maxL := 3) (ret := (some .long)) (by decide) rfl ?_
  intro p e s m args below meth c s₁ B hml hv
  obtain ⟨rfl, hP, hK⟩ := hv
  have hx := B.exec
  have hb := B.bytes
  have hr := B.returns
  have hts := atoms_spec (ws := .code yX4_ofArgument cX4_ofArgument 3 (some .long) :: tbw) B.pre
  have hw : ∀ w ∈ tbw, w.before _ s = true := fun w h => hts w (List.mem_cons_of_mem _ h)
  have hown : s.vm.findClass RX4 = some m.cls := findClass_of_methodNamed B.named
  have hP : va_P (dC, dI) vwCl [(zw, .inr (4, [.ref zg])), (zg, .inl (kL, 40, .inr (.inl (cL w)))), (zc, .inr (2, [.ref zd])), (zd, .inl (kI, 40, .inl (cI f)))] s.heap := hP
  have hl := lv_entry ([.ref zw, .ref zc, .int (aI x)]) (n := 3) (Nat.le_of_ble_eq_true rfl)
  rw [lg_entry_eq]
  generalize (lg_sl ([.ref zw, .ref zc, .int (aI x)]) ++ List.replicate (3 - (lg_sl ([.ref zw, .ref zc, .int (aI x)])).length) Slot.unset).toArray = ls at hl ⊢
  have hl : lv_has ls 3 [(0, .ref zw), (1, .ref zc), (2, .int (aI x))] := hl
  refine lv_iload_n hx hb dX4_ofArgument_0 rfl (lv_at hl 2 rfl) ?_
  refine lv_iconst (v := (-1)) hx hb dX4_ofArgument_1 (by decide) ?_
  refine cx_ane (x := x) (y := 0) (tgt := 9) hx hb dX4_ofArgument_2 (by decide) (by first | omega | exact hB _ (by omega) | exact Nat.lt_of_lt_of_le (hB _ (by omega)) (by omega)) (by first | omega | exact hB _ (by omega) | exact Nat.lt_of_lt_of_le (hB _ (by omega)) (by omega)) (fun b0 => ?_) (fun b0 => ?_)
  · skip
    obtain ⟨x1, rfl⟩ := cx_suc b0
    refine lv_aload_n hx hb dX4_ofArgument_9 rfl (lv_at hl 0 rfl) ?_
    refine lv_aload_n hx hb dX4_ofArgument_10 rfl (lv_at hl 1 rfl) ?_
    refine lv_iload_n hx hb dX4_ofArgument_11 rfl (lv_at hl 2 rfl) ?_
    refine cx_sl (va_runV (As := [.ref zc, .int (nI x1)]) (rest := []) ⟨hx, hb, hml, hown, hts⟩ (c_X4_ofTerm l dC dI kI kL zw zg w zc zd f n x1 (by first | assumption | omega | rfl) (by first | assumption | omega | rfl) (by first | assumption | omega | rfl)) (cwV 2 hts gv_X4_53 rfl rfl rfl hdX4_ofTerm ⟨Nat.le_of_ble_eq_true rfl, Nat.le_of_ble_eq_true rfl⟩) (cx_preV (hP.sub (ws' := [(zw, .inr (4, [.ref zg])), (zg, .inl (kL, 40, .inr (.inl (cL w)))), (zc, .inr (2, [.ref zd])), (zd, .inl (kI, 40, .inl (cI f)))]) [0, 1, 2, 3] rfl) hK rfl (q0 := 0) rfl) rfl rfl hl.1 rfl (lv_room (Nat.le_of_ble_eq_true rfl)) dX4_ofArgument_12 ⟨Nat.zero_le _, Nat.zero_le _⟩) (fun r hres => ?_)
    subst hres
    exact W.lret (v := lN (w (f x1))) hx hb hr (fun t ht hW => ⟨_, rfl, rfl, ht⟩) (fun _ h9 => by cases h9) dX4_ofArgument_15
  refine lv_lconst (v := lN 0) hx hb dX4_ofArgument_5 (by decide) ?_
  refine lv_goto (tgt := 15) hx hb dX4_ofArgument_6 (by decide) ?_
  exact W.lret (v := lN 0) hx hb hr (fun t ht hW => ⟨_, rfl, by rw [b0]; rfl, ht⟩) (fun _ h9 => by cases h9) dX4_ofArgument_15

set_option maxHeartbeats 4000000 in
set_option maxRecDepth 100000 in
theorem c_X4_costOf (l : Launch) (dC : Nat → ClassId) (dI : Nat → Nat → Nat) (kI kL : ClassId) (zw : Nat) (zg : Nat) (w : Nat → Nat) (zc : Nat) (zd : Nat) (f : Nat → Nat) (zt : Nat) (zs : Nat) (zf : Nat) (ze : Nat) (n : Nat) (S : Nat → Int32) (F : Nat → Nat) (E : Nat → Nat) (i : Nat) (qn : n ≤ 40) (hB : ∀ u, u < n → f u < n) (qw : cg_wf (S, F, E) n) (qi : i < n) : Met l yX4_costOf (.code yX4_costOf cX4_costOf 4 (some .long) :: tbw) { frames := 2, cells := 0, slots := 0, locals := 44 } (va_Pc [.ref zw, .ref zt, .ref zc, .int (nI i)] (cx_R (dC, dI) vwCl [(zw, .inr (4, [.ref zg])), (zg, .inl (kL, 40, .inr (.inl (cL w)))), (zc, .inr (2, [.ref zd])), (zd, .inl (kI, 40, .inl (cI f))), (zt, .inr (3, [.ref zs, .ref zf, .ref ze, .int (nI n)])), (zs, .inl (kI, 40, .inl S)), (zf, .inl (kI, 40, .inl (cA F))), (ze, .inl (kI, 40, .inl (cA E)))] [(kI, .int), (kL, .long)])) (vp_Sl (fun r => r = lN (wt_c (S, F, E) f w i))) 0 0 (fun _ => False) := by
  refine Met.ofW (cc := cX4_costOf) (maxL := 4) (ret := (some .long)) (by decide) rfl ?_
  intro p e s m args below meth c s₁ B hml hv
  obtain ⟨rfl, hP, hK⟩ := hv
  have hx := B.exec
  have hb := B.bytes
  have hr := B.returns
  have hts := atoms_spec (ws := .code yX4_costOf cX4_costOf 4 (some .long) :: tbw) B.pre
  have hw : ∀ w ∈ tbw, w.before _ s = true := fun w h => hts w (List.mem_cons_of_mem _ h)
  have hown : s.vm.findClass RX4 = some m.cls := findClass_of_methodNamed B.named
  have hP : va_P (dC, dI) vwCl [(zw, .inr (4, [.ref zg])), (zg, .inl (kL, 40, .inr (.inl (cL w)))), (zc, .inr (2, [.ref zd])), (zd, .inl (kI, 40, .inl (cI f))), (zt, .inr (3, [.ref zs, .ref zf, .ref ze, .int (nI n)])), (zs, .inl (kI, 40, .inl S)), (zf, .inl (kI, 40, .inl (cA F))), (ze, .inl (kI, 40, .inl (cA E)))] s.heap := hP
  have hl := lv_entry ([.ref zw, .ref zt, .ref zc, .int (nI i)]) (n := 4) (Nat.le_of_ble_eq_true rfl)
  rw [lg_entry_eq]
  generalize (lg_sl ([.ref zw, .ref zt, .ref zc, .int (nI i)]) ++ List.replicate (4 - (lg_sl ([.ref zw, .ref zt, .ref zc, .int (nI i)])).length) Slot.unset).toArray = ls at hl ⊢
  have hl : lv_has ls 4 [(0, .ref zw), (1, .ref zt), (2, .ref zc), (3, .int (nI i))] := hl
  refine lv_lconst (v := lN 1) hx hb dX4_costOf_0 (by decide) ?_
  refine lv_aload_n hx hb dX4_costOf_1 rfl (lv_at hl 0 rfl) ?_
  refine lv_aload_n hx hb dX4_costOf_2 rfl (lv_at hl 2 rfl) ?_
  refine lv_aload_n hx hb dX4_costOf_3 rfl (lv_at hl 1 rfl) ?_
  refine va_get (D := (dC, dI)) (ci := 3) (v := .ref zf) (C := RX3) (T := TX3) (N := 4) hx hb hts (tb_c tbX3) hown hK hP 4 rfl rfl 1 (by decide) (hw _ tw_28) (fun _ h9 => h9) rfl dX4_costOf_4 ?_
  refine lv_iload_n hx hb dX4_costOf_7 rfl (lv_at hl 3 rfl) ?_
  refine cx_iald hx hb hK hP 6 0 rfl rfl (by first | decide | omega) (v := aI (F i)) (i := i) rfl (by first | omega | exact hB _ (by omega) | exact Nat.lt_of_lt_of_le (hB _ (by omega)) (by omega)) dX4_costOf_8 ?_
  refine cx_sl (va_runV (As := [.ref zc, .int (aI (F i))]) (rest := [.long (lN 1)]) ⟨hx, hb, hml, hown, hts⟩ (c_X4_ofArgument l dC dI kI kL zw zg w zc zd f n (F i) (by first | assumption | omega | rfl) (by first | assumption | omega | rfl) (by have := qw i qi; simp only at this; omega)) (cwV 2 hts gv_X4_46 rfl rfl rfl hdX4_ofArgument ⟨Nat.le_of_ble_eq_true rfl, Nat.le_of_ble_eq_true rfl⟩) (cx_preV (hP.sub (ws' := [(zw, .inr (4, [.ref zg])), (zg, .inl (kL, 40, .inr (.inl (cL w)))), (zc, .inr (2, [.ref zd])), (zd, .inl (kI, 40, .inl (cI f)))]) [0, 1, 2, 3] rfl) hK rfl (q0 := 0) rfl) rfl rfl hl.1 rfl (lv_room (Nat.le_of_ble_eq_true rfl)) dX4_costOf_9 ⟨Nat.zero_le _, Nat.zero_le _⟩) (fun r hres => ?_)
  subst hres
  refine cx_ladd hx hb dX4_costOf_12 ?_
  refine lv_aload_n hx hb dX4_costOf_13 rfl (lv_at hl 0 rfl) ?_
  refine lv_aload_n hx hb dX4_costOf_14 rfl (lv_at hl 2 rfl) ?_
  refine lv_aload_n hx hb dX4_costOf_15 rfl (lv_at hl 1 rfl) ?_
  refine va_get (D := (dC, dI)) (ci := 3) (v := .ref ze) (C := RX3) (T := TX3) (N := 4) hx hb hts (tb_c tbX3) hown hK hP 4 rfl rfl 2 (by decide) (hw _ tw_31) (fun _ h9 => h9) rfl dX4_costOf_16 ?_
  refine lv_iload_n hx hb dX4_costOf_19 rfl (lv_at hl 3 rfl) ?_
  refine cx_iald hx hb hK hP 7 0 rfl rfl (by first | decide | omega) (v := aI (E i)) (i := i) rfl (by first | omega | exact hB _ (by omega) | exact Nat.lt_of_lt_of_le (hB _ (by omega)) (by omega)) dX4_costOf_20 ?_
  refine cx_sl (va_runV (As := [.ref zc, .int (aI (E i))]) (rest := [.long (lN (1 + (wt_a f w (F i))))]) ⟨hx, hb, hml, hown, hts⟩ (c_X4_ofArgument l dC dI kI kL zw zg w zc zd f n (E i) (by first | assumption | omega | rfl) (by first | assumption | omega | rfl) (by have := qw i qi; simp only at this; omega)) (cwV 2 hts gv_X4_46 rfl rfl rfl hdX4_ofArgument ⟨Nat.le_of_ble_eq_true rfl, Nat.le_of_ble_eq_true rfl⟩) (cx_preV (hP.sub (ws' := [(zw, .inr (4, [.ref zg])), (zg, .inl (kL, 40, .inr (.inl (cL w)))), (zc, .inr (2, [.ref zd])), (zd, .inl (kI, 40, .inl (cI f)))]) [0, 1, 2, 3] rfl) hK rfl (q0 := 0) rfl) rfl rfl hl.1 rfl (lv_room (Nat.le_of_ble_eq_true rfl)) dX4_costOf_21 ⟨Nat.zero_le _, Nat.zero_le _⟩) (fun r hres => ?_)
  subst hres
  refine cx_ladd hx hb dX4_costOf_24 ?_
  exact W.lret (v := lN ((1 + (wt_a f w (F i))) + (wt_a f w (E i)))) hx hb hr (fun t ht hW => ⟨_, rfl, rfl, ht⟩) (fun _ h9 => by cases h9) dX4_costOf_25
