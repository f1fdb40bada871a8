set_option maxHeartbeats 4000000 in
set_option maxRecDepth 100000 in
theorem c_X6_argument (l : Launch) (dC : Nat → ClassId) (dI : Nat → Nat → Nat) (kI kL : ClassId) (ma : Nat) (m1 : Nat) (m2 : Nat) (m3 : Nat) (m4 : Nat) (m5 : Nat) (m6 : Nat) (m7 : Nat) (m8 : Nat) (m9 : Nat) (mA : Nat) (mB : Nat) (mC : Nat) (n : Nat) (k : Nat) (d : Nat) (dp : Nat) (f : Nat → Nat) (w : Nat → Nat) (x : Nat) (qn : n ≤ 40) (hB : ∀ u, u < n → f u < n) (qx : x ≤ n) : Met l yX6_argument (.code yX6_argument cX6_argument 2 (some .long) :: tbw) { frames := 0, cells := 0, slots := 0, locals := 0 } (va_Pc [.ref ma, .int (aI x)] (cx_R (dC, dI) vwCl [(ma, .inr (6, [.int (nI n), .ref m1, .ref m2, .ref m3, .int (nI k), .ref m4, .ref m5, .int (nI d), .ref m6, .ref m7, .int (nI dp), .ref m8, .ref m9, .ref mA, .ref mB, .ref mC])), (mB, .inl (kI, 40, .inl (cI f))), (mC, .inl (kL, 40, .inr (.inl (cL w))))] [(kI, .int), (kL, .long)])) (vp_Sl (fun r => r = lN (wt_a f w x))) 0 0 (fun _ => False) := by
  refine Met.ofW (cc := cX6_argument) (maxL := 2) (ret := (some .long)) (by decide) rfl ?_
  intro p e s m args below meth c s₁ B hml hv
  obtain ⟨rfl, hP, hK⟩ := hv
  have hx := B.exec
  have hb := B.bytes
  have hr := B.returns
  have hts := atoms_spec (ws := .code yX6_argument cX6_argument 2 (some .long) :: tbw) B.pre
  have hw : ∀ w ∈ tbw, w.before _ s = true := fun w h => hts w (List.mem_cons_of_mem _ h)
  have hown : s.vm.findClass RX6 = some m.cls := findClass_of_methodNamed B.named
  have hP : va_P (dC, dI) vwCl [(ma, .inr (6, [.int (nI n), .ref m1, .ref m2, .ref m3, .int (nI k), .ref m4, .ref m5, .int (nI d), .ref m6, .ref m7, .int (nI dp), .ref m8, .ref m9, .ref mA, .ref mB, .ref mC])), (mB, .inl (kI, 40, .inl (cI f))), (mC, .inl (kL, 40, .inr (.inl (cL w))))] s.heap := hP
  have hl := lv_entry ([.ref ma, .int (aI x)]) (n := 2) (Nat.le_of_ble_eq_true rfl)
  rw [lg_entry_eq]
  generalize (lg_sl ([.ref ma, .int (aI x)]) ++ List.replicate (2 - (lg_sl ([.ref ma, .int (aI x)])).length) Slot.unset).toArray = ls at hl ⊢
  have hl : lv_has ls 2 [(0, .ref ma), (1, .int (aI x))] := hl
  refine lv_iload_n hx hb dX6_argument_0 rfl (lv_at hl 1 rfl) ?_
  refine cx_age (x := x) (tgt := 8) hx hb dX6_argument_1 (by decide) (by first | omega | exact hB _ (by omega) | exact Nat.lt_of_lt_of_le (hB _ (by omega)) (by omega)) (fun b0 => ?_) (fun b0 => ?_)
  · skip
    obtain ⟨x1, rfl⟩ := cx_suc b0
    refine lv_aload_n hx hb dX6_argument_8 rfl (lv_at hl 0 rfl) ?_
    refine va_get (D := (dC, dI)) (ci := 6) (v := .ref mC) (C := RX6) (T := TX6) (N := 16) hx hb hts (tb_c tbX6) hown hK hP 0 rfl rfl 15 (by decide) (hw _ tw_356) (fun _ h9 => h9) rfl dX6_argument_9 ?_
    refine lv_aload_n hx hb dX6_argument_12 rfl (lv_at hl 0 rfl) ?_
    refine va_get (D := (dC, dI)) (ci := 6) (v := .ref mB) (C := RX6) (T := TX6) (N := 16) hx hb hts (tb_c tbX6) hown hK hP 0 rfl rfl 14 (by decide) (hw _ tw_355) (fun _ h9 => h9) rfl dX6_argument_13 ?_
    refine lv_iload_n hx hb dX6_argument_16 rfl (lv_at hl 1 rfl) ?_
    refine cx_iald hx hb hK hP 1 0 rfl rfl (by first | decide | omega) (v := nI (f x1)) (i := x1) rfl (by first | omega | exact hB _ (by omega) | exact Nat.lt_of_lt_of_le (hB _ (by omega)) (by omega)) dX6_argument_17 ?_
    refine cx_lald hx hb hK hP 2 1 rfl rfl (by first | decide | omega) (v := lN (w (f x1))) (i := (f x1)) rfl (by first | omega | exact hB _ (by omega) | exact Nat.lt_of_lt_of_le (hB _ (by omega)) (by omega)) dX6_argument_18 ?_
    exact W.lret (v := lN (w (f x1))) hx hb hr (fun t ht hW => ⟨_, rfl, rfl, ht⟩) (fun _ h9 => by cases h9) dX6_argument_19
  refine lv_lconst (v := lN 0) hx hb dX6_argument_4 (by decide) ?_
  refine lv_goto (tgt := 19) hx hb dX6_argument_5 (by decide) ?_
  exact W.lret (v := lN 0) hx hb hr (fun t ht hW => ⟨_, rfl, by rw [b0]; rfl, ht⟩) (fun _ h9 => by cases h9) dX6_argument_19

set_option maxHeartbeats 4000000 in
set_option maxRecDepth 100000 in
theorem c_X6_sum (l : Launch) (dC : Nat → ClassId) (dI : Nat → Nat → Nat) (kI kL : ClassId) (ma : Nat) (m1 : Nat) (m2 : Nat) (m3 : Nat) (m4 : Nat) (m5 : Nat) (m6 : Nat) (m7 : Nat) (m8 : Nat) (m9 : Nat) (mA : Nat) (mB : Nat) (mC : Nat) (n : Nat) (k : Nat) (d : Nat) (dp : Nat) (S : Nat → Int32) (F : Nat → Nat) (E : Nat → Nat) (f : Nat → Nat) (w : Nat → Nat) (i : Nat) (qn : n ≤ 40) (hB : ∀ u, u < n → f u < n) (qw : cg_wf (S, F, E) n) (hH : ∀ j, j < n → w j < 2 ^ 62) (qi : i < n) : Met l yX6_sum (.code yX6_sum cX6_sum 5 (some .long) :: tbw) { frames := 1, cells := 0, slots := 0, locals := 21 } (va_Pc [.ref ma, .int (nI i)] (cx_R (dC, dI) vwCl [(ma, .inr (6, [.int (nI n), .ref m1, .ref m2, .ref m3, .int (nI k), .ref m4, .ref m5, .int (nI d), .ref m6, .ref m7, .int (nI dp), .ref m8, .ref m9, .ref mA, .ref mB, .ref mC])), (m1, .inl (kI, 40, .inl S)), (m2, .inl (kI, 40, .inl (cA F))), (m3, .inl (kI, 40, .inl (cA E))), (mB, .inl (kI, 40, .inl (cI f))), (mC, .inl (kL, 40, .inr (.inl (cL w))))] [(kI, .int), (kL, .long)])) (vp_Sl (fun r => r = lN (rs (S, F, E) f w i))) 0 0 (fun _ => False) := by
  refine Met.ofW (cc := cX6_sum) (maxL := 5) (ret := (some .long)) (by decide) rfl ?_
  intro p e s m args below meth c s₁ B hml hv
  obtain ⟨rfl, hP, hK⟩ := hv
  have hx := B.exec
  have hb := B.bytes
  have hr := B.returns
  have hts := atoms_spec (ws := .code yX6_sum cX6_sum 5 (some .long) :: tbw) B.pre
  have hw : ∀ w ∈ tbw, w.before _ s = true := fun w h => hts w (List.mem_cons_of_mem _ h)
  have hown : s.vm.findClass RX6 = some m.cls := findClass_of_methodNamed B.named
  have hP : va_P (dC, dI) vwCl [(ma, .inr (6, [.int (nI n), .ref m1, .ref m2, .ref m3, .int (nI k), .ref m4, .ref m5, .int (nI d), .ref m6, .ref m7, .int (nI dp), .ref m8, .ref m9, .ref mA, .ref mB, .ref mC])), (m1, .inl (kI, 40, .inl S)), (m2, .inl (kI, 40, .inl (cA F))), (m3, .inl (kI, 40, .inl (cA E))), (mB, .inl (kI, 40, .inl (cI f))), (mC, .inl (kL, 40, .inr (.inl (cL w))))] s.heap := hP
  have hl := lv_entry ([.ref ma, .int (nI i)]) (n := 5) (Nat.le_of_ble_eq_true rfl)
  rw [lg_entry_eq]
  generalize (lg_sl ([.ref ma, .int (nI i)]) ++ List.replicate (5 - (lg_sl ([.ref ma, .int (nI i)])).length) Slot.unset).toArray = ls at hl ⊢
  have hl : lv_has ls 5 [(0, .ref ma), (1, .int (nI i))] := hl
  have e1 : F i ≤ i ∧ E i ≤ i := qw i qi
  have e3 := wt_a_h (L := f) hB hH (x := F i) (by omega)
  have e4 := wt_a_h (L := f) hB hH (x := E i) (by omega)
  refine lv_aload_n hx hb dX6_sum_0 rfl (lv_at hl 0 rfl) ?_
  refine va_get (D := (dC, dI)) (ci := 6) (v := .ref m2) (C := RX6) (T := TX6) (N := 16) hx hb hts (tb_c tbX6) hown hK hP 0 rfl rfl 2 (by decide) (hw _ tw_343) (fun _ h9 => h9) rfl dX6_sum_1 ?_
  refine lv_iload_n hx hb dX6_sum_4 rfl (lv_at hl 1 rfl) ?_
  refine cx_iald hx hb hK hP 2 0 rfl rfl (by first | decide | omega) (v := aI (F i)) (i := i) rfl (by first | omega | exact hB _ (by omega) | exact Nat.lt_of_lt_of_le (hB _ (by omega)) (by omega)) dX6_sum_5 ?_
  refine lv_istore_n hx hb dX6_sum_6 rfl hl (by decide) rfl (fun ls hl => ?_)
  have hl : lv_has ls 5 [(2, .int (aI (F i))), (0, .ref ma), (1, .int (nI i))] := hl
  refine lv_aload_n hx hb dX6_sum_7 rfl (lv_at hl 1 rfl) ?_
  refine va_get (D := (dC, dI)) (ci := 6) (v := .ref m3) (C := RX6) (T := TX6) (N := 16) hx hb hts (tb_c tbX6) hown hK hP 0 rfl rfl 3 (by decide) (hw _ tw_344) (fun _ h9 => h9) rfl dX6_sum_8 ?_
  refine lv_iload_n hx hb dX6_sum_11 rfl (lv_at hl 2 rfl) ?_
  refine cx_iald hx hb hK hP 3 0 rfl rfl (by first | decide | omega) (v := aI (E i)) (i := i) rfl (by first | omega | exact hB _ (by omega) | exact Nat.lt_of_lt_of_le (hB _ (by omega)) (by omega)) dX6_sum_12 ?_
  refine lv_istore_n hx hb dX6_sum_13 rfl hl (by decide) rfl (fun ls hl => ?_)
  have hl : lv_has ls 5 [(3, .int (aI (E i))), (2, .int (aI (F i))), (0, .ref ma), (1, .int (nI i))] := hl
  refine lv_iload_n hx hb dX6_sum_14 rfl (lv_at hl 1 rfl) ?_
  refine cx_alt (x := (F i)) (tgt := 28) hx hb dX6_sum_15 (by decide) (by first | omega | exact hB _ (by omega) | exact Nat.lt_of_lt_of_le (hB _ (by omega)) (by omega)) (fun b0 => ?_) (fun b0 => ?_)
  · skip
    refine lv_iload_n hx hb dX6_sum_28 rfl (lv_at hl 0 rfl) ?_
    refine cx_alt (x := (E i)) (tgt := 46) hx hb dX6_sum_29 (by decide) (by first | omega | exact hB _ (by omega) | exact Nat.lt_of_lt_of_le (hB _ (by omega)) (by omega)) (fun b2 => ?_) (fun b2 => ?_)
    · skip
      refine lv_iconst (v := nI 0) hx hb dX6_sum_46 (by decide) ?_
      refine lv_istore hx hb dX6_sum_47 hl (by decide) rfl (fun ls hl => ?_)
      have hl : lv_has ls 5 [(4, .int (nI 0)), (3, .int (aI (E i))), (2, .int (aI (F i))), (0, .ref ma), (1, .int (nI i))] := hl
      refine lv_iload hx hb dX6_sum_49 (lv_at hl 0 rfl) ?_
      refine cx_neq (x := 0) (tgt := 58) hx hb dX6_sum_51 (by decide) (by decide) (fun _ => ?_) (fun h9 => absurd h9 (by decide))
      refine lv_lconst (v := lN 1) hx hb dX6_sum_58 (by decide) ?_
      refine lv_aload_n hx hb dX6_sum_59 rfl (lv_at hl 3 rfl) ?_
      refine lv_iload_n hx hb dX6_sum_60 rfl (lv_at hl 2 rfl) ?_
      refine cx_sl (va_runV (As := [.int (aI (F i))]) (rest := [.long (lN 1)]) ⟨hx, hb, hml, hown, hts⟩ (c_X6_argument l dC dI kI kL ma m1 m2 m3 m4 m5 m6 m7 m8 m9 mA mB mC n k d dp f w (F i) (by first | assumption | omega | rfl) (by first | assumption | omega | rfl) (by first | assumption | omega | rfl)) (cwV 1 hts gv_X6_102 rfl rfl rfl hdX6_argument ⟨Nat.le_of_ble_eq_true rfl, Nat.le_of_ble_eq_true rfl⟩) (cx_preV (hP.sub (ws' := [(ma, .inr (6, [.int (nI n), .ref m1, .ref m2, .ref m3, .int (nI k), .ref m4, .ref m5, .int (nI d), .ref m6, .ref m7, .int (nI dp), .ref m8, .ref m9, .ref mA, .ref mB, .ref mC])), (mB, .inl (kI, 40, .inl (cI f))), (mC, .inl (kL, 40, .inr (.inl (cL w))))]) [0, 4, 5] rfl) hK rfl (q0 := 0) rfl) rfl rfl hl.1 rfl (lv_room (Nat.le_of_ble_eq_true rfl)) dX6_sum_61 ⟨Nat.zero_le _, Nat.zero_le _⟩) (fun r hres => ?_)
      subst hres
      refine cx_ladd hx hb dX6_sum_64 ?_
      refine lv_aload_n hx hb dX6_sum_65 rfl (lv_at hl 3 rfl) ?_
      refine lv_iload_n hx hb dX6_sum_66 rfl (lv_at hl 1 rfl) ?_
      refine cx_sl (va_runV (As := [.int (aI (E i))]) (rest := [.long (lN (1 + (wt_a f w (F i))))]) ⟨hx, hb, hml, hown, hts⟩ (c_X6_argument l dC dI kI kL ma m1 m2 m3 m4 m5 m6 m7 m8 m9 mA mB mC n k d dp f w (E i) (by first | assumption | omega | rfl) (by first | assumption | omega | rfl) (by first | assumption | omega | rfl)) (cwV 1 hts gv_X6_102 rfl rfl rfl hdX6_argument ⟨Nat.le_of_ble_eq_true rfl, Nat.le_of_ble_eq_true rfl⟩) (cx_preV (hP.sub (ws' := [(ma, .inr (6, [.int (nI n), .ref m1, .ref m2, .ref m3, .int (nI k), .ref m4, .ref m5, .int (nI d), .ref m6, .ref m7, .int (nI dp), .ref m8, .ref m9, .ref mA, .ref mB, .ref mC])), (mB, .inl (kI, 40, .inl (cI f))), (mC, .inl (kL, 40, .inr (.inl (cL w))))]) [0, 4, 5] rfl) hK rfl (q0 := 0) rfl) rfl rfl hl.1 rfl (lv_room (Nat.le_of_ble_eq_true rfl)) dX6_sum_67 ⟨Nat.zero_le _, Nat.zero_le _⟩) (fun r hres => ?_)
      subst hres
      refine cx_ladd hx hb dX6_sum_70 ?_
      exact W.lret (v := lN ((1 + (wt_a f w (F i))) + (wt_a f w (E i)))) hx hb hr (fun t ht hW => ⟨_, rfl, congrArg lN (rs_1 (T := (S, F, E)) (by first | exact Or.inl b0 | exact Or.inr b1) (by first | exact Or.inl b2 | exact Or.inr b3)), ht⟩) (fun _ h9 => by cases h9) dX6_sum_71
    refine lv_aload_n hx hb dX6_sum_32 rfl (lv_at hl 2 rfl) ?_
    refine lv_iload_n hx hb dX6_sum_33 rfl (lv_at hl 0 rfl) ?_
    refine cx_sl (va_runV (As := [.int (aI (E i))]) (rest := []) ⟨hx, hb, hml, hown, hts⟩ (c_X6_argument l dC dI kI kL ma m1 m2 m3 m4 m5 m6 m7 m8 m9 mA mB mC n k d dp f w (E i) (by first | assumption | omega | rfl) (by first | assumption | omega | rfl) (by first | assumption | omega | rfl)) (cwV 1 hts gv_X6_102 rfl rfl rfl hdX6_argument ⟨Nat.le_of_ble_eq_true rfl, Nat.le_of_ble_eq_true rfl⟩) (cx_preV (hP.sub (ws' := [(ma, .inr (6, [.int (nI n), .ref m1, .ref m2, .ref m3, .int (nI k), .ref m4, .ref m5, .int (nI d), .ref m6, .ref m7, .int (nI dp), .ref m8, .ref m9, .ref mA, .ref mB, .ref mC])), (mB, .inl (kI, 40, .inl (cI f))), (mC, .inl (kL, 40, .inr (.inl (cL w))))]) [0, 4, 5] rfl) hK rfl (q0 := 0) rfl) rfl rfl hl.1 rfl (lv_room (Nat.le_of_ble_eq_true rfl)) dX6_sum_34 ⟨Nat.zero_le _, Nat.zero_le _⟩) (fun r hres => ?_)
    subst hres
    refine lv_lconst (v := lN 0) hx hb dX6_sum_37 (by decide) ?_
    refine cx_lne (tgt := 46) hx hb dX6_sum_38 dX6_sum_39 (by decide) (by first | omega | exact hB _ (by omega) | exact Nat.lt_of_lt_of_le (hB _ (by omega)) (by omega)) (by first | omega | exact hB _ (by omega) | exact Nat.lt_of_lt_of_le (hB _ (by omega)) (by omega)) (fun b3 => ?_) (fun b3 => ?_)
    · skip
      refine lv_iconst (v := nI 0) hx hb dX6_sum_46 (by decide) ?_
      refine lv_istore hx hb dX6_sum_47 hl (by decide) rfl (fun ls hl => ?_)
      have hl : lv_has ls 5 [(4, .int (nI 0)), (3, .int (aI (E i))), (2, .int (aI (F i))), (0, .ref ma), (1, .int (nI i))] := hl
      refine lv_iload hx hb dX6_sum_49 (lv_at hl 0 rfl) ?_
      refine cx_neq (x := 0) (tgt := 58) hx hb dX6_sum_51 (by decide) (by decide) (fun _ => ?_) (fun h9 => absurd h9 (by decide))
      refine lv_lconst (v := lN 1) hx hb dX6_sum_58 (by decide) ?_
      refine lv_aload_n hx hb dX6_sum_59 rfl (lv_at hl 3 rfl) ?_
      refine lv_iload_n hx hb dX6_sum_60 rfl (lv_at hl 2 rfl) ?_
      refine cx_sl (va_runV (As := [.int (aI (F i))]) (rest := [.long (lN 1)]) ⟨hx, hb, hml, hown, hts⟩ (c_X6_argument l dC dI kI kL ma m1 m2 m3 m4 m5 m6 m7 m8 m9 mA mB mC n k d dp f w (F i) (by first | assumption | omega | rfl) (by first | assumption | omega | rfl) (by first | assumption | omega | rfl)) (cwV 1 hts gv_X6_102 rfl rfl rfl hdX6_argument ⟨Nat.le_of_ble_eq_true rfl, Nat.le_of_ble_eq_true rfl⟩) (cx_preV (hP.sub (ws' := [(ma, .inr (6, [.int (nI n), .ref m1, .ref m2, .ref m3, .int (nI k), .ref m4, .ref m5, .int (nI d), .ref m6, .ref m7, .int (nI dp), .ref m8, .ref m9, .ref mA, .ref mB, .ref mC])), (mB, .inl (kI, 40, .inl (cI f))), (mC, .inl (kL, 40, .inr (.inl (cL w))))]) [0, 4, 5] rfl) hK rfl (q0 := 0) rfl) rfl rfl hl.1 rfl (lv_room (Nat.le_of_ble_eq_true rfl)) dX6_sum_61 ⟨Nat.zero_le _, Nat.zero_le _⟩) (fun r hres => ?_)
      subst hres
      refine cx_ladd hx hb dX6_sum_64 ?_
      refine lv_aload_n hx hb dX6_sum_65 rfl (lv_at hl 3 rfl) ?_
      refine lv_iload_n hx hb dX6_sum_66 rfl (lv_at hl 1 rfl) ?_
      refine cx_sl (va_runV (As := [.int (aI (E i))]) (rest := [.long (lN (1 + (wt_a f w (F i))))]) ⟨hx, hb, hml, hown, hts⟩ (c_X6_argument l dC dI kI kL ma m1 m2 m3 m4 m5 m6 m7 m8 m9 mA mB mC n k d dp f w (E i) (by first | assumption | omega | rfl) (by first | assumption | omega | rfl) (by first | assumption | omega | rfl)) (cwV 1 hts gv_X6_102 rfl rfl rfl hdX6_argument ⟨Nat.le_of_ble_eq_true rfl, Nat.le_of_ble_eq_true rfl⟩) (cx_preV (hP.sub (ws' := [(ma, .inr (6, [.int (nI n), .ref m1, .ref m2, .ref m3, .int (nI k), .ref m4, .ref m5, .int (nI d), .ref m6, .ref m7, .int (nI dp), .ref m8, .ref m9, .ref mA, .ref mB, .ref mC])), (mB, .inl (kI, 40, .inl (cI f))), (mC, .inl (kL, 40, .inr (.inl (cL w))))]) [0, 4, 5] rfl) hK rfl (q0 := 0) rfl) rfl rfl hl.1 rfl (lv_room (Nat.le_of_ble_eq_true rfl)) dX6_sum_67 ⟨Nat.zero_le _, Nat.zero_le _⟩) (fun r hres => ?_)
      subst hres
      refine cx_ladd hx hb dX6_sum_70 ?_
      exact W.lret (v := lN ((1 + (wt_a f w (F i))) + (wt_a f w (E i)))) hx hb hr (fun t ht hW => ⟨_, rfl, congrArg lN (rs_1 (T := (S, F, E)) (by first | exact Or.inl b0 | exact Or.inr b1) (by first | exact Or.inl b2 | exact Or.inr b3)), ht⟩) (fun _ h9 => by cases h9) dX6_sum_71
    refine lv_iconst (v := nI 1) hx hb dX6_sum_42 (by decide) ?_
    refine lv_goto (tgt := 47) hx hb dX6_sum_43 (by decide) ?_
    refine lv_istore hx hb dX6_sum_47 hl (by decide) rfl (fun ls hl => ?_)
    have hl : lv_has ls 5 [(4, .int (nI 1)), (3, .int (aI (E i))), (2, .int (aI (F i))), (0, .ref ma), (1, .int (nI i))] := hl
    refine lv_iload hx hb dX6_sum_49 (lv_at hl 0 rfl) ?_
    refine cx_neq (x := 1) (tgt := 58) hx hb dX6_sum_51 (by decide) (by decide) (fun h9 => absurd h9 (by decide)) (fun _ => ?_)
    refine lv_lconst (v := lN 0) hx hb dX6_sum_54 (by decide) ?_
    refine lv_goto (tgt := 71) hx hb dX6_sum_55 (by decide) ?_
    exact W.lret (v := lN 0) hx hb hr (fun t ht hW => ⟨_, rfl, congrArg lN (rs_0 (T := (S, F, E)) (by first | exact Or.inl ⟨b0, b1⟩ | exact Or.inr ⟨b2, b3⟩)), ht⟩) (fun _ h9 => by cases h9) dX6_sum_71
  refine lv_aload_n hx hb dX6_sum_18 rfl (lv_at hl 2 rfl) ?_
  refine lv_iload_n hx hb dX6_sum_19 rfl (lv_at hl 1 rfl) ?_
  refine cx_sl (va_runV (As := [.int (aI (F i))]) (rest := []) ⟨hx, hb, hml, hown, hts⟩ (c_X6_argument l dC dI kI kL ma m1 m2 m3 m4 m5 m6 m7 m8 m9 mA mB mC n k d dp f w (F i) (by first | assumption | omega | rfl) (by first | assumption | omega | rfl) (by first | assumption | omega | rfl)) (cwV 1 hts gv_X6_102 rfl rfl rfl hdX6_argument ⟨Nat.le_of_ble_eq_true rfl, Nat.le_of_ble_eq_true rfl⟩) (cx_preV (hP.sub (ws' := [(ma, .inr (6, [.int (nI n), .ref m1, .ref m2, .ref m3, .int (nI k), .ref m4, .ref m5, .int (nI d), .ref m6, .ref m7, .int (nI dp), .ref m8, .ref m9, .ref mA, .ref mB, .ref mC])), (mB, .inl (kI, 40, .inl (cI f))), (mC, .inl (kL, 40, .inr (.inl (cL w))))]) [0, 4, 5] rfl) hK rfl (q0 := 0) rfl) rfl rfl hl.1 rfl (lv_room (Nat.le_of_ble_eq_true rfl)) dX6_sum_20 ⟨Nat.zero_le _, Nat.zero_le _⟩) (fun r hres => ?_)
  subst hres
  refine lv_lconst (v := lN 0) hx hb dX6_sum_23 (by decide) ?_
  refine cx_leq (tgt := 42) hx hb dX6_sum_24 dX6_sum_25 (by decide) (by first | omega | exact hB _ (by omega) | exact Nat.lt_of_lt_of_le (hB _ (by omega)) (by omega)) (by first | omega | exact hB _ (by omega) | exact Nat.lt_of_lt_of_le (hB _ (by omega)) (by omega)) (fun b1 => ?_) (fun b1 => ?_)
  · skip
    refine lv_iconst (v := nI 1) hx hb dX6_sum_42 (by decide) ?_
    refine lv_goto (tgt := 47) hx hb dX6_sum_43 (by decide) ?_
    refine lv_istore hx hb dX6_sum_47 hl (by decide) rfl (fun ls hl => ?_)
    have hl : lv_has ls 5 [(4, .int (nI 1)), (3, .int (aI (E i))), (2, .int (aI (F i))), (0, .ref ma), (1, .int (nI i))] := hl
    refine lv_iload hx hb dX6_sum_49 (lv_at hl 0 rfl) ?_
    refine cx_neq (x := 1) (tgt := 58) hx hb dX6_sum_51 (by decide) (by decide) (fun h9 => absurd h9 (by decide)) (fun _ => ?_)
    refine lv_lconst (v := lN 0) hx hb dX6_sum_54 (by decide) ?_
    refine lv_goto (tgt := 71) hx hb dX6_sum_55 (by decide) ?_
    exact W.lret (v := lN 0) hx hb hr (fun t ht hW => ⟨_, rfl, congrArg lN (rs_0 (T := (S, F, E)) (by first | exact Or.inl ⟨b0, b1⟩ | exact Or.inr ⟨b2, b3⟩)), ht⟩) (fun _ h9 => by cases h9) dX6_sum_71
  refine lv_iload_n hx hb dX6_sum_28 rfl (lv_at hl 0 rfl) ?_
  refine cx_alt (x := (E i)) (tgt := 46) hx hb dX6_sum_29 (by decide) (by first | omega | exact hB _ (by omega) | exact Nat.lt_of_lt_of_le (hB _ (by omega)) (by omega)) (fun b2 => ?_) (fun b2 => ?_)
  · skip
    refine lv_iconst (v := nI 0) hx hb dX6_sum_46 (by decide) ?_
    refine lv_istore hx hb dX6_sum_47 hl (by decide) rfl (fun ls hl => ?_)
    have hl : lv_has ls 5 [(4, .int (nI 0)), (3, .int (aI (E i))), (2, .int (aI (F i))), (0, .ref ma), (1, .int (nI i))] := hl
    refine lv_iload hx hb dX6_sum_49 (lv_at hl 0 rfl) ?_
    refine cx_neq (x := 0) (tgt := 58) hx hb dX6_sum_51 (by decide) (by decide) (fun _ => ?_) (fun h9 => absurd h9 (by decide))
    refine lv_lconst (v := lN 1) hx hb dX6_sum_58 (by decide) ?_
    refine lv_aload_n hx hb dX6_sum_59 rfl (lv_at hl 3 rfl) ?_
    refine lv_iload_n hx hb dX6_sum_60 rfl (lv_at hl 2 rfl) ?_
    refine cx_sl (va_runV (As := [.int (aI (F i))]) (rest := [.long (lN 1)]) ⟨hx, hb, hml, hown, hts⟩ (c_X6_argument l dC dI kI kL ma m1 m2 m3 m4 m5 m6 m7 m8 m9 mA mB mC n k d dp f w (F i) (by first | assumption | omega | rfl) (by first | assumption | omega | rfl) (by first | assumption | omega | rfl)) (cwV 1 hts gv_X6_102 rfl rfl rfl hdX6_argument ⟨Nat.le_of_ble_eq_true rfl, Nat.le_of_ble_eq_true rfl⟩) (cx_preV (hP.sub (ws' := [(ma, .inr (6, [.int (nI n), .ref m1, .ref m2, .ref m3, .int (nI k), .ref m4, .ref m5, .int (nI d), .ref m6, .ref m7, .int (nI dp), .ref m8, .ref m9, .ref mA, .ref mB, .ref mC])), (mB, .inl (kI, 40, .inl (cI f))), (mC, .inl (kL, 40, .inr (.inl (cL w))))]) [0, 4, 5] rfl) hK rfl (q0 := 0) rfl) rfl rfl hl.1 rfl (lv_room (Nat.le_of_ble_eq_true rfl)) dX6_sum_61 ⟨Nat.zero_le _, Nat.zero_le _⟩) (fun r hres => ?_)
    subst hres
    refine cx_ladd hx hb dX6_sum_64 ?_
    refine lv_aload_n hx hb dX6_sum_65 rfl (lv_at hl 3 rfl) ?_
    refine lv_iload_n hx hb dX6_sum_66 rfl (lv_at hl 1 rfl) ?_
    refine cx_sl (va_runV (As := [.int (aI (E i))]) (rest := [.long (lN (1 + (wt_a f w (F i))))]) ⟨hx, hb, hml, hown, hts⟩ (c_X6_argument l dC dI kI kL ma m1 m2 m3 m4 m5 m6 m7 m8 m9 mA mB mC n k d dp f w (E i) (by first | assumption | omega | rfl) (by first | assumption | omega | rfl) (by first | assumption | omega | rfl)) (cwV 1 hts gv_X6_102 rfl rfl rfl hdX6_argument ⟨Nat.le_of_ble_eq_true rfl, Nat.le_of_ble_eq_true rfl⟩) (cx_preV (hP.sub (ws' := [(ma, .inr (6, [.int (nI n), .ref m1, .ref m2, .ref m3, .int (nI k), .ref m4, .ref m5, .int (nI d), .ref m6, .ref m7, .int (nI dp), .ref m8, .ref m9, .ref mA, .ref mB, .ref mC])), (mB, .inl (kI, 40, .inl (cI f))), (mC, .inl (kL, 40, .inr (.inl (cL w))))]) [0, 4, 5] rfl) hK rfl (q0 := 0) rfl) rfl rfl hl.1 rfl (lv_room (Nat.le_of_ble_eq_true rfl)) dX6_sum_67 ⟨Nat.zero_le _, Nat.zero_le _⟩) (fun r hres => ?_)
    subst hres
    refine cx_ladd hx hb dX6_sum_70 ?_
    exact W.lret (v := lN ((1 + (wt_a f w (F i))) + (wt_a f w (E i)))) hx hb hr (fun t ht hW => ⟨_, rfl, congrArg lN (rs_1 (T := (S, F, E)) (by first | exact Or.inl b0 | exact Or.inr b1) (by first | exact Or.inl b2 | exact Or.inr b3)), ht⟩) (fun _ h9 => by cases h9) dX6_sum_71
  refine lv_aload_n hx hb dX6_sum_32 rfl (lv_at hl 2 rfl) ?_
  refine lv_iload_n hx hb dX6_sum_33 rfl (lv_at hl 0 rfl) ?_
  refine cx_sl (va_runV (As := [.int (aI (E i))]) (rest := []) ⟨hx, hb, hml, hown, hts⟩ (c_X6_argument l dC dI kI kL ma m1 m2 m3 m4 m5 m6 m7 m8 m9 mA mB mC n k d dp f w (E i) (by first | assumption | omega | rfl) (by first | assumption | omega | rfl) (by first | assumption | omega | rfl)) (cwV 1 hts gv_X6_102 rfl rfl rfl hdX6_argument ⟨Nat.le_of_ble_eq_true rfl, Nat.le_of_ble_eq_true rfl⟩) (cx_preV (hP.sub (ws' := [(ma, .inr (6, [.int (nI n), .ref m1, .ref m2, .ref m3, .int (nI k), .ref m4, .ref m5, .int (nI d), .ref m6, .ref m7, .int (nI dp), .ref m8, .ref m9, .ref mA, .ref mB, .ref mC])), (mB, .inl (kI, 40, .inl (cI f))), (mC, .inl (kL, 40, .inr (.inl (cL w))))]) [0, 4, 5] rfl) hK rfl (q0 := 0) rfl) rfl rfl hl.1 rfl (lv_room (Nat.le_of_ble_eq_true rfl)) dX6_sum_34 ⟨Nat.zero_le _, Nat.zero_le _⟩) (fun r hres => ?_)
  subst hres
  refine lv_lconst (v := lN 0) hx hb dX6_sum_37 (by decide) ?_
  refine cx_lne (tgt := 46) hx hb dX6_sum_38 dX6_sum_39 (by decide) (by first | omega | exact hB _ (by omega) | exact Nat.lt_of_lt_of_le (hB _ (by omega)) (by omega)) (by first | omega | exact hB _ (by omega) | exact Nat.lt_of_lt_of_le (hB _ (by omega)) (by omega)) (fun b3 => ?_) (fun b3 => ?_)
  · skip
    refine lv_iconst (v := nI 0) hx hb dX6_sum_46 (by decide) ?_
    refine lv_istore hx hb dX6_sum_47 hl (by decide) rfl (fun ls hl => ?_)
    have hl : lv_has ls 5 [(4, .int (nI 0)), (3, .int (aI (E i))), (2, .int (aI (F i))), (0, .ref ma), (1, .int (nI i))] := hl
    refine lv_iload hx hb dX6_sum_49 (lv_at hl 0 rfl) ?_
    refine cx_neq (x := 0) (tgt := 58) hx hb dX6_sum_51 (by decide) (by decide) (fun _ => ?_) (fun h9 => absurd h9 (by decide))
    refine lv_lconst (v := lN 1) hx hb dX6_sum_58 (by decide) ?_
    refine lv_aload_n hx hb dX6_sum_59 rfl (lv_at hl 3 rfl) ?_
    refine lv_iload_n hx hb dX6_sum_60 rfl (lv_at hl 2 rfl) ?_
    refine cx_sl (va_runV (As := [.int (aI (F i))]) (rest := [.long (lN 1)]) ⟨hx, hb, hml, hown, hts⟩ (c_X6_argument l dC dI kI kL ma m1 m2 m3 m4 m5 m6 m7 m8 m9 mA mB mC n k d dp f w (F i) (by first | assumption | omega | rfl) (by first | assumption | omega | rfl) (by first | assumption | omega | rfl)) (cwV 1 hts gv_X6_102 rfl rfl rfl hdX6_argument ⟨Nat.le_of_ble_eq_true rfl, Nat.le_of_ble_eq_true rfl⟩) (cx_preV (hP.sub (ws' := [(ma, .inr (6, [.int (nI n), .ref m1, .ref m2, .ref m3, .int (nI k), .ref m4, .ref m5, .int (nI d), .ref m6, .ref m7, .int (nI dp), .ref m8, .ref m9, .ref mA, .ref mB, .ref mC])), (mB, .inl (kI, 40, .inl (cI f))), (mC, .inl (kL, 40, .inr (.inl (cL w))))]) [0, 4, 5] rfl) hK rfl (q0 := 0) rfl) rfl rfl hl.1 rfl (lv_room (Nat.le_of_ble_eq_true rfl)) dX6_sum_61 ⟨Nat.zero_le _, Nat.zero_le _⟩) (fun r hres => ?_)
    subst hres
    refine cx_ladd hx hb dX6_sum_64 ?_
    refine lv_aload_n hx hb dX6_sum_65 rfl (lv_at hl 3 rfl) ?_
    refine lv_iload_n hx hb dX6_sum_66 rfl (lv_at hl 1 rfl) ?_
    refine cx_sl (va_runV (As := [.int (aI (E i))]) (rest := [.long (lN (1 + (wt_a f w (F i))))]) ⟨hx, hb, hml, hown, hts⟩ (c_X6_argument l dC dI kI kL ma m1 m2 m3 m4 m5 m6 m7 m8 m9 mA mB mC n k d dp f w (E i) (by first | assumption | omega | rfl) (by first | assumption | omega | rfl) (by first | assumption | omega | rfl)) (cwV 1 hts gv_X6_102 rfl rfl rfl hdX6_argument ⟨Nat.le_of_ble_eq_true rfl, Nat.le_of_ble_eq_true rfl⟩) (cx_preV (hP.sub (ws' := [(ma, .inr (6, [.int (nI n), .ref m1, .ref m2, .ref m3, .int (nI k), .ref m4, .ref m5, .int (nI d), .ref m6, .ref m7, .int (nI dp), .ref m8, .ref m9, .ref mA, .ref mB, .ref mC])), (mB, .inl (kI, 40, .inl (cI f))), (mC, .inl (kL, 40, .inr (.inl (cL w))))]) [0, 4, 5] rfl) hK rfl (q0 := 0) rfl) rfl rfl hl.1 rfl (lv_room (Nat.le_of_ble_eq_true rfl)) dX6_sum_67 ⟨Nat.zero_le _, Nat.zero_le _⟩) (fun r hres => ?_)
    subst hres
    refine cx_ladd hx hb dX6_sum_70 ?_
    exact W.lret (v := lN ((1 + (wt_a f w (F i))) + (wt_a f w (E i)))) hx hb hr (fun t ht hW => ⟨_, rfl, congrArg lN (rs_1 (T := (S, F, E)) (by first | exact Or.inl b0 | exact Or.inr b1) (by first | exact Or.inl b2 | exact Or.inr b3)), ht⟩) (fun _ h9 => by cases h9) dX6_sum_71
  refine lv_iconst (v := nI 1) hx hb dX6_sum_42 (by decide) ?_
  refine lv_goto (tgt := 47) hx hb dX6_sum_43 (by decide) ?_
  refine lv_istore hx hb dX6_sum_47 hl (by decide) rfl (fun ls hl => ?_)
  have hl : lv_has ls 5 [(4, .int (nI 1)), (3, .int (aI (E i))), (2, .int (aI (F i))), (0, .ref ma), (1, .int (nI i))] := hl
  refine lv_iload hx hb dX6_sum_49 (lv_at hl 0 rfl) ?_
  refine cx_neq (x := 1) (tgt := 58) hx hb dX6_sum_51 (by decide) (by decide) (fun h9 => absurd h9 (by decide)) (fun _ => ?_)
  refine lv_lconst (v := lN 0) hx hb dX6_sum_54 (by decide) ?_
  refine lv_goto (tgt := 71) hx hb dX6_sum_55 (by decide) ?_
  exact W.lret (v := lN 0) hx hb hr (fun t ht hW => ⟨_, rfl, congrArg lN (rs_0 (T := (S, F, E)) (by first | exact Or.inl ⟨b0, b1⟩ | exact Or.inr ⟨b2, b3⟩)), ht⟩) (fun _ h9 => by cases h9) dX6_sum_71

set_option maxHeartbeats 4000000 in
set_option maxRecDepth 100000 in
theorem c_X6_weigh (l : Launch) (dC : Nat → ClassId) (dI : Nat → Nat → Nat) (kI kL : ClassId) (ma : Nat) (m1 : Nat) (m2 : Nat) (m3 : Nat) (m4 : Nat) (m5 : Nat) (m6 : Nat) (m7 : Nat) (m8 : Nat) (m9 : Nat) (mA : Nat) (mB : Nat) (mC : Nat) (n : Nat) (k : Nat) (d : Nat) (dp : Nat) (S : Nat → Int32) (F : Nat → Nat) (E : Nat → Nat) (lf : Nat → Nat) (rt : Nat → Nat) (f : Nat → Nat) (w : Nat → Nat) (qn : n ≤ 40) (qw : cg_wf (S, F, E) n) (qk : k ≤ 24) (qe : cg_we n lf rt k) (sz : Nat) : Met l yX6_weigh (.code yX6_weigh cX6_weigh 7 none :: tbw) { frames := 5, cells := 0, slots := 0, locals := 111 } (va_Pc [.ref ma] (cx_M (dC, dI) vwCl [(ma, .inr (6, [.int (nI n), .ref m1, .ref m2, .ref m3, .int (nI k), .ref m4, .ref m5, .int (nI d), .ref m6, .ref m7, .int (nI dp), .ref m8, .ref m9, .ref mA, .ref mB, .ref mC])), (m1, .inl (kI, 40, .inl S)), (m2, .inl (kI, 40, .inl (cA F))), (m3, .inl (kI, 40, .inl (cA E))), (m4, .inl (kI, 24, .inl (cI lf))), (m5, .inl (kI, 24, .inl (cI rt))), (mB, .inl (kI, 40, .inl (cI f))), (mC, .inl (kL, 40, .inr (.inl (cL w))))] [(kI, .int), (kL, .long)] sz)) (va_Qv (fun (u : (Nat → Nat) × (Nat → Nat)) => (∀ z, z < n → u.1 z = cg_LA S F E n lf rt k z) ∧ ∀ j, j < n → u.2 j = wz (wt_f (S, F, E) u.1 n j)) (cx_B (dC, dI) vwCl (va_A [(ma, .inr (6, [.int (nI n), .ref m1, .ref m2, .ref m3, .int (nI k), .ref m4, .ref m5, .int (nI d), .ref m6, .ref m7, .int (nI dp), .ref m8, .ref m9, .ref mA, .ref mB, .ref mC])), (m1, .inl (kI, 40, .inl S)), (m2, .inl (kI, 40, .inl (cA F))), (m3, .inl (kI, 40, .inl (cA E))), (m4, .inl (kI, 24, .inl (cI lf))), (m5, .inl (kI, 24, .inl (cI rt))), (mB, .inl (kI, 40, .inl (cI f))), (mC, .inl (kL, 40, .inr (.inl (cL w))))] sz) (fun u : (Nat → Nat) × (Nat → Nat) => [(ma, .inr (6, [.int (nI n), .ref m1, .ref m2, .ref m3, .int (nI k), .ref m4, .ref m5, .int (nI d), .ref m6, .ref m7, .int (nI dp), .ref m8, .ref m9, .ref mA, .ref mB, .ref mC])), (m1, .inl (kI, 40, .inl S)), (m2, .inl (kI, 40, .inl (cA F))), (m3, .inl (kI, 40, .inl (cA E))), (m4, .inl (kI, 24, .inl (cI lf))), (m5, .inl (kI, 24, .inl (cI rt))), (mB, .inl (kI, 40, .inl (cI u.1))), (mC, .inl (kL, 40, .inr (.inl (cL u.2))))])) (va_A [(ma, .inr (6, [.int (nI n), .ref m1, .ref m2, .ref m3, .int (nI k), .ref m4, .ref m5, .int (nI d), .ref m6, .ref m7, .int (nI dp), .ref m8, .ref m9, .ref mA, .ref mB, .ref mC])), (m1, .inl (kI, 40, .inl S)), (m2, .inl (kI, 40, .inl (cA F))), (m3, .inl (kI, 40, .inl (cA E))), (m4, .inl (kI, 24, .inl (cI lf))), (m5, .inl (kI, 24, .inl (cI rt))), (mB, .inl (kI, 40, .inl (cI f))), (mC, .inl (kL, 40, .inr (.inl (cL w))))] sz)) 0 0 (va_A [(ma, .inr (6, [.int (nI n), .ref m1, .ref m2, .ref m3, .int (nI k), .ref m4, .ref m5, .int (nI d), .ref m6, .ref m7, .int (nI dp), .ref m8, .ref m9, .ref mA, .ref mB, .ref mC])), (m1, .inl (kI, 40, .inl S)), (m2, .inl (kI, 40, .inl (cA F))), (m3, .inl (kI, 40, .inl (cA E))), (m4, .inl (kI, 24, .inl (cI lf))), (m5, .inl (kI, 24, .inl (cI rt))), (mB, .inl (kI, 40, .inl (cI f))), (mC, .inl (kL, 40, .inr (.inl (cL w))))] sz) := by
  refine Met.ofW (cc := cX6_weigh) (maxL := 7) (ret := none) (by decide) rfl ?_
  intro p e s m args below meth c s₁ B hml hv
  obtain ⟨rfl, hsz, hP, hK, hD0⟩ := hv
  have hx := B.exec
  have hb := B.bytes
  have hr := B.returns
  have hts := atoms_spec (ws := .code yX6_weigh cX6_weigh 7 none :: tbw) B.pre
  have hw : ∀ w ∈ tbw, w.before _ s = true := fun w h => hts w (List.mem_cons_of_mem _ h)
  have hown : s.vm.findClass RX6 = some m.cls := findClass_of_methodNamed B.named
  subst hsz
  have hD := hD0.self (sz := s.heap.size)
  generalize hAe : va_A [(ma, .inr (6, [.int (nI n), .ref m1, .ref m2, .ref m3, .int (nI k), .ref m4, .ref m5, .int (nI d), .ref m6, .ref m7, .int (nI dp), .ref m8, .ref m9, .ref mA, .ref mB, .ref mC])), (m1, .inl (kI, 40, .inl S)), (m2, .inl (kI, 40, .inl (cA F))), (m3, .inl (kI, 40, .inl (cA E))), (m4, .inl (kI, 24, .inl (cI lf))), (m5, .inl (kI, 24, .inl (cI rt))), (mB, .inl (kI, 40, .inl (cI f))), (mC, .inl (kL, 40, .inr (.inl (cL w))))] s.heap.size = AA at hD ⊢
  have hA : ∀ q : Nat, s.heap.size ≤ q → AA q := fun q h => by rw [← hAe]; exact Or.inr h
  have hS : va_S AA s.heap s.heap [] := va_S.rf
  have hP : va_P (dC, dI) vwCl [(ma, .inr (6, [.int (nI n), .ref m1, .ref m2, .ref m3, .int (nI k), .ref m4, .ref m5, .int (nI d), .ref m6, .ref m7, .int (nI dp), .ref m8, .ref m9, .ref mA, .ref mB, .ref mC])), (m1, .inl (kI, 40, .inl S)), (m2, .inl (kI, 40, .inl (cA F))), (m3, .inl (kI, 40, .inl (cA E))), (m4, .inl (kI, 24, .inl (cI lf))), (m5, .inl (kI, 24, .inl (cI rt))), (mB, .inl (kI, 40, .inl (cI f))), (mC, .inl (kL, 40, .inr (.inl (cL w))))] s.heap := hP
  have hl := lv_entry ([.ref ma]) (n := 7) (Nat.le_of_ble_eq_true rfl)
  rw [lg_entry_eq]
  generalize (lg_sl ([.ref ma]) ++ List.replicate (7 - (lg_sl ([.ref ma])).length) Slot.unset).toArray = ls at hl ⊢
  have hl : lv_has ls 7 [(0, .ref ma)] := hl
  refine lv_aload_n hx hb dX6_weigh_0 rfl (lv_at hl 0 rfl) ?_
  refine cx_mv (wc := [(ma, .inr (6, [.int (nI n), .ref m1, .ref m2, .ref m3, .int (nI k), .ref m4, .ref m5, .int (nI d), .ref m6, .ref m7, .int (nI dp), .ref m8, .ref m9, .ref mA, .ref mB, .ref mC])), (m1, .inl (kI, 40, .inl S)), (m2, .inl (kI, 40, .inl (cA F))), (m3, .inl (kI, 40, .inl (cA E))), (m4, .inl (kI, 24, .inl (cI lf))), (m5, .inl (kI, 24, .inl (cI rt))), (mB, .inl (kI, 40, .inl (cI f)))]) (wr := [(mC, .inl (kL, 40, .inr (.inl (cL w))))]) hP hD hS hA [0, 1, 2, 3, 4, 5, 6] [7] rfl rfl (by decide) (by decide) (va_runV (As := []) (rest := []) ⟨hx, hb, hml, hown, hts⟩ (c_X6_workAll l dC dI kI kL ma m1 m2 m3 m4 m5 m6 m7 m8 m9 mA mB mC n k d dp S F E lf rt f (by first | assumption | omega | rfl) (by first | assumption | omega | rfl) (by first | assumption | omega | rfl) (by first | assumption | omega | rfl) _) (cwV 0 hts gv_X6_85 rfl rfl rfl hdX6_workAll ⟨Nat.le_of_ble_eq_true rfl, Nat.le_of_ble_eq_true rfl⟩) (cx_mreV (hP.sub (ws' := [(ma, .inr (6, [.int (nI n), .ref m1, .ref m2, .ref m3, .int (nI k), .ref m4, .ref m5, .int (nI d), .ref m6, .ref m7, .int (nI dp), .ref m8, .ref m9, .ref mA, .ref mB, .ref mC])), (m1, .inl (kI, 40, .inl S)), (m2, .inl (kI, 40, .inl (cA F))), (m3, .inl (kI, 40, .inl (cA E))), (m4, .inl (kI, 24, .inl (cI lf))), (m5, .inl (kI, 24, .inl (cI rt))), (mB, .inl (kI, 40, .inl (cI f)))]) [0, 1, 2, 3, 4, 5, 6] rfl) hK (hD.sub (ws' := [(ma, .inr (6, [.int (nI n), .ref m1, .ref m2, .ref m3, .int (nI k), .ref m4, .ref m5, .int (nI d), .ref m6, .ref m7, .int (nI dp), .ref m8, .ref m9, .ref mA, .ref mB, .ref mC])), (m1, .inl (kI, 40, .inl S)), (m2, .inl (kI, 40, .inl (cA F))), (m3, .inl (kI, 40, .inl (cA E))), (m4, .inl (kI, 24, .inl (cI lf))), (m5, .inl (kI, 24, .inl (cI rt))), (mB, .inl (kI, 40, .inl (cI f)))]) [0, 1, 2, 3, 4, 5, 6] (by decide) rfl) rfl (q0 := 0) rfl) rfl rfl hl.1 rfl (lv_room (Nat.le_of_ble_eq_true rfl)) dX6_weigh_1 ⟨Nat.zero_le _, Nat.zero_le _⟩) (fun g9 H locs hres hP hD hS => ?_)
  have hg9 := hres
  have hP : va_P (dC, dI) vwCl [(ma, .inr (6, [.int (nI n), .ref m1, .ref m2, .ref m3, .int (nI k), .ref m4, .ref m5, .int (nI d), .ref m6, .ref m7, .int (nI dp), .ref m8, .ref m9, .ref mA, .ref mB, .ref mC])), (m1, .inl (kI, 40, .inl S)), (m2, .inl (kI, 40, .inl (cA F))), (m3, .inl (kI, 40, .inl (cA E))), (m4, .inl (kI, 24, .inl (cI lf))), (m5, .inl (kI, 24, .inl (cI rt))), (mB, .inl (kI, 40, .inl (cI g9))), (mC, .inl (kL, 40, .inr (.inl (cL w))))] H := hP.sub (ws' := [(ma, .inr (6, [.int (nI n), .ref m1, .ref m2, .ref m3, .int (nI k), .ref m4, .ref m5, .int (nI d), .ref m6, .ref m7, .int (nI dp), .ref m8, .ref m9, .ref mA, .ref mB, .ref mC])), (m1, .inl (kI, 40, .inl S)), (m2, .inl (kI, 40, .inl (cA F))), (m3, .inl (kI, 40, .inl (cA E))), (m4, .inl (kI, 24, .inl (cI lf))), (m5, .inl (kI, 24, .inl (cI rt))), (mB, .inl (kI, 40, .inl (cI g9))), (mC, .inl (kL, 40, .inr (.inl (cL w))))]) [1, 2, 3, 4, 5, 6, 7, 0] rfl
  have hD : va_D AA [(ma, .inr (6, [.int (nI n), .ref m1, .ref m2, .ref m3, .int (nI k), .ref m4, .ref m5, .int (nI d), .ref m6, .ref m7, .int (nI dp), .ref m8, .ref m9, .ref mA, .ref mB, .ref mC])), (m1, .inl (kI, 40, .inl S)), (m2, .inl (kI, 40, .inl (cA F))), (m3, .inl (kI, 40, .inl (cA E))), (m4, .inl (kI, 24, .inl (cI lf))), (m5, .inl (kI, 24, .inl (cI rt))), (mB, .inl (kI, 40, .inl (cI g9))), (mC, .inl (kL, 40, .inr (.inl (cL w))))] := hD.sub (ws' := [(ma, .inr (6, [.int (nI n), .ref m1, .ref m2, .ref m3, .int (nI k), .ref m4, .ref m5, .int (nI d), .ref m6, .ref m7, .int (nI dp), .ref m8, .ref m9, .ref mA, .ref mB, .ref mC])), (m1, .inl (kI, 40, .inl S)), (m2, .inl (kI, 40, .inl (cA F))), (m3, .inl (kI, 40, .inl (cA E))), (m4, .inl (kI, 24, .inl (cI lf))), (m5, .inl (kI, 24, .inl (cI rt))), (mB, .inl (kI, 40, .inl (cI g9))), (mC, .inl (kL, 40, .inr (.inl (cL w))))]) [1, 2, 3, 4, 5, 6, 7, 0] (by decide) rfl
  have hB := cg_ok_B (cg_ok_ag hg9 (cg_lab_ok qe))
  refine lv_iconst (v := nI 0) hx hb dX6_weigh_4 (by decide) ?_
  refine lv_istore_n hx hb dX6_weigh_5 rfl hl (by decide) rfl (fun ls hl => ?_)
  have hl : lv_has ls 7 [(1, .int (nI 0)), (0, .ref ma)] := hl
  refine cx_loop2 (fun (v : Nat) (h0 : Nat → Nat) (H : Heap) (locs : List Loc) (ls : Array Slot) => lv_has ls 7 [(1, .int (nI v)), (0, .ref ma)] ∧ va_P (dC, dI) vwCl [(ma, .inr (6, [.int (nI n), .ref m1, .ref m2, .ref m3, .int (nI k), .ref m4, .ref m5, .int (nI d), .ref m6, .ref m7, .int (nI dp), .ref m8, .ref m9, .ref mA, .ref mB, .ref mC])), (m1, .inl (kI, 40, .inl S)), (m2, .inl (kI, 40, .inl (cA F))), (m3, .inl (kI, 40, .inl (cA E))), (m4, .inl (kI, 24, .inl (cI lf))), (m5, .inl (kI, 24, .inl (cI rt))), (mB, .inl (kI, 40, .inl (cI g9))), (mC, .inl (kL, 40, .inr (.inl (cL h0))))] H ∧ va_D AA [(ma, .inr (6, [.int (nI n), .ref m1, .ref m2, .ref m3, .int (nI k), .ref m4, .ref m5, .int (nI d), .ref m6, .ref m7, .int (nI dp), .ref m8, .ref m9, .ref mA, .ref mB, .ref mC])), (m1, .inl (kI, 40, .inl S)), (m2, .inl (kI, 40, .inl (cA F))), (m3, .inl (kI, 40, .inl (cA E))), (m4, .inl (kI, 24, .inl (cI lf))), (m5, .inl (kI, 24, .inl (cI rt))), (mB, .inl (kI, 40, .inl (cI g9))), (mC, .inl (kL, 40, .inr (.inl (cL h0))))] ∧ va_S AA s.heap H locs ∧ (v ≤ n) ∧ (∀ u, u < v → h0 u = 0)) (fun v h0 => n - v) (fun v h0 H locs ls hI ih1 => ?_) 0 w ⟨lv_sub hl [0, 1] rfl, hP, hD, hS, (by first | assumption | omega | rfl), (fun u h => absurd h (Nat.not_lt_zero u))⟩
  obtain ⟨hl, hP, hD, hS, hv1, hh⟩ := hI
  refine lv_iload_n hx hb dX6_weigh_6 rfl (lv_at hl 0 rfl) ?_
  refine lv_aload_n hx hb dX6_weigh_7 rfl (lv_at hl 1 rfl) ?_
  refine va_get (D := (dC, dI)) (ci := 6) (v := .int (nI n)) (C := RX6) (T := TX6) (N := 16) hx hb hts (tb_c tbX6) hown hK hP 0 rfl rfl 0 (by decide) (hw _ tw_341) (fun _ h9 => h9) rfl dX6_weigh_8 ?_
  refine cx_ge (x := v) (y := n) (tgt := 27) hx hb dX6_weigh_11 (by decide) (by first | omega | exact hB _ (by omega) | exact Nat.lt_of_lt_of_le (hB _ (by omega)) (by omega)) (by first | omega | exact hB _ (by omega) | exact Nat.lt_of_lt_of_le (hB _ (by omega)) (by omega)) (fun b0 => ?_) (fun b0 => ?_)
  · skip
    refine lv_iconst (v := nI 1) hx hb dX6_weigh_27 (by decide) ?_
    refine lv_istore_n hx hb dX6_weigh_28 rfl hl (by decide) rfl (fun ls hl => ?_)
    have hl : lv_has ls 7 [(1, .int (nI 1)), (0, .ref ma)] := hl
    refine lv_iconst (v := nI 0) hx hb dX6_weigh_29 (by decide) ?_
    refine lv_istore_n hx hb dX6_weigh_30 rfl hl (by decide) rfl (fun ls hl => ?_)
    have hl : lv_has ls 7 [(2, .int (nI 0)), (1, .int (nI 1)), (0, .ref ma)] := hl
    refine cx_loop3 (fun (ch : Bool) (r9 : Nat) (h1 : Nat → Nat) (H : Heap) (locs : List Loc) (ls : Array Slot) => lv_has ls 7 [(1, .int (bI ch)), (2, .int (nI r9)), (0, .ref ma)] ∧ va_P (dC, dI) vwCl [(ma, .inr (6, [.int (nI n), .ref m1, .ref m2, .ref m3, .int (nI k), .ref m4, .ref m5, .int (nI d), .ref m6, .ref m7, .int (nI dp), .ref m8, .ref m9, .ref mA, .ref mB, .ref mC])), (m1, .inl (kI, 40, .inl S)), (m2, .inl (kI, 40, .inl (cA F))), (m3, .inl (kI, 40, .inl (cA E))), (m4, .inl (kI, 24, .inl (cI lf))), (m5, .inl (kI, 24, .inl (cI rt))), (mB, .inl (kI, 40, .inl (cI g9))), (mC, .inl (kL, 40, .inr (.inl (cL h1))))] H ∧ va_D AA [(ma, .inr (6, [.int (nI n), .ref m1, .ref m2, .ref m3, .int (nI k), .ref m4, .ref m5, .int (nI d), .ref m6, .ref m7, .int (nI dp), .ref m8, .ref m9, .ref mA, .ref mB, .ref mC])), (m1, .inl (kI, 40, .inl S)), (m2, .inl (kI, 40, .inl (cA F))), (m3, .inl (kI, 40, .inl (cA E))), (m4, .inl (kI, 24, .inl (cI lf))), (m5, .inl (kI, 24, .inl (cI rt))), (mB, .inl (kI, 40, .inl (cI g9))), (mC, .inl (kL, 40, .inr (.inl (cL h1))))] ∧ va_S AA s.heap H locs ∧ (r9 ≤ 100) ∧ (∀ j, j < n → h1 j = wz (wt_i (S, F, E) g9 n r9 j)) ∧ (ch = true ∨ wt_x (S, F, E) g9 n (wt_i (S, F, E) g9 n r9))) (fun ch r9 h1 => 100 - r9) (fun ch r9 h1 H locs ls hI ih2 => ?_) true 0 h0 ⟨lv_sub hl [1, 0, 2] rfl, hP, hD, hS, (by first | assumption | omega | rfl), (fun j hj => (hh j (by omega)).trans wz_60.symm), (Or.inl rfl)⟩
    obtain ⟨hl, hP, hD, hS, hr9, hR, hch⟩ := hI
    refine lv_iload_n hx hb dX6_weigh_31 rfl (lv_at hl 1 rfl) ?_
    refine lv_bipush (v := nI 100) hx hb dX6_weigh_32 (by decide) ?_
    refine cx_ge (x := r9) (y := 100) (tgt := 123) hx hb dX6_weigh_34 (by decide) (by first | omega | exact hB _ (by omega) | exact Nat.lt_of_lt_of_le (hB _ (by omega)) (by omega)) (by first | omega | exact hB _ (by omega) | exact Nat.lt_of_lt_of_le (hB _ (by omega)) (by omega)) (fun b1 => ?_) (fun b1 => ?_)
    · skip
      exact W.vret hx hb hr (fun t ht hW => ⟨⟨(g9, h1), rfl, ⟨hg9, by have e7 := wt_ie qw hB qn rfl hch (by first | exact Or.inl (by omega) | exact Or.inr b2); rw [e7] at hR; exact hR⟩, by rw [ht]; exact hP, hD⟩, hS.F ht⟩) hS.2.2 dX6_weigh_123
    refine lv_iload_n hx hb dX6_weigh_37 rfl (lv_at hl 0 rfl) ?_
    refine cx_if0 (tgt := 123) hx hb dX6_weigh_38 (by decide) (fun b2 => ?_) (fun b2 => ?_)
    · skip
      exact W.vret hx hb hr (fun t ht hW => ⟨⟨(g9, h1), rfl, ⟨hg9, by have e7 := wt_ie qw hB qn rfl hch (by first | exact Or.inl (by omega) | exact Or.inr b2); rw [e7] at hR; exact hR⟩, by rw [ht]; exact hP, hD⟩, hS.F ht⟩) hS.2.2 dX6_weigh_123
    refine lv_iconst (v := nI 0) hx hb dX6_weigh_41 (by decide) ?_
    refine lv_istore_n hx hb dX6_weigh_42 rfl hl (by decide) rfl (fun ls hl => ?_)
    have hl : lv_has ls 7 [(1, .int (nI 0)), (2, .int (nI r9)), (0, .ref ma)] := hl
    refine lv_iconst (v := nI 0) hx hb dX6_weigh_43 (by decide) ?_
    refine lv_istore_n hx hb dX6_weigh_44 rfl hl (by decide) rfl (fun ls hl => ?_)
    have hl : lv_has ls 7 [(3, .int (nI 0)), (1, .int (nI 0)), (2, .int (nI r9)), (0, .ref ma)] := hl
    refine cx_loop3 (fun (ch1 : Bool) (v : Nat) (h2 : Nat → Nat) (H : Heap) (locs : List Loc) (ls : Array Slot) => lv_has ls 7 [(1, .int (bI ch1)), (3, .int (nI v)), (0, .ref ma), (2, .int (nI r9))] ∧ va_P (dC, dI) vwCl [(ma, .inr (6, [.int (nI n), .ref m1, .ref m2, .ref m3, .int (nI k), .ref m4, .ref m5, .int (nI d), .ref m6, .ref m7, .int (nI dp), .ref m8, .ref m9, .ref mA, .ref mB, .ref mC])), (m1, .inl (kI, 40, .inl S)), (m2, .inl (kI, 40, .inl (cA F))), (m3, .inl (kI, 40, .inl (cA E))), (m4, .inl (kI, 24, .inl (cI lf))), (m5, .inl (kI, 24, .inl (cI rt))), (mB, .inl (kI, 40, .inl (cI g9))), (mC, .inl (kL, 40, .inr (.inl (cL h2))))] H ∧ va_D AA [(ma, .inr (6, [.int (nI n), .ref m1, .ref m2, .ref m3, .int (nI k), .ref m4, .ref m5, .int (nI d), .ref m6, .ref m7, .int (nI dp), .ref m8, .ref m9, .ref mA, .ref mB, .ref mC])), (m1, .inl (kI, 40, .inl S)), (m2, .inl (kI, 40, .inl (cA F))), (m3, .inl (kI, 40, .inl (cA E))), (m4, .inl (kI, 24, .inl (cI lf))), (m5, .inl (kI, 24, .inl (cI rt))), (mB, .inl (kI, 40, .inl (cI g9))), (mC, .inl (kL, 40, .inr (.inl (cL h2))))] ∧ va_S AA s.heap H locs ∧ (v ≤ n) ∧ (∀ j, j < n → h2 j = wz ((wt_o (S, F, E) g9 (wt_i (S, F, E) g9 n r9, false) v).1 j)) ∧ (ch1 = (wt_o (S, F, E) g9 (wt_i (S, F, E) g9 n r9, false) v).2)) (fun ch1 v h2 => n - v) (fun ch1 v h2 H locs ls hI ih3 => ?_) false 0 h1 ⟨lv_sub hl [1, 0, 3, 2] rfl, hP, hD, hS, (by first | assumption | omega | rfl), (hR), (rfl)⟩
    obtain ⟨hl, hP, hD, hS, hv1, hR2, hc2⟩ := hI
    have hb2 := (wt_o_B (T := (S, F, E)) (L := g9) (p := (wt_i (S, F, E) g9 n r9, false)) qw qn (wt_i_B qw qn r9) v hv1).2
    have hH2 : ∀ j, j < n → h2 j < 2 ^ 62 := fun j hj => by rw [hR2 j hj]; exact wz_lt (wt_o_u2 (p := (wt_i (S, F, E) g9 n r9, false)) (wt_i_u r9) v j)
    refine lv_iload_n hx hb dX6_weigh_45 rfl (lv_at hl 1 rfl) ?_
    refine lv_aload_n hx hb dX6_weigh_46 rfl (lv_at hl 2 rfl) ?_
    refine va_get (D := (dC, dI)) (ci := 6) (v := .int (nI n)) (C := RX6) (T := TX6) (N := 16) hx hb hts (tb_c tbX6) hown hK hP 0 rfl rfl 0 (by decide) (hw _ tw_341) (fun _ h9 => h9) rfl dX6_weigh_47 ?_
    refine cx_ge (x := v) (y := n) (tgt := 117) hx hb dX6_weigh_50 (by decide) (by first | omega | exact hB _ (by omega) | exact Nat.lt_of_lt_of_le (hB _ (by omega)) (by omega)) (by first | omega | exact hB _ (by omega) | exact Nat.lt_of_lt_of_le (hB _ (by omega)) (by omega)) (fun b3 => ?_) (fun b3 => ?_)
    · skip
      refine lv_iinc (k := 3) (v := nI (r9 + 1)) hx hb dX6_weigh_117 hl rfl cx_inc1 (by decide) rfl (fun ls hl => ?_)
      have hl : lv_has ls 7 [(2, .int (nI (r9 + 1))), (1, .int (bI ch1)), (3, .int (nI v)), (0, .ref ma)] := hl
      refine lv_goto (tgt := 31) hx hb dX6_weigh_120 (by decide) ?_
      exact ih2 ch1 (r9 + 1) h2 _ _ _ ⟨lv_sub hl [1, 0, 3] rfl, hP, hD, hS, (by first | assumption | omega | rfl), (by rw [Nat.le_antisymm hv1 b3] at hR2; exact hR2), (by rw [Nat.le_antisymm hv1 b3] at hc2; rw [hc2]; exact wt_ic hB rfl)⟩ (by show 100 - (r9 + 1) < 100 - r9; omega)
    have e5 := rs_lt (T := (S, F, E)) (L := g9) hB hH2 qw b3
    have e6 := hH2 _ (hB v b3)
    refine lv_aload_n hx hb dX6_weigh_53 rfl (lv_at hl 2 rfl) ?_
    refine lv_iload_n hx hb dX6_weigh_54 rfl (lv_at hl 1 rfl) ?_
    refine cx_sl (va_runV (As := [.int (nI v)]) (rest := []) ⟨hx, hb, hml, hown, hts⟩ (c_X6_sum l dC dI kI kL ma m1 m2 m3 m4 m5 m6 m7 m8 m9 mA mB mC n k d dp S F E g9 h2 v (by first | assumption | omega | rfl) (by first | assumption | omega | rfl) (by first | assumption | omega | rfl) (by first | assumption | omega | rfl) (by first | assumption | omega | rfl)) (cwV 1 hts gv_X6_106 rfl rfl rfl hdX6_sum ⟨Nat.le_of_ble_eq_true rfl, Nat.le_of_ble_eq_true rfl⟩) (cx_preV (hP.sub (ws' := [(ma, .inr (6, [.int (nI n), .ref m1, .ref m2, .ref m3, .int (nI k), .ref m4, .ref m5, .int (nI d), .ref m6, .ref m7, .int (nI dp), .ref m8, .ref m9, .ref mA, .ref mB, .ref mC])), (m1, .inl (kI, 40, .inl S)), (m2, .inl (kI, 40, .inl (cA F))), (m3, .inl (kI, 40, .inl (cA E))), (mB, .inl (kI, 40, .inl (cI g9))), (mC, .inl (kL, 40, .inr (.inl (cL h2))))]) [0, 1, 2, 3, 6, 7] rfl) hK rfl (q0 := 0) rfl) rfl rfl hl.1 rfl (lv_room (Nat.le_of_ble_eq_true rfl)) dX6_weigh_55 ⟨Nat.zero_le _, Nat.zero_le _⟩) (fun r hres => ?_)
    subst hres
    refine lv_lstore hx hb dX6_weigh_58 hl (by decide) rfl (fun ls hl => ?_)
    have hl : lv_has ls 7 [(4, .long (lN (rs (S, F, E) g9 h2 v))), (1, .int (bI ch1)), (3, .int (nI v)), (0, .ref ma), (2, .int (nI r9))] := hl
    refine lv_aload_n hx hb dX6_weigh_60 rfl (lv_at hl 3 rfl) ?_
    refine va_get (D := (dC, dI)) (ci := 6) (v := .ref mB) (C := RX6) (T := TX6) (N := 16) hx hb hts (tb_c tbX6) hown hK hP 0 rfl rfl 14 (by decide) (hw _ tw_355) (fun _ h9 => h9) rfl dX6_weigh_61 ?_
    refine lv_iload_n hx hb dX6_weigh_64 rfl (lv_at hl 2 rfl) ?_
    refine cx_iald hx hb hK hP 6 0 rfl rfl (by first | decide | omega) (v := nI (g9 v)) (i := v) rfl (by first | omega | exact hB _ (by omega) | exact Nat.lt_of_lt_of_le (hB _ (by omega)) (by omega)) dX6_weigh_65 ?_
    refine lv_istore hx hb dX6_weigh_66 hl (by decide) rfl (fun ls hl => ?_)
    have hl : lv_has ls 7 [(6, .int (nI (g9 v))), (4, .long (lN (rs (S, F, E) g9 h2 v))), (1, .int (bI ch1)), (3, .int (nI v)), (0, .ref ma), (2, .int (nI r9))] := hl
    refine lv_lload hx hb dX6_weigh_68 (lv_at hl 1 rfl) ?_
    refine lv_lconst (v := lN 0) hx hb dX6_weigh_70 (by decide) ?_
    refine cx_lle (tgt := 111) hx hb dX6_weigh_71 dX6_weigh_72 (by decide) (by first | omega | exact hB _ (by omega) | exact Nat.lt_of_lt_of_le (hB _ (by omega)) (by omega)) (by first | omega | exact hB _ (by omega) | exact Nat.lt_of_lt_of_le (hB _ (by omega)) (by omega)) (fun b4 => ?_) (fun b4 => ?_)
    · skip
      refine lv_iinc (k := 3) (v := nI (v + 1)) hx hb dX6_weigh_111 hl rfl cx_inc1 (by decide) rfl (fun ls hl => ?_)
      have hl : lv_has ls 7 [(3, .int (nI (v + 1))), (6, .int (nI (g9 v))), (4, .long (lN (rs (S, F, E) g9 h2 v))), (1, .int (bI ch1)), (0, .ref ma), (2, .int (nI r9))] := hl
      refine lv_goto (tgt := 45) hx hb dX6_weigh_114 (by decide) ?_
      exact ih3 ch1 (v + 1) h2 _ _ _ ⟨lv_sub hl [3, 0, 4, 5] rfl, hP, hD, hS, (by first | assumption | omega | rfl), (by first | exact (rs_y qw b3 hB hR2 hb2 b4 (by first | exact Or.inl b5 | exact Or.inr b6)).1 | exact (rs_n qw b3 hB hR2 hc2 hb2 (by first | exact Or.inl b4 | exact Or.inr ⟨b5, b6⟩)).1), (by first | exact (rs_y qw b3 hB hR2 hb2 b4 (by first | exact Or.inl b5 | exact Or.inr b6)).2 | exact (rs_n qw b3 hB hR2 hc2 hb2 (by first | exact Or.inl b4 | exact Or.inr ⟨b5, b6⟩)).2)⟩ (by show n - (v + 1) < n - v; omega)
    refine lv_aload_n hx hb dX6_weigh_75 rfl (lv_at hl 4 rfl) ?_
    refine va_get (D := (dC, dI)) (ci := 6) (v := .ref mC) (C := RX6) (T := TX6) (N := 16) hx hb hts (tb_c tbX6) hown hK hP 0 rfl rfl 15 (by decide) (hw _ tw_356) (fun _ h9 => h9) rfl dX6_weigh_76 ?_
    refine lv_iload hx hb dX6_weigh_79 (lv_at hl 0 rfl) ?_
    refine cx_lald hx hb hK hP 7 1 rfl rfl (by first | decide | omega) (v := lN (h2 (g9 v))) (i := (g9 v)) rfl (by first | omega | exact hB _ (by omega) | exact Nat.lt_of_lt_of_le (hB _ (by omega)) (by omega)) dX6_weigh_81 ?_
    refine lv_lconst (v := lN 0) hx hb dX6_weigh_82 (by decide) ?_
    refine cx_leq (tgt := 100) hx hb dX6_weigh_83 dX6_weigh_84 (by decide) (by first | omega | exact hB _ (by omega) | exact Nat.lt_of_lt_of_le (hB _ (by omega)) (by omega)) (by first | omega | exact hB _ (by omega) | exact Nat.lt_of_lt_of_le (hB _ (by omega)) (by omega)) (fun b5 => ?_) (fun b5 => ?_)
    · skip
      refine lv_aload_n hx hb dX6_weigh_100 rfl (lv_at hl 4 rfl) ?_
      refine va_get (D := (dC, dI)) (ci := 6) (v := .ref mC) (C := RX6) (T := TX6) (N := 16) hx hb hts (tb_c tbX6) hown hK hP 0 rfl rfl 15 (by decide) (hw _ tw_356) (fun _ h9 => h9) rfl dX6_weigh_101 ?_
      refine lv_iload hx hb dX6_weigh_104 (lv_at hl 0 rfl) ?_
      refine lv_lload hx hb dX6_weigh_106 (lv_at hl 1 rfl) ?_
      refine cx_last hx hb hK hP hD hS 7 1 rfl rfl (by first | decide | omega) (i := (g9 v)) (cL_u) (by first | omega | exact hB _ (by omega) | exact Nat.lt_of_lt_of_le (hB _ (by omega)) (by omega)) dX6_weigh_108 (fun H locs hP hD hS => ?_)
      have hP : va_P (dC, dI) vwCl [(ma, .inr (6, [.int (nI n), .ref m1, .ref m2, .ref m3, .int (nI k), .ref m4, .ref m5, .int (nI d), .ref m6, .ref m7, .int (nI dp), .ref m8, .ref m9, .ref mA, .ref mB, .ref mC])), (m1, .inl (kI, 40, .inl S)), (m2, .inl (kI, 40, .inl (cA F))), (m3, .inl (kI, 40, .inl (cA E))), (m4, .inl (kI, 24, .inl (cI lf))), (m5, .inl (kI, 24, .inl (cI rt))), (mB, .inl (kI, 40, .inl (cI g9))), (mC, .inl (kL, 40, .inr (.inl (cL (wt_u h2 (g9 v) (rs (S, F, E) g9 h2 v))))))] H := hP
      have hD : va_D AA [(ma, .inr (6, [.int (nI n), .ref m1, .ref m2, .ref m3, .int (nI k), .ref m4, .ref m5, .int (nI d), .ref m6, .ref m7, .int (nI dp), .ref m8, .ref m9, .ref mA, .ref mB, .ref mC])), (m1, .inl (kI, 40, .inl S)), (m2, .inl (kI, 40, .inl (cA F))), (m3, .inl (kI, 40, .inl (cA E))), (m4, .inl (kI, 24, .inl (cI lf))), (m5, .inl (kI, 24, .inl (cI rt))), (mB, .inl (kI, 40, .inl (cI g9))), (mC, .inl (kL, 40, .inr (.inl (cL (wt_u h2 (g9 v) (rs (S, F, E) g9 h2 v))))))] := hD
      refine lv_iconst (v := nI 1) hx hb dX6_weigh_109 (by decide) ?_
      refine lv_istore_n hx hb dX6_weigh_110 rfl hl (by decide) rfl (fun ls hl => ?_)
      have hl : lv_has ls 7 [(1, .int (nI 1)), (6, .int (nI (g9 v))), (4, .long (lN (rs (S, F, E) g9 h2 v))), (3, .int (nI v)), (0, .ref ma), (2, .int (nI r9))] := hl
      refine lv_iinc (k := 3) (v := nI (v + 1)) hx hb dX6_weigh_111 hl rfl cx_inc1 (by decide) rfl (fun ls hl => ?_)
      have hl : lv_has ls 7 [(3, .int (nI (v + 1))), (1, .int (nI 1)), (6, .int (nI (g9 v))), (4, .long (lN (rs (S, F, E) g9 h2 v))), (0, .ref ma), (2, .int (nI r9))] := hl
      refine lv_goto (tgt := 45) hx hb dX6_weigh_114 (by decide) ?_
      exact ih3 true (v + 1) (wt_u h2 (g9 v) (rs (S, F, E) g9 h2 v)) _ _ _ ⟨lv_sub hl [1, 0, 4, 5] rfl, hP, hD, hS, (by first | assumption | omega | rfl), (by first | exact (rs_y qw b3 hB hR2 hb2 b4 (by first | exact Or.inl b5 | exact Or.inr b6)).1 | exact (rs_n qw b3 hB hR2 hc2 hb2 (by first | exact Or.inl b4 | exact Or.inr ⟨b5, b6⟩)).1), (by first | exact (rs_y qw b3 hB hR2 hb2 b4 (by first | exact Or.inl b5 | exact Or.inr b6)).2 | exact (rs_n qw b3 hB hR2 hc2 hb2 (by first | exact Or.inl b4 | exact Or.inr ⟨b5, b6⟩)).2)⟩ (by show n - (v + 1) < n - v; omega)
    refine lv_lload hx hb dX6_weigh_87 (lv_at hl 1 rfl) ?_
    refine lv_aload_n hx hb dX6_weigh_89 rfl (lv_at hl 4 rfl) ?_
    refine va_get (D := (dC, dI)) (ci := 6) (v := .ref mC) (C := RX6) (T := TX6) (N := 16) hx hb hts (tb_c tbX6) hown hK hP 0 rfl rfl 15 (by decide) (hw _ tw_356) (fun _ h9 => h9) rfl dX6_weigh_90 ?_
    refine lv_iload hx hb dX6_weigh_93 (lv_at hl 0 rfl) ?_
    refine cx_lald hx hb hK hP 7 1 rfl rfl (by first | decide | omega) (v := lN (h2 (g9 v))) (i := (g9 v)) rfl (by first | omega | exact hB _ (by omega) | exact Nat.lt_of_lt_of_le (hB _ (by omega)) (by omega)) dX6_weigh_95 ?_
    refine cx_lge (tgt := 111) hx hb dX6_weigh_96 dX6_weigh_97 (by decide) (by first | omega | exact hB _ (by omega) | exact Nat.lt_of_lt_of_le (hB _ (by omega)) (by omega)) (by first | omega | exact hB _ (by omega) | exact Nat.lt_of_lt_of_le (hB _ (by omega)) (by omega)) (fun b6 => ?_) (fun b6 => ?_)
    · skip
      refine lv_iinc (k := 3) (v := nI (v + 1)) hx hb dX6_weigh_111 hl rfl cx_inc1 (by decide) rfl (fun ls hl => ?_)
      have hl : lv_has ls 7 [(3, .int (nI (v + 1))), (6, .int (nI (g9 v))), (4, .long (lN (rs (S, F, E) g9 h2 v))), (1, .int (bI ch1)), (0, .ref ma), (2, .int (nI r9))] := hl
      refine lv_goto (tgt := 45) hx hb dX6_weigh_114 (by decide) ?_
      exact ih3 ch1 (v + 1) h2 _ _ _ ⟨lv_sub hl [3, 0, 4, 5] rfl, hP, hD, hS, (by first | assumption | omega | rfl), (by first | exact (rs_y qw b3 hB hR2 hb2 b4 (by first | exact Or.inl b5 | exact Or.inr b6)).1 | exact (rs_n qw b3 hB hR2 hc2 hb2 (by first | exact Or.inl b4 | exact Or.inr ⟨b5, b6⟩)).1), (by first | exact (rs_y qw b3 hB hR2 hb2 b4 (by first | exact Or.inl b5 | exact Or.inr b6)).2 | exact (rs_n qw b3 hB hR2 hc2 hb2 (by first | exact Or.inl b4 | exact Or.inr ⟨b5, b6⟩)).2)⟩ (by show n - (v + 1) < n - v; omega)
    refine lv_aload_n hx hb dX6_weigh_100 rfl (lv_at hl 4 rfl) ?_
    refine va_get (D := (dC, dI)) (ci := 6) (v := .ref mC) (C := RX6) (T := TX6) (N := 16) hx hb hts (tb_c tbX6) hown hK hP 0 rfl rfl 15 (by decide) (hw _ tw_356) (fun _ h9 => h9) rfl dX6_weigh_101 ?_
    refine lv_iload hx hb dX6_weigh_104 (lv_at hl 0 rfl) ?_
    refine lv_lload hx hb dX6_weigh_106 (lv_at hl 1 rfl) ?_
    refine cx_last hx hb hK hP hD hS 7 1 rfl rfl (by first | decide | omega) (i := (g9 v)) (cL_u) (by first | omega | exact hB _ (by omega) | exact Nat.lt_of_lt_of_le (hB _ (by omega)) (by omega)) dX6_weigh_108 (fun H locs hP hD hS => ?_)
    have hP : va_P (dC, dI) vwCl [(ma, .inr (6, [.int (nI n), .ref m1, .ref m2, .ref m3, .int (nI k), .ref m4, .ref m5, .int (nI d), .ref m6, .ref m7, .int (nI dp), .ref m8, .ref m9, .ref mA, .ref mB, .ref mC])), (m1, .inl (kI, 40, .inl S)), (m2, .inl (kI, 40, .inl (cA F))), (m3, .inl (kI, 40, .inl (cA E))), (m4, .inl (kI, 24, .inl (cI lf))), (m5, .inl (kI, 24, .inl (cI rt))), (mB, .inl (kI, 40, .inl (cI g9))), (mC, .inl (kL, 40, .inr (.inl (cL (wt_u h2 (g9 v) (rs (S, F, E) g9 h2 v))))))] H := hP
    have hD : va_D AA [(ma, .inr (6, [.int (nI n), .ref m1, .ref m2, .ref m3, .int (nI k), .ref m4, .ref m5, .int (nI d), .ref m6, .ref m7, .int (nI dp), .ref m8, .ref m9, .ref mA, .ref mB, .ref mC])), (m1, .inl (kI, 40, .inl S)), (m2, .inl (kI, 40, .inl (cA F))), (m3, .inl (kI, 40, .inl (cA E))), (m4, .inl (kI, 24, .inl (cI lf))), (m5, .inl (kI, 24, .inl (cI rt))), (mB, .inl (kI, 40, .inl (cI g9))), (mC, .inl (kL, 40, .inr (.inl (cL (wt_u h2 (g9 v) (rs (S, F, E) g9 h2 v))))))] := hD
    refine lv_iconst (v := nI 1) hx hb dX6_weigh_109 (by decide) ?_
    refine lv_istore_n hx hb dX6_weigh_110 rfl hl (by decide) rfl (fun ls hl => ?_)
    have hl : lv_has ls 7 [(1, .int (nI 1)), (6, .int (nI (g9 v))), (4, .long (lN (rs (S, F, E) g9 h2 v))), (3, .int (nI v)), (0, .ref ma), (2, .int (nI r9))] := hl
    refine lv_iinc (k := 3) (v := nI (v + 1)) hx hb dX6_weigh_111 hl rfl cx_inc1 (by decide) rfl (fun ls hl => ?_)
    have hl : lv_has ls 7 [(3, .int (nI (v + 1))), (1, .int (nI 1)), (6, .int (nI (g9 v))), (4, .long (lN (rs (S, F, E) g9 h2 v))), (0, .ref ma), (2, .int (nI r9))] := hl
    refine lv_goto (tgt := 45) hx hb dX6_weigh_114 (by decide) ?_
    exact ih3 true (v + 1) (wt_u h2 (g9 v) (rs (S, F, E) g9 h2 v)) _ _ _ ⟨lv_sub hl [1, 0, 4, 5] rfl, hP, hD, hS, (by first | assumption | omega | rfl), (by first | exact (rs_y qw b3 hB hR2 hb2 b4 (by first | exact Or.inl b5 | exact Or.inr b6)).1 | exact (rs_n qw b3 hB hR2 hc2 hb2 (by first | exact Or.inl b4 | exact Or.inr ⟨b5, b6⟩)).1), (by first | exact (rs_y qw b3 hB hR2 hb2 b4 (by first | exact Or.inl b5 | exact Or.inr b6)).2 | exact (rs_n qw b3 hB hR2 hc2 hb2 (by first | exact Or.inl b4 | exact Or.inr ⟨b5, b6⟩)).2)⟩ (by show n - (v + 1) < n - v; omega)
  refine lv_aload_n hx hb dX6_weigh_14 rfl (lv_at hl 1 rfl) ?_
  refine va_get (D := (dC, dI)) (ci := 6) (v := .ref mC) (C := RX6) (T := TX6) (N := 16) hx hb hts (tb_c tbX6) hown hK hP 0 rfl rfl 15 (by decide) (hw _ tw_356) (fun _ h9 => h9) rfl dX6_weigh_15 ?_
  refine lv_iload_n hx hb dX6_weigh_18 rfl (lv_at hl 0 rfl) ?_
  refine lv_lconst (v := lN 0) hx hb dX6_weigh_19 (by decide) ?_
  refine cx_last hx hb hK hP hD hS 7 1 rfl rfl (by first | decide | omega) (i := v) (cL_u) (by first | omega | exact hB _ (by omega) | exact Nat.lt_of_lt_of_le (hB _ (by omega)) (by omega)) dX6_weigh_20 (fun H locs hP hD hS => ?_)
  have hP : va_P (dC, dI) vwCl [(ma, .inr (6, [.int (nI n), .ref m1, .ref m2, .ref m3, .int (nI k), .ref m4, .ref m5, .int (nI d), .ref m6, .ref m7, .int (nI dp), .ref m8, .ref m9, .ref mA, .ref mB, .ref mC])), (m1, .inl (kI, 40, .inl S)), (m2, .inl (kI, 40, .inl (cA F))), (m3, .inl (kI, 40, .inl (cA E))), (m4, .inl (kI, 24, .inl (cI lf))), (m5, .inl (kI, 24, .inl (cI rt))), (mB, .inl (kI, 40, .inl (cI g9))), (mC, .inl (kL, 40, .inr (.inl (cL (wt_u h0 v 0)))))] H := hP
  have hD : va_D AA [(ma, .inr (6, [.int (nI n), .ref m1, .ref m2, .ref m3, .int (nI k), .ref m4, .ref m5, .int (nI d), .ref m6, .ref m7, .int (nI dp), .ref m8, .ref m9, .ref mA, .ref mB, .ref mC])), (m1, .inl (kI, 40, .inl S)), (m2, .inl (kI, 40, .inl (cA F))), (m3, .inl (kI, 40, .inl (cA E))), (m4, .inl (kI, 24, .inl (cI lf))), (m5, .inl (kI, 24, .inl (cI rt))), (mB, .inl (kI, 40, .inl (cI g9))), (mC, .inl (kL, 40, .inr (.inl (cL (wt_u h0 v 0)))))] := hD
  refine lv_iinc (k := 0) (v := nI (v + 1)) hx hb dX6_weigh_21 hl rfl cx_inc1 (by decide) rfl (fun ls hl => ?_)
  have hl : lv_has ls 7 [(1, .int (nI (v + 1))), (0, .ref ma)] := hl
  refine lv_goto (tgt := 6) hx hb dX6_weigh_24 (by decide) ?_
  exact ih1 (v + 1) (wt_u h0 v 0) _ _ _ ⟨lv_sub hl [0, 1] rfl, hP, hD, hS, (by first | assumption | omega | rfl), (cx_fill_s hh)⟩ (by show n - (v + 1) < n - v; omega)
