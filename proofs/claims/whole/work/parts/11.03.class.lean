set_option maxHeartbeats 4000000 in
set_option maxRecDepth 100000 in
theorem c_X5_equal (l : Launch) (dC : Nat → ClassId) (dI : Nat → Nat → Nat) (kI kL : ClassId) (za : Nat) (zt : Nat) (zp : Nat) (zq : Nat) (zv : Nat) (zc : Nat) (zx : Nat) (zw : Nat) (zs : Nat) (zf : Nat) (ze : Nat) (n : Nat) (zd : Nat) (f : Nat → Nat) (x : Int32) (y : Int32) (qn : n ≤ 40) (hB : ∀ u, u < n → f u < n) : Met l yX5_equal (.code yX5_equal cX5_equal 3 (some .int) :: tbw) { frames := 2, cells := 0, slots := 0, locals := 43 } (va_Pc [.ref za, .int x, .int y] (cx_R (dC, dI) vwCl [(za, .inr (5, [.ref zt, .ref zp, .ref zq, .ref zv, .ref zc, .ref zx, .ref zw])), (zt, .inr (3, [.ref zs, .ref zf, .ref ze, .int (nI n)])), (zc, .inr (2, [.ref zd])), (zd, .inl (kI, 40, .inl (cI f)))] [(kI, .int), (kL, .long)])) (vp_Si (fun r => r = (an_equal n f x y))) 0 0 (fun _ => False) := by
  refine Met.ofW (cc := cX5_equal) (maxL := 3) (ret := (some .int)) (by decide) rfl ?_
  intro p e s m args below meth c s₁ B hml hv
  obtain ⟨rfl, hP, hK⟩ := hv
  have hx := B.exec
  have hb := B.bytes
  have hr := B.returns
  have hts := atoms_spec (ws := .code yX5_equal cX5_equal 3 (some .int) :: tbw) B.pre
  have hw : ∀ w ∈ tbw, w.before _ s = true := fun w h => hts w (List.mem_cons_of_mem _ h)
  have hown : s.vm.findClass RX5 = some m.cls := findClass_of_methodNamed B.named
  have hP : va_P (dC, dI) vwCl [(za, .inr (5, [.ref zt, .ref zp, .ref zq, .ref zv, .ref zc, .ref zx, .ref zw])), (zt, .inr (3, [.ref zs, .ref zf, .ref ze, .int (nI n)])), (zc, .inr (2, [.ref zd])), (zd, .inl (kI, 40, .inl (cI f)))] s.heap := hP
  have hl := lv_entry ([.ref za, .int x, .int y]) (n := 3) (Nat.le_of_ble_eq_true rfl)
  rw [lg_entry_eq]
  generalize (lg_sl ([.ref za, .int x, .int y]) ++ List.replicate (3 - (lg_sl ([.ref za, .int x, .int y])).length) Slot.unset).toArray = ls at hl ⊢
  have hl : lv_has ls 3 [(0, .ref za), (1, .int x), (2, .int y)] := hl
  refine lv_aload_n hx hb dX5_equal_0 rfl (lv_at hl 0 rfl) ?_
  refine lv_iload_n hx hb dX5_equal_1 rfl (lv_at hl 1 rfl) ?_
  refine lv_iload_n hx hb dX5_equal_2 rfl (lv_at hl 2 rfl) ?_
  refine cx_si (va_runV (As := [.int x, .int y]) (rest := []) ⟨hx, hb, hml, hown, hts⟩ (c_X5_areTerms l dC dI kI kL za zt zp zq zv zc zx zw zs zf ze n x y ) (cwV 2 hts gv_X5_70 rfl rfl rfl hdX5_areTerms ⟨Nat.le_of_ble_eq_true rfl, Nat.le_of_ble_eq_true rfl⟩) (cx_preV (hP.sub (ws' := [(za, .inr (5, [.ref zt, .ref zp, .ref zq, .ref zv, .ref zc, .ref zx, .ref zw])), (zt, .inr (3, [.ref zs, .ref zf, .ref ze, .int (nI n)]))]) [0, 1] rfl) hK rfl (q0 := 0) rfl) rfl rfl hl.1 rfl (lv_room (Nat.le_of_ble_eq_true rfl)) dX5_equal_3 ⟨Nat.zero_le _, Nat.zero_le _⟩) (fun r hres => ?_)
  subst hres
  refine cx_if1 (tgt := 12) hx hb dX5_equal_6 (by decide) (fun b0 => ?_) (fun b0 => ?_)
  · skip
    have hT := of_decide_eq_true b0
    obtain ⟨i, hi, rfl⟩ := cx_T_x qn hT.1
    obtain ⟨j, hj, rfl⟩ := cx_T_x qn hT.2
    refine lv_aload_n hx hb dX5_equal_12 rfl (lv_at hl 0 rfl) ?_
    refine va_get (D := (dC, dI)) (ci := 5) (v := .ref zc) (C := RX5) (T := TX5) (N := 7) hx hb hts (tb_c tbX5) hown hK hP 0 rfl rfl 4 (by decide) (hw _ tw_119) (fun _ h9 => h9) rfl dX5_equal_13 ?_
    refine lv_iload_n hx hb dX5_equal_16 rfl (lv_at hl 1 rfl) ?_
    refine lv_iload_n hx hb dX5_equal_17 rfl (lv_at hl 2 rfl) ?_
    refine cx_si (va_runV (As := [.int (nI i), .int (nI j)]) (rest := []) ⟨hx, hb, hml, hown, hts⟩ (c_X2_joins l dC dI kI kL zc zd f n i j (by first | assumption | omega | rfl) (by first | assumption | omega | rfl) (by first | assumption | omega | rfl) (by first | assumption | omega | rfl)) (cwV 2 hts gv_X5_103 rfl rfl rfl hdX2_joins ⟨Nat.le_of_ble_eq_true rfl, Nat.le_of_ble_eq_true rfl⟩) (cx_preV (hP.sub (ws' := [(zc, .inr (2, [.ref zd])), (zd, .inl (kI, 40, .inl (cI f)))]) [2, 3] rfl) hK rfl (q0 := 0) rfl) rfl rfl hl.1 rfl (lv_room (Nat.le_of_ble_eq_true rfl)) dX5_equal_18 ⟨Nat.zero_le _, Nat.zero_le _⟩) (fun r hres => ?_)
    subst hres
    refine cx_if0 (tgt := 28) hx hb dX5_equal_21 (by decide) (fun b1 => ?_) (fun b1 => ?_)
    · skip
      refine lv_iconst (v := nI 0) hx hb dX5_equal_28 (by decide) ?_
      exact W.iret (v := nI 0) hx hb hr (fun t ht hW => ⟨_, rfl, an_equal_n qn hi hj (of_decide_eq_false b1), ht⟩) (fun _ h9 => by cases h9) dX5_equal_29
    refine lv_iconst (v := nI 1) hx hb dX5_equal_24 (by decide) ?_
    refine lv_goto (tgt := 29) hx hb dX5_equal_25 (by decide) ?_
    exact W.iret (v := nI 1) hx hb hr (fun t ht hW => ⟨_, rfl, an_equal_y qn hi hj (of_decide_eq_true b1), ht⟩) (fun _ h9 => by cases h9) dX5_equal_29
  refine lv_bipush (v := (-2)) hx hb dX5_equal_9 (by decide) ?_
  exact W.iret (v := (-2)) hx hb hr (fun t ht hW => ⟨_, rfl, an_equal_b (of_decide_eq_false b0), ht⟩) (fun _ h9 => by cases h9) dX5_equal_11

set_option maxHeartbeats 4000000 in
set_option maxRecDepth 100000 in
theorem c_X5_apart (l : Launch) (dC : Nat → ClassId) (dI : Nat → Nat → Nat) (kI kL : ClassId) (za : Nat) (zt : Nat) (zp : Nat) (zq : Nat) (zv : Nat) (zc : Nat) (zx : Nat) (zw : Nat) (zs : Nat) (zf : Nat) (ze : Nat) (n : Nat) (zd : Nat) (f : Nat → Nat) (zo : Nat) (zu : Nat) (d : Nat) (on : Nat → Nat) (ot : Nat → Nat) (x : Int32) (y : Int32) (qn : n ≤ 40) (hB : ∀ u, u < n → f u < n) (qd : d ≤ 16) (qo : cg_we n on ot d) : Met l yX5_apart (.code yX5_apart cX5_apart 8 (some .int) :: tbw) { frames := 2, cells := 0, slots := 0, locals := 43 } (va_Pc [.ref za, .int x, .int y] (cx_R (dC, dI) vwCl [(za, .inr (5, [.ref zt, .ref zp, .ref zq, .ref zv, .ref zc, .ref zx, .ref zw])), (zt, .inr (3, [.ref zs, .ref zf, .ref ze, .int (nI n)])), (zc, .inr (2, [.ref zd])), (zd, .inl (kI, 40, .inl (cI f))), (zq, .inr (1, [.ref zo, .ref zu, .int (nI d)])), (zo, .inl (kI, 16, .inl (cI on))), (zu, .inl (kI, 16, .inl (cI ot)))] [(kI, .int), (kL, .long)])) (vp_Si (fun r => r = (an_apart n d f on ot x y))) 0 0 (fun _ => False) := by
  refine Met.ofW (cc := cX5_apart) (maxL := 8) (ret := (some .int)) (by decide) rfl ?_
  intro p e s m args below meth c s₁ B hml hv
  obtain ⟨rfl, hP, hK⟩ := hv
  have hx := B.exec
  have hb := B.bytes
  have hr := B.returns
  have hts := atoms_spec (ws := .code yX5_apart cX5_apart 8 (some .int) :: tbw) B.pre
  have hw : ∀ w ∈ tbw, w.before _ s = true := fun w h => hts w (List.mem_cons_of_mem _ h)
  have hown : s.vm.findClass RX5 = some m.cls := findClass_of_methodNamed B.named
  have hP : va_P (dC, dI) vwCl [(za, .inr (5, [.ref zt, .ref zp, .ref zq, .ref zv, .ref zc, .ref zx, .ref zw])), (zt, .inr (3, [.ref zs, .ref zf, .ref ze, .int (nI n)])), (zc, .inr (2, [.ref zd])), (zd, .inl (kI, 40, .inl (cI f))), (zq, .inr (1, [.ref zo, .ref zu, .int (nI d)])), (zo, .inl (kI, 16, .inl (cI on))), (zu, .inl (kI, 16, .inl (cI ot)))] s.heap := hP
  have hl := lv_entry ([.ref za, .int x, .int y]) (n := 8) (Nat.le_of_ble_eq_true rfl)
  rw [lg_entry_eq]
  generalize (lg_sl ([.ref za, .int x, .int y]) ++ List.replicate (8 - (lg_sl ([.ref za, .int x, .int y])).length) Slot.unset).toArray = ls at hl ⊢
  have hl : lv_has ls 8 [(0, .ref za), (1, .int x), (2, .int y)] := hl
  refine lv_aload_n hx hb dX5_apart_0 rfl (lv_at hl 0 rfl) ?_
  refine lv_iload_n hx hb dX5_apart_1 rfl (lv_at hl 1 rfl) ?_
  refine lv_iload_n hx hb dX5_apart_2 rfl (lv_at hl 2 rfl) ?_
  refine cx_si (va_runV (As := [.int x, .int y]) (rest := []) ⟨hx, hb, hml, hown, hts⟩ (c_X5_areTerms l dC dI kI kL za zt zp zq zv zc zx zw zs zf ze n x y ) (cwV 2 hts gv_X5_70 rfl rfl rfl hdX5_areTerms ⟨Nat.le_of_ble_eq_true rfl, Nat.le_of_ble_eq_true rfl⟩) (cx_preV (hP.sub (ws' := [(za, .inr (5, [.ref zt, .ref zp, .ref zq, .ref zv, .ref zc, .ref zx, .ref zw])), (zt, .inr (3, [.ref zs, .ref zf, .ref ze, .int (nI n)]))]) [0, 1] rfl) hK rfl (q0 := 0) rfl) rfl rfl hl.1 rfl (lv_room (Nat.le_of_ble_eq_true rfl)) dX5_apart_3 ⟨Nat.zero_le _, Nat.zero_le _⟩) (fun r hres => ?_)
  subst hres
  refine cx_if1 (tgt := 12) hx hb dX5_apart_6 (by decide) (fun b0 => ?_) (fun b0 => ?_)
  · skip
    have hT := of_decide_eq_true b0
    obtain ⟨i, hi, rfl⟩ := cx_T_x qn hT.1
    obtain ⟨j, hj, rfl⟩ := cx_T_x qn hT.2
    refine lv_iconst (v := nI 0) hx hb dX5_apart_12 (by decide) ?_
    refine lv_istore_n hx hb dX5_apart_13 rfl hl (by decide) rfl (fun ls hl => ?_)
    have hl : lv_has ls 8 [(3, .int (nI 0)), (0, .ref za), (1, .int (nI i)), (2, .int (nI j))] := hl
    refine cx_loopR1 (fun (v : Nat) (ls : Array Slot) => lv_has ls 8 [(3, .int (nI v)), (0, .ref za), (1, .int (nI i)), (2, .int (nI j))] ∧ (v ≤ d) ∧ (∀ u, u < v → cg_PA f on ot i j u = false)) (fun v => d - v) (fun v ls hI ih1 => ?_) 0 ⟨lv_sub hl [0, 1, 2, 3] rfl, (by first | assumption | omega | rfl), (fun u h => absurd h (Nat.not_lt_zero u))⟩
    obtain ⟨hl, hv1, hno⟩ := hI
    refine lv_iload_n hx hb dX5_apart_14 rfl (lv_at hl 0 rfl) ?_
    refine lv_aload_n hx hb dX5_apart_15 rfl (lv_at hl 1 rfl) ?_
    refine va_get (D := (dC, dI)) (ci := 5) (v := .ref zq) (C := RX5) (T := TX5) (N := 7) hx hb hts (tb_c tbX5) hown hK hP 0 rfl rfl 2 (by decide) (hw _ tw_117) (fun _ h9 => h9) rfl dX5_apart_16 ?_
    refine va_get (D := (dC, dI)) (ci := 1) (v := .int (nI d)) (C := RX1) (T := TX1) (N := 3) hx hb hts (tb_c tbX1) hown hK hP 4 rfl rfl 2 (by decide) (hw _ tw_60) (fun _ h9 => h9) rfl dX5_apart_19 ?_
    refine cx_ge (x := v) (y := d) (tgt := 131) hx hb dX5_apart_22 (by decide) (by first | omega | exact hB _ (by omega) | exact Nat.lt_of_lt_of_le (hB _ (by omega)) (by omega)) (by first | omega | exact hB _ (by omega) | exact Nat.lt_of_lt_of_le (hB _ (by omega)) (by omega)) (fun b1 => ?_) (fun b1 => ?_)
    · skip
      refine lv_iconst (v := nI 0) hx hb dX5_apart_131 (by decide) ?_
      exact W.iret (v := nI 0) hx hb hr (fun t ht hW => ⟨_, rfl, an_apart_n qn hi hj hno b1, ht⟩) (fun _ h9 => by cases h9) dX5_apart_132
    have e1 := qo v b1
    refine lv_aload_n hx hb dX5_apart_25 rfl (lv_at hl 1 rfl) ?_
    refine va_get (D := (dC, dI)) (ci := 5) (v := .ref zq) (C := RX5) (T := TX5) (N := 7) hx hb hts (tb_c tbX5) hown hK hP 0 rfl rfl 2 (by decide) (hw _ tw_117) (fun _ h9 => h9) rfl dX5_apart_26 ?_
    refine va_get (D := (dC, dI)) (ci := 1) (v := .ref zo) (C := RX1) (T := TX1) (N := 3) hx hb hts (tb_c tbX1) hown hK hP 4 rfl rfl 0 (by decide) (hw _ tw_55) (fun _ h9 => h9) rfl dX5_apart_29 ?_
    refine lv_iload_n hx hb dX5_apart_32 rfl (lv_at hl 0 rfl) ?_
    refine cx_iald hx hb hK hP 5 0 rfl rfl (by first | decide | omega) (v := nI (on v)) (i := v) rfl (by first | omega | exact hB _ (by omega) | exact Nat.lt_of_lt_of_le (hB _ (by omega)) (by omega)) dX5_apart_33 ?_
    refine lv_istore hx hb dX5_apart_34 hl (by decide) rfl (fun ls hl => ?_)
    have hl : lv_has ls 8 [(4, .int (nI (on v))), (3, .int (nI v)), (0, .ref za), (1, .int (nI i)), (2, .int (nI j))] := hl
    refine lv_aload_n hx hb dX5_apart_36 rfl (lv_at hl 2 rfl) ?_
    refine va_get (D := (dC, dI)) (ci := 5) (v := .ref zq) (C := RX5) (T := TX5) (N := 7) hx hb hts (tb_c tbX5) hown hK hP 0 rfl rfl 2 (by decide) (hw _ tw_117) (fun _ h9 => h9) rfl dX5_apart_37 ?_
    refine va_get (D := (dC, dI)) (ci := 1) (v := .ref zu) (C := RX1) (T := TX1) (N := 3) hx hb hts (tb_c tbX1) hown hK hP 4 rfl rfl 1 (by decide) (hw _ tw_58) (fun _ h9 => h9) rfl dX5_apart_40 ?_
    refine lv_iload_n hx hb dX5_apart_43 rfl (lv_at hl 1 rfl) ?_
    refine cx_iald hx hb hK hP 6 0 rfl rfl (by first | decide | omega) (v := nI (ot v)) (i := v) rfl (by first | omega | exact hB _ (by omega) | exact Nat.lt_of_lt_of_le (hB _ (by omega)) (by omega)) dX5_apart_44 ?_
    refine lv_istore hx hb dX5_apart_45 hl (by decide) rfl (fun ls hl => ?_)
    have hl : lv_has ls 8 [(5, .int (nI (ot v))), (4, .int (nI (on v))), (3, .int (nI v)), (0, .ref za), (1, .int (nI i)), (2, .int (nI j))] := hl
    refine lv_aload_n hx hb dX5_apart_47 rfl (lv_at hl 3 rfl) ?_
    refine va_get (D := (dC, dI)) (ci := 5) (v := .ref zc) (C := RX5) (T := TX5) (N := 7) hx hb hts (tb_c tbX5) hown hK hP 0 rfl rfl 4 (by decide) (hw _ tw_119) (fun _ h9 => h9) rfl dX5_apart_48 ?_
    refine lv_iload hx hb dX5_apart_51 (lv_at hl 1 rfl) ?_
    refine lv_iload_n hx hb dX5_apart_53 rfl (lv_at hl 4 rfl) ?_
    refine cx_si (va_runV (As := [.int (nI (on v)), .int (nI i)]) (rest := []) ⟨hx, hb, hml, hown, hts⟩ (c_X2_joins l dC dI kI kL zc zd f n (on v) i (by first | assumption | omega | rfl) (by first | assumption | omega | rfl) (by first | assumption | omega | rfl) (by first | assumption | omega | rfl)) (cwV 2 hts gv_X5_103 rfl rfl rfl hdX2_joins ⟨Nat.le_of_ble_eq_true rfl, Nat.le_of_ble_eq_true rfl⟩) (cx_preV (hP.sub (ws' := [(zc, .inr (2, [.ref zd])), (zd, .inl (kI, 40, .inl (cI f)))]) [2, 3] rfl) hK rfl (q0 := 0) rfl) rfl rfl hl.1 rfl (lv_room (Nat.le_of_ble_eq_true rfl)) dX5_apart_54 ⟨Nat.zero_le _, Nat.zero_le _⟩) (fun r hres => ?_)
    subst hres
    refine cx_if0 (tgt := 77) hx hb dX5_apart_57 (by decide) (fun b2 => ?_) (fun b2 => ?_)
    · skip
      refine lv_iconst (v := nI 0) hx hb dX5_apart_77 (by decide) ?_
      refine lv_istore hx hb dX5_apart_78 hl (by decide) rfl (fun ls hl => ?_)
      have hl : lv_has ls 8 [(6, .int (nI 0)), (5, .int (nI (ot v))), (4, .int (nI (on v))), (3, .int (nI v)), (0, .ref za), (1, .int (nI i)), (2, .int (nI j))] := hl
      refine lv_aload_n hx hb dX5_apart_80 rfl (lv_at hl 4 rfl) ?_
      refine va_get (D := (dC, dI)) (ci := 5) (v := .ref zc) (C := RX5) (T := TX5) (N := 7) hx hb hts (tb_c tbX5) hown hK hP 0 rfl rfl 4 (by decide) (hw _ tw_119) (fun _ h9 => h9) rfl dX5_apart_81 ?_
      refine lv_iload hx hb dX5_apart_84 (lv_at hl 2 rfl) ?_
      refine lv_iload_n hx hb dX5_apart_86 rfl (lv_at hl 6 rfl) ?_
      refine cx_si (va_runV (As := [.int (nI (on v)), .int (nI j)]) (rest := []) ⟨hx, hb, hml, hown, hts⟩ (c_X2_joins l dC dI kI kL zc zd f n (on v) j (by first | assumption | omega | rfl) (by first | assumption | omega | rfl) (by first | assumption | omega | rfl) (by first | assumption | omega | rfl)) (cwV 2 hts gv_X5_103 rfl rfl rfl hdX2_joins ⟨Nat.le_of_ble_eq_true rfl, Nat.le_of_ble_eq_true rfl⟩) (cx_preV (hP.sub (ws' := [(zc, .inr (2, [.ref zd])), (zd, .inl (kI, 40, .inl (cI f)))]) [2, 3] rfl) hK rfl (q0 := 0) rfl) rfl rfl hl.1 rfl (lv_room (Nat.le_of_ble_eq_true rfl)) dX5_apart_87 ⟨Nat.zero_le _, Nat.zero_le _⟩) (fun r hres => ?_)
      subst hres
      refine cx_if0 (tgt := 110) hx hb dX5_apart_90 (by decide) (fun b4 => ?_) (fun b4 => ?_)
      · skip
        refine lv_iconst (v := nI 0) hx hb dX5_apart_110 (by decide) ?_
        refine lv_istore hx hb dX5_apart_111 hl (by decide) rfl (fun ls hl => ?_)
        have hl : lv_has ls 8 [(7, .int (nI 0)), (6, .int (nI 0)), (5, .int (nI (ot v))), (4, .int (nI (on v))), (3, .int (nI v)), (0, .ref za), (1, .int (nI i)), (2, .int (nI j))] := hl
        refine lv_iload hx hb dX5_apart_113 (lv_at hl 1 rfl) ?_
        refine cx_nne (x := 0) (tgt := 123) hx hb dX5_apart_115 (by decide) (by decide) (fun h9 => absurd h9 (by decide)) (fun _ => ?_)
        refine lv_iload hx hb dX5_apart_118 (lv_at hl 0 rfl) ?_
        refine cx_neq (x := 0) (tgt := 125) hx hb dX5_apart_120 (by decide) (by decide) (fun _ => ?_) (fun h9 => absurd h9 (by decide))
        refine lv_iinc (k := 4) (v := nI (v + 1)) hx hb dX5_apart_125 hl rfl cx_inc1 (by decide) rfl (fun ls hl => ?_)
        have hl : lv_has ls 8 [(3, .int (nI (v + 1))), (7, .int (nI 0)), (6, .int (nI 0)), (5, .int (nI (ot v))), (4, .int (nI (on v))), (0, .ref za), (1, .int (nI i)), (2, .int (nI j))] := hl
        refine lv_goto (tgt := 14) hx hb dX5_apart_128 (by decide) ?_
        exact ih1 (v + 1) _ ⟨lv_sub hl [0, 5, 6, 7] rfl, (by first | assumption | omega | rfl), (cg_sr_s hno (cg_PA_f (by first | exact fun h => of_decide_eq_false b2 h.1 | exact fun h => of_decide_eq_false b3 h.2) (by first | exact fun h => of_decide_eq_false b4 h.1 | exact fun h => of_decide_eq_false b5 h.2)))⟩ (by show d - (v + 1) < d - v; omega)
      refine lv_aload_n hx hb dX5_apart_93 rfl (lv_at hl 4 rfl) ?_
      refine va_get (D := (dC, dI)) (ci := 5) (v := .ref zc) (C := RX5) (T := TX5) (N := 7) hx hb hts (tb_c tbX5) hown hK hP 0 rfl rfl 4 (by decide) (hw _ tw_119) (fun _ h9 => h9) rfl dX5_apart_94 ?_
      refine lv_iload hx hb dX5_apart_97 (lv_at hl 1 rfl) ?_
      refine lv_iload_n hx hb dX5_apart_99 rfl (lv_at hl 5 rfl) ?_
      refine cx_si (va_runV (As := [.int (nI (ot v)), .int (nI i)]) (rest := []) ⟨hx, hb, hml, hown, hts⟩ (c_X2_joins l dC dI kI kL zc zd f n (ot v) i (by first | assumption | omega | rfl) (by first | assumption | omega | rfl) (by first | assumption | omega | rfl) (by first | assumption | omega | rfl)) (cwV 2 hts gv_X5_103 rfl rfl rfl hdX2_joins ⟨Nat.le_of_ble_eq_true rfl, Nat.le_of_ble_eq_true rfl⟩) (cx_preV (hP.sub (ws' := [(zc, .inr (2, [.ref zd])), (zd, .inl (kI, 40, .inl (cI f)))]) [2, 3] rfl) hK rfl (q0 := 0) rfl) rfl rfl hl.1 rfl (lv_room (Nat.le_of_ble_eq_true rfl)) dX5_apart_100 ⟨Nat.zero_le _, Nat.zero_le _⟩) (fun r hres => ?_)
      subst hres
      refine cx_if0 (tgt := 110) hx hb dX5_apart_103 (by decide) (fun b5 => ?_) (fun b5 => ?_)
      · skip
        refine lv_iconst (v := nI 0) hx hb dX5_apart_110 (by decide) ?_
        refine lv_istore hx hb dX5_apart_111 hl (by decide) rfl (fun ls hl => ?_)
        have hl : lv_has ls 8 [(7, .int (nI 0)), (6, .int (nI 0)), (5, .int (nI (ot v))), (4, .int (nI (on v))), (3, .int (nI v)), (0, .ref za), (1, .int (nI i)), (2, .int (nI j))] := hl
        refine lv_iload hx hb dX5_apart_113 (lv_at hl 1 rfl) ?_
        refine cx_nne (x := 0) (tgt := 123) hx hb dX5_apart_115 (by decide) (by decide) (fun h9 => absurd h9 (by decide)) (fun _ => ?_)
        refine lv_iload hx hb dX5_apart_118 (lv_at hl 0 rfl) ?_
        refine cx_neq (x := 0) (tgt := 125) hx hb dX5_apart_120 (by decide) (by decide) (fun _ => ?_) (fun h9 => absurd h9 (by decide))
        refine lv_iinc (k := 4) (v := nI (v + 1)) hx hb dX5_apart_125 hl rfl cx_inc1 (by decide) rfl (fun ls hl => ?_)
        have hl : lv_has ls 8 [(3, .int (nI (v + 1))), (7, .int (nI 0)), (6, .int (nI 0)), (5, .int (nI (ot v))), (4, .int (nI (on v))), (0, .ref za), (1, .int (nI i)), (2, .int (nI j))] := hl
        refine lv_goto (tgt := 14) hx hb dX5_apart_128 (by decide) ?_
        exact ih1 (v + 1) _ ⟨lv_sub hl [0, 5, 6, 7] rfl, (by first | assumption | omega | rfl), (cg_sr_s hno (cg_PA_f (by first | exact fun h => of_decide_eq_false b2 h.1 | exact fun h => of_decide_eq_false b3 h.2) (by first | exact fun h => of_decide_eq_false b4 h.1 | exact fun h => of_decide_eq_false b5 h.2)))⟩ (by show d - (v + 1) < d - v; omega)
      refine lv_iconst (v := nI 1) hx hb dX5_apart_106 (by decide) ?_
      refine lv_goto (tgt := 111) hx hb dX5_apart_107 (by decide) ?_
      refine lv_istore hx hb dX5_apart_111 hl (by decide) rfl (fun ls hl => ?_)
      have hl : lv_has ls 8 [(7, .int (nI 1)), (6, .int (nI 0)), (5, .int (nI (ot v))), (4, .int (nI (on v))), (3, .int (nI v)), (0, .ref za), (1, .int (nI i)), (2, .int (nI j))] := hl
      refine lv_iload hx hb dX5_apart_113 (lv_at hl 1 rfl) ?_
      refine cx_nne (x := 0) (tgt := 123) hx hb dX5_apart_115 (by decide) (by decide) (fun h9 => absurd h9 (by decide)) (fun _ => ?_)
      refine lv_iload hx hb dX5_apart_118 (lv_at hl 0 rfl) ?_
      refine cx_neq (x := 1) (tgt := 125) hx hb dX5_apart_120 (by decide) (by decide) (fun h9 => absurd h9 (by decide)) (fun _ => ?_)
      refine lv_iconst (v := nI 1) hx hb dX5_apart_123 (by decide) ?_
      exact W.iret (v := nI 1) hx hb hr (fun t ht hW => ⟨_, rfl, an_apart_y qn hi hj hno (by first | exact cg_PA_t (Or.inl ⟨of_decide_eq_true b2, of_decide_eq_true b3⟩) | exact cg_PA_t (Or.inr ⟨of_decide_eq_true b4, of_decide_eq_true b5⟩)) b1, ht⟩) (fun _ h9 => by cases h9) dX5_apart_124
    refine lv_aload_n hx hb dX5_apart_60 rfl (lv_at hl 3 rfl) ?_
    refine va_get (D := (dC, dI)) (ci := 5) (v := .ref zc) (C := RX5) (T := TX5) (N := 7) hx hb hts (tb_c tbX5) hown hK hP 0 rfl rfl 4 (by decide) (hw _ tw_119) (fun _ h9 => h9) rfl dX5_apart_61 ?_
    refine lv_iload hx hb dX5_apart_64 (lv_at hl 0 rfl) ?_
    refine lv_iload_n hx hb dX5_apart_66 rfl (lv_at hl 5 rfl) ?_
    refine cx_si (va_runV (As := [.int (nI (ot v)), .int (nI j)]) (rest := []) ⟨hx, hb, hml, hown, hts⟩ (c_X2_joins l dC dI kI kL zc zd f n (ot v) j (by first | assumption | omega | rfl) (by first | assumption | omega | rfl) (by first | assumption | omega | rfl) (by first | assumption | omega | rfl)) (cwV 2 hts gv_X5_103 rfl rfl rfl hdX2_joins ⟨Nat.le_of_ble_eq_true rfl, Nat.le_of_ble_eq_true rfl⟩) (cx_preV (hP.sub (ws' := [(zc, .inr (2, [.ref zd])), (zd, .inl (kI, 40, .inl (cI f)))]) [2, 3] rfl) hK rfl (q0 := 0) rfl) rfl rfl hl.1 rfl (lv_room (Nat.le_of_ble_eq_true rfl)) dX5_apart_67 ⟨Nat.zero_le _, Nat.zero_le _⟩) (fun r hres => ?_)
    subst hres
    refine cx_if0 (tgt := 77) hx hb dX5_apart_70 (by decide) (fun b3 => ?_) (fun b3 => ?_)
    · skip
      refine lv_iconst (v := nI 0) hx hb dX5_apart_77 (by decide) ?_
      refine lv_istore hx hb dX5_apart_78 hl (by decide) rfl (fun ls hl => ?_)
      have hl : lv_has ls 8 [(6, .int (nI 0)), (5, .int (nI (ot v))), (4, .int (nI (on v))), (3, .int (nI v)), (0, .ref za), (1, .int (nI i)), (2, .int (nI j))] := hl
      refine lv_aload_n hx hb dX5_apart_80 rfl (lv_at hl 4 rfl) ?_
      refine va_get (D := (dC, dI)) (ci := 5) (v := .ref zc) (C := RX5) (T := TX5) (N := 7) hx hb hts (tb_c tbX5) hown hK hP 0 rfl rfl 4 (by decide) (hw _ tw_119) (fun _ h9 => h9) rfl dX5_apart_81 ?_
      refine lv_iload hx hb dX5_apart_84 (lv_at hl 2 rfl) ?_
      refine lv_iload_n hx hb dX5_apart_86 rfl (lv_at hl 6 rfl) ?_
      refine cx_si (va_runV (As := [.int (nI (on v)), .int (nI j)]) (rest := []) ⟨hx, hb, hml, hown, hts⟩ (c_X2_joins l dC dI kI kL zc zd f n (on v) j (by first | assumption | omega | rfl) (by first | assumption | omega | rfl) (by first | assumption | omega | rfl) (by first | assumption | omega | rfl)) (cwV 2 hts gv_X5_103 rfl rfl rfl hdX2_joins ⟨Nat.le_of_ble_eq_true rfl, Nat.le_of_ble_eq_true rfl⟩) (cx_preV (hP.sub (ws' := [(zc, .inr (2, [.ref zd])), (zd, .inl (kI, 40, .inl (cI f)))]) [2, 3] rfl) hK rfl (q0 := 0) rfl) rfl rfl hl.1 rfl (lv_room (Nat.le_of_ble_eq_true rfl)) dX5_apart_87 ⟨Nat.zero_le _, Nat.zero_le _⟩) (fun r hres => ?_)
      subst hres
      refine cx_if0 (tgt := 110) hx hb dX5_apart_90 (by decide) (fun b4 => ?_) (fun b4 => ?_)
      · skip
        refine lv_iconst (v := nI 0) hx hb dX5_apart_110 (by decide) ?_
        refine lv_istore hx hb dX5_apart_111 hl (by decide) rfl (fun ls hl => ?_)
        have hl : lv_has ls 8 [(7, .int (nI 0)), (6, .int (nI 0)), (5, .int (nI (ot v))), (4, .int (nI (on v))), (3, .int (nI v)), (0, .ref za), (1, .int (nI i)), (2, .int (nI j))] := hl
        refine lv_iload hx hb dX5_apart_113 (lv_at hl 1 rfl) ?_
        refine cx_nne (x := 0) (tgt := 123) hx hb dX5_apart_115 (by decide) (by decide) (fun h9 => absurd h9 (by decide)) (fun _ => ?_)
        refine lv_iload hx hb dX5_apart_118 (lv_at hl 0 rfl) ?_
        refine cx_neq (x := 0) (tgt := 125) hx hb dX5_apart_120 (by decide) (by decide) (fun _ => ?_) (fun h9 => absurd h9 (by decide))
        refine lv_iinc (k := 4) (v := nI (v + 1)) hx hb dX5_apart_125 hl rfl cx_inc1 (by decide) rfl (fun ls hl => ?_)
        have hl : lv_has ls 8 [(3, .int (nI (v + 1))), (7, .int (nI 0)), (6, .int (nI 0)), (5, .int (nI (ot v))), (4, .int (nI (on v))), (0, .ref za), (1, .int (nI i)), (2, .int (nI j))] := hl
        refine lv_goto (tgt := 14) hx hb dX5_apart_128 (by decide) ?_
        exact ih1 (v + 1) _ ⟨lv_sub hl [0, 5, 6, 7] rfl, (by first | assumption | omega | rfl), (cg_sr_s hno (cg_PA_f (by first | exact fun h => of_decide_eq_false b2 h.1 | exact fun h => of_decide_eq_false b3 h.2) (by first | exact fun h => of_decide_eq_false b4 h.1 | exact fun h => of_decide_eq_false b5 h.2)))⟩ (by show d - (v + 1) < d - v; omega)
      refine lv_aload_n hx hb dX5_apart_93 rfl (lv_at hl 4 rfl) ?_
      refine va_get (D := (dC, dI)) (ci := 5) (v := .ref zc) (C := RX5) (T := TX5) (N := 7) hx hb hts (tb_c tbX5) hown hK hP 0 rfl rfl 4 (by decide) (hw _ tw_119) (fun _ h9 => h9) rfl dX5_apart_94 ?_
      refine lv_iload hx hb dX5_apart_97 (lv_at hl 1 rfl) ?_
      refine lv_iload_n hx hb dX5_apart_99 rfl (lv_at hl 5 rfl) ?_
      refine cx_si (va_runV (As := [.int (nI (ot v)), .int (nI i)]) (rest := []) ⟨hx, hb, hml, hown, hts⟩ (c_X2_joins l dC dI kI kL zc zd f n (ot v) i (by first | assumption | omega | rfl) (by first | assumption | omega | rfl) (by first | assumption | omega | rfl) (by first | assumption | omega | rfl)) (cwV 2 hts gv_X5_103 rfl rfl rfl hdX2_joins ⟨Nat.le_of_ble_eq_true rfl, Nat.le_of_ble_eq_true rfl⟩) (cx_preV (hP.sub (ws' := [(zc, .inr (2, [.ref zd])), (zd, .inl (kI, 40, .inl (cI f)))]) [2, 3] rfl) hK rfl (q0 := 0) rfl) rfl rfl hl.1 rfl (lv_room (Nat.le_of_ble_eq_true rfl)) dX5_apart_100 ⟨Nat.zero_le _, Nat.zero_le _⟩) (fun r hres => ?_)
      subst hres
      refine cx_if0 (tgt := 110) hx hb dX5_apart_103 (by decide) (fun b5 => ?_) (fun b5 => ?_)
      · skip
        refine lv_iconst (v := nI 0) hx hb dX5_apart_110 (by decide) ?_
        refine lv_istore hx hb dX5_apart_111 hl (by decide) rfl (fun ls hl => ?_)
        have hl : lv_has ls 8 [(7, .int (nI 0)), (6, .int (nI 0)), (5, .int (nI (ot v))), (4, .int (nI (on v))), (3, .int (nI v)), (0, .ref za), (1, .int (nI i)), (2, .int (nI j))] := hl
        refine lv_iload hx hb dX5_apart_113 (lv_at hl 1 rfl) ?_
        refine cx_nne (x := 0) (tgt := 123) hx hb dX5_apart_115 (by decide) (by decide) (fun h9 => absurd h9 (by decide)) (fun _ => ?_)
        refine lv_iload hx hb dX5_apart_118 (lv_at hl 0 rfl) ?_
        refine cx_neq (x := 0) (tgt := 125) hx hb dX5_apart_120 (by decide) (by decide) (fun _ => ?_) (fun h9 => absurd h9 (by decide))
        refine lv_iinc (k := 4) (v := nI (v + 1)) hx hb dX5_apart_125 hl rfl cx_inc1 (by decide) rfl (fun ls hl => ?_)
        have hl : lv_has ls 8 [(3, .int (nI (v + 1))), (7, .int (nI 0)), (6, .int (nI 0)), (5, .int (nI (ot v))), (4, .int (nI (on v))), (0, .ref za), (1, .int (nI i)), (2, .int (nI j))] := hl
        refine lv_goto (tgt := 14) hx hb dX5_apart_128 (by decide) ?_
        exact ih1 (v + 1) _ ⟨lv_sub hl [0, 5, 6, 7] rfl, (by first | assumption | omega | rfl), (cg_sr_s hno (cg_PA_f (by first | exact fun h => of_decide_eq_false b2 h.1 | exact fun h => of_decide_eq_false b3 h.2) (by first | exact fun h => of_decide_eq_false b4 h.1 | exact fun h => of_decide_eq_false b5 h.2)))⟩ (by show d - (v + 1) < d - v; omega)
      refine lv_iconst (v := nI 1) hx hb dX5_apart_106 (by decide) ?_
      refine lv_goto (tgt := 111) hx hb dX5_apart_107 (by decide) ?_
      refine lv_istore hx hb dX5_apart_111 hl (by decide) rfl (fun ls hl => ?_)
      have hl : lv_has ls 8 [(7, .int (nI 1)), (6, .int (nI 0)), (5, .int (nI (ot v))), (4, .int (nI (on v))), (3, .int (nI v)), (0, .ref za), (1, .int (nI i)), (2, .int (nI j))] := hl
      refine lv_iload hx hb dX5_apart_113 (lv_at hl 1 rfl) ?_
      refine cx_nne (x := 0) (tgt := 123) hx hb dX5_apart_115 (by decide) (by decide) (fun h9 => absurd h9 (by decide)) (fun _ => ?_)
      refine lv_iload hx hb dX5_apart_118 (lv_at hl 0 rfl) ?_
      refine cx_neq (x := 1) (tgt := 125) hx hb dX5_apart_120 (by decide) (by decide) (fun h9 => absurd h9 (by decide)) (fun _ => ?_)
      refine lv_iconst (v := nI 1) hx hb dX5_apart_123 (by decide) ?_
      exact W.iret (v := nI 1) hx hb hr (fun t ht hW => ⟨_, rfl, an_apart_y qn hi hj hno (by first | exact cg_PA_t (Or.inl ⟨of_decide_eq_true b2, of_decide_eq_true b3⟩) | exact cg_PA_t (Or.inr ⟨of_decide_eq_true b4, of_decide_eq_true b5⟩)) b1, ht⟩) (fun _ h9 => by cases h9) dX5_apart_124
    refine lv_iconst (v := nI 1) hx hb dX5_apart_73 (by decide) ?_
    refine lv_goto (tgt := 78) hx hb dX5_apart_74 (by decide) ?_
    refine lv_istore hx hb dX5_apart_78 hl (by decide) rfl (fun ls hl => ?_)
    have hl : lv_has ls 8 [(6, .int (nI 1)), (5, .int (nI (ot v))), (4, .int (nI (on v))), (3, .int (nI v)), (0, .ref za), (1, .int (nI i)), (2, .int (nI j))] := hl
    refine lv_aload_n hx hb dX5_apart_80 rfl (lv_at hl 4 rfl) ?_
    refine va_get (D := (dC, dI)) (ci := 5) (v := .ref zc) (C := RX5) (T := TX5) (N := 7) hx hb hts (tb_c tbX5) hown hK hP 0 rfl rfl 4 (by decide) (hw _ tw_119) (fun _ h9 => h9) rfl dX5_apart_81 ?_
    refine lv_iload hx hb dX5_apart_84 (lv_at hl 2 rfl) ?_
    refine lv_iload_n hx hb dX5_apart_86 rfl (lv_at hl 6 rfl) ?_
    refine cx_si (va_runV (As := [.int (nI (on v)), .int (nI j)]) (rest := []) ⟨hx, hb, hml, hown, hts⟩ (c_X2_joins l dC dI kI kL zc zd f n (on v) j (by first | assumption | omega | rfl) (by first | assumption | omega | rfl) (by first | assumption | omega | rfl) (by first | assumption | omega | rfl)) (cwV 2 hts gv_X5_103 rfl rfl rfl hdX2_joins ⟨Nat.le_of_ble_eq_true rfl, Nat.le_of_ble_eq_true rfl⟩) (cx_preV (hP.sub (ws' := [(zc, .inr (2, [.ref zd])), (zd, .inl (kI, 40, .inl (cI f)))]) [2, 3] rfl) hK rfl (q0 := 0) rfl) rfl rfl hl.1 rfl (lv_room (Nat.le_of_ble_eq_true rfl)) dX5_apart_87 ⟨Nat.zero_le _, Nat.zero_le _⟩) (fun r hres => ?_)
    subst hres
    refine cx_if0 (tgt := 110) hx hb dX5_apart_90 (by decide) (fun b4 => ?_) (fun b4 => ?_)
    · skip
      refine lv_iconst (v := nI 0) hx hb dX5_apart_110 (by decide) ?_
      refine lv_istore hx hb dX5_apart_111 hl (by decide) rfl (fun ls hl => ?_)
      have hl : lv_has ls 8 [(7, .int (nI 0)), (6, .int (nI 1)), (5, .int (nI (ot v))), (4, .int (nI (on v))), (3, .int (nI v)), (0, .ref za), (1, .int (nI i)), (2, .int (nI j))] := hl
      refine lv_iload hx hb dX5_apart_113 (lv_at hl 1 rfl) ?_
      refine cx_nne (x := 1) (tgt := 123) hx hb dX5_apart_115 (by decide) (by decide) (fun _ => ?_) (fun h9 => absurd h9 (by decide))
      refine lv_iconst (v := nI 1) hx hb dX5_apart_123 (by decide) ?_
      exact W.iret (v := nI 1) hx hb hr (fun t ht hW => ⟨_, rfl, an_apart_y qn hi hj hno (by first | exact cg_PA_t (Or.inl ⟨of_decide_eq_true b2, of_decide_eq_true b3⟩) | exact cg_PA_t (Or.inr ⟨of_decide_eq_true b4, of_decide_eq_true b5⟩)) b1, ht⟩) (fun _ h9 => by cases h9) dX5_apart_124
    refine lv_aload_n hx hb dX5_apart_93 rfl (lv_at hl 4 rfl) ?_
    refine va_get (D := (dC, dI)) (ci := 5) (v := .ref zc) (C := RX5) (T := TX5) (N := 7) hx hb hts (tb_c tbX5) hown hK hP 0 rfl rfl 4 (by decide) (hw _ tw_119) (fun _ h9 => h9) rfl dX5_apart_94 ?_
    refine lv_iload hx hb dX5_apart_97 (lv_at hl 1 rfl) ?_
    refine lv_iload_n hx hb dX5_apart_99 rfl (lv_at hl 5 rfl) ?_
    refine cx_si (va_runV (As := [.int (nI (ot v)), .int (nI i)]) (rest := []) ⟨hx, hb, hml, hown, hts⟩ (c_X2_joins l dC dI kI kL zc zd f n (ot v) i (by first | assumption | omega | rfl) (by first | assumption | omega | rfl) (by first | assumption | omega | rfl) (by first | assumption | omega | rfl)) (cwV 2 hts gv_X5_103 rfl rfl rfl hdX2_joins ⟨Nat.le_of_ble_eq_true rfl, Nat.le_of_ble_eq_true rfl⟩) (cx_preV (hP.sub (ws' := [(zc, .inr (2, [.ref zd])), (zd, .inl (kI, 40, .inl (cI f)))]) [2, 3] rfl) hK rfl (q0 := 0) rfl) rfl rfl hl.1 rfl (lv_room (Nat.le_of_ble_eq_true rfl)) dX5_apart_100 ⟨Nat.zero_le _, Nat.zero_le _⟩) (fun r hres => ?_)
    subst hres
    refine cx_if0 (tgt := 110) hx hb dX5_apart_103 (by decide) (fun b5 => ?_) (fun b5 => ?_)
    · skip
      refine lv_iconst (v := nI 0) hx hb dX5_apart_110 (by decide) ?_
      refine lv_istore hx hb dX5_apart_111 hl (by decide) rfl (fun ls hl => ?_)
      have hl : lv_has ls 8 [(7, .int (nI 0)), (6, .int (nI 1)), (5, .int (nI (ot v))), (4, .int (nI (on v))), (3, .int (nI v)), (0, .ref za), (1, .int (nI i)), (2, .int (nI j))] := hl
      refine lv_iload hx hb dX5_apart_113 (lv_at hl 1 rfl) ?_
      refine cx_nne (x := 1) (tgt := 123) hx hb dX5_apart_115 (by decide) (by decide) (fun _ => ?_) (fun h9 => absurd h9 (by decide))
      refine lv_iconst (v := nI 1) hx hb dX5_apart_123 (by decide) ?_
      exact W.iret (v := nI 1) hx hb hr (fun t ht hW => ⟨_, rfl, an_apart_y qn hi hj hno (by first | exact cg_PA_t (Or.inl ⟨of_decide_eq_true b2, of_decide_eq_true b3⟩) | exact cg_PA_t (Or.inr ⟨of_decide_eq_true b4, of_decide_eq_true b5⟩)) b1, ht⟩) (fun _ h9 => by cases h9) dX5_apart_124
    refine lv_iconst (v := nI 1) hx hb dX5_apart_106 (by decide) ?_
    refine lv_goto (tgt := 111) hx hb dX5_apart_107 (by decide) ?_
    refine lv_istore hx hb dX5_apart_111 hl (by decide) rfl (fun ls hl => ?_)
    have hl : lv_has ls 8 [(7, .int (nI 1)), (6, .int (nI 1)), (5, .int (nI (ot v))), (4, .int (nI (on v))), (3, .int (nI v)), (0, .ref za), (1, .int (nI i)), (2, .int (nI j))] := hl
    refine lv_iload hx hb dX5_apart_113 (lv_at hl 1 rfl) ?_
    refine cx_nne (x := 1) (tgt := 123) hx hb dX5_apart_115 (by decide) (by decide) (fun _ => ?_) (fun h9 => absurd h9 (by decide))
    refine lv_iconst (v := nI 1) hx hb dX5_apart_123 (by decide) ?_
    exact W.iret (v := nI 1) hx hb hr (fun t ht hW => ⟨_, rfl, an_apart_y qn hi hj hno (by first | exact cg_PA_t (Or.inl ⟨of_decide_eq_true b2, of_decide_eq_true b3⟩) | exact cg_PA_t (Or.inr ⟨of_decide_eq_true b4, of_decide_eq_true b5⟩)) b1, ht⟩) (fun _ h9 => by cases h9) dX5_apart_124
  refine lv_bipush (v := (-2)) hx hb dX5_apart_9 (by decide) ?_
  exact W.iret (v := (-2)) hx hb hr (fun t ht hW => ⟨_, rfl, an_apart_b (of_decide_eq_false b0), ht⟩) (fun _ h9 => by cases h9) dX5_apart_11

set_option maxHeartbeats 4000000 in
set_option maxRecDepth 100000 in
theorem c_X5_consistent (l : Launch) (dC : Nat → ClassId) (dI : Nat → Nat → Nat) (kI kL : ClassId) (za : Nat) (zt : Nat) (zp : Nat) (zq : Nat) (zv : Nat) (zc : Nat) (zx : Nat) (zw : Nat) (zd : Nat) (f : Nat → Nat) (zo : Nat) (zu : Nat) (d : Nat) (on : Nat → Nat) (ot : Nat → Nat) (n : Nat) (qn : n ≤ 40) (hB : ∀ u, u < n → f u < n) (qd : d ≤ 16) (qo : cg_we n on ot d) : Met l yX5_consistent (.code yX5_consistent cX5_consistent 2 (some .boolean) :: tbw) { frames := 1, cells := 0, slots := 0, locals := 22 } (va_Pc [.ref za] (cx_R (dC, dI) vwCl [(za, .inr (5, [.ref zt, .ref zp, .ref zq, .ref zv, .ref zc, .ref zx, .ref zw])), (zc, .inr (2, [.ref zd])), (zd, .inl (kI, 40, .inl (cI f))), (zq, .inr (1, [.ref zo, .ref zu, .int (nI d)])), (zo, .inl (kI, 16, .inl (cI on))), (zu, .inl (kI, 16, .inl (cI ot)))] [(kI, .int), (kL, .long)])) (vp_Si (fun r => r = bI (an_cons d f on ot))) 0 0 (fun _ => False) := by
  refine Met.ofW (cc := cX5_consistent) (maxL := 2) (ret := (some .boolean)) (by decide) rfl ?_
  intro p e s m args below meth c s₁ B hml hv
  obtain ⟨rfl, hP, hK⟩ := hv
  have hx := B.exec
  have hb := B.bytes
  have hr := B.returns
  have hts := atoms_spec (ws := .code yX5_consistent cX5_consistent 2 (some .boolean) :: tbw) B.pre
  have hw : ∀ w ∈ tbw, w.before _ s = true := fun w h => hts w (List.mem_cons_of_mem _ h)
  have hown : s.vm.findClass RX5 = some m.cls := findClass_of_methodNamed B.named
  have hP : va_P (dC, dI) vwCl [(za, .inr (5, [.ref zt, .ref zp, .ref zq, .ref zv, .ref zc, .ref zx, .ref zw])), (zc, .inr (2, [.ref zd])), (zd, .inl (kI, 40, .inl (cI f))), (zq, .inr (1, [.ref zo, .ref zu, .int (nI d)])), (zo, .inl (kI, 16, .inl (cI on))), (zu, .inl (kI, 16, .inl (cI ot)))] s.heap := hP
  have hl := lv_entry ([.ref za]) (n := 2) (Nat.le_of_ble_eq_true rfl)
  rw [lg_entry_eq]
  generalize (lg_sl ([.ref za]) ++ List.replicate (2 - (lg_sl ([.ref za])).length) Slot.unset).toArray = ls at hl ⊢
  have hl : lv_has ls 2 [(0, .ref za)] := hl
  refine lv_iconst (v := nI 0) hx hb dX5_consistent_0 (by decide) ?_
  refine lv_istore_n hx hb dX5_consistent_1 rfl hl (by decide) rfl (fun ls hl => ?_)
  have hl : lv_has ls 2 [(1, .int (nI 0)), (0, .ref za)] := hl
  refine cx_loopR1 (fun (v : Nat) (ls : Array Slot) => lv_has ls 2 [(1, .int (nI v)), (0, .ref za)] ∧ (v ≤ d) ∧ (∀ u, u < v → cg_PC f on ot u = false)) (fun v => d - v) (fun v ls hI ih1 => ?_) 0 ⟨lv_sub hl [0, 1] rfl, (by first | assumption | omega | rfl), (fun u h => absurd h (Nat.not_lt_zero u))⟩
  obtain ⟨hl, hv1, hno⟩ := hI
  refine lv_iload_n hx hb dX5_consistent_2 rfl (lv_at hl 0 rfl) ?_
  refine lv_aload_n hx hb dX5_consistent_3 rfl (lv_at hl 1 rfl) ?_
  refine va_get (D := (dC, dI)) (ci := 5) (v := .ref zq) (C := RX5) (T := TX5) (N := 7) hx hb hts (tb_c tbX5) hown hK hP 0 rfl rfl 2 (by decide) (hw _ tw_117) (fun _ h9 => h9) rfl dX5_consistent_4 ?_
  refine va_get (D := (dC, dI)) (ci := 1) (v := .int (nI d)) (C := RX1) (T := TX1) (N := 3) hx hb hts (tb_c tbX1) hown hK hP 3 rfl rfl 2 (by decide) (hw _ tw_60) (fun _ h9 => h9) rfl dX5_consistent_7 ?_
  refine cx_ge (x := v) (y := d) (tgt := 49) hx hb dX5_consistent_10 (by decide) (by first | omega | exact hB _ (by omega) | exact Nat.lt_of_lt_of_le (hB _ (by omega)) (by omega)) (by first | omega | exact hB _ (by omega) | exact Nat.lt_of_lt_of_le (hB _ (by omega)) (by omega)) (fun b0 => ?_) (fun b0 => ?_)
  · skip
    refine lv_iconst (v := nI 1) hx hb dX5_consistent_49 (by decide) ?_
    exact W.zret (v := nI 1) hx hb hr (cx_narB true) (fun t ht hW => ⟨_, rfl, an_cons_y hno b0, ht⟩) (fun _ h9 => by cases h9) dX5_consistent_50
  have e1 := qo v b0
  refine lv_aload_n hx hb dX5_consistent_13 rfl (lv_at hl 1 rfl) ?_
  refine va_get (D := (dC, dI)) (ci := 5) (v := .ref zc) (C := RX5) (T := TX5) (N := 7) hx hb hts (tb_c tbX5) hown hK hP 0 rfl rfl 4 (by decide) (hw _ tw_119) (fun _ h9 => h9) rfl dX5_consistent_14 ?_
  refine lv_aload_n hx hb dX5_consistent_17 rfl (lv_at hl 1 rfl) ?_
  refine va_get (D := (dC, dI)) (ci := 5) (v := .ref zq) (C := RX5) (T := TX5) (N := 7) hx hb hts (tb_c tbX5) hown hK hP 0 rfl rfl 2 (by decide) (hw _ tw_117) (fun _ h9 => h9) rfl dX5_consistent_18 ?_
  refine va_get (D := (dC, dI)) (ci := 1) (v := .ref zo) (C := RX1) (T := TX1) (N := 3) hx hb hts (tb_c tbX1) hown hK hP 3 rfl rfl 0 (by decide) (hw _ tw_55) (fun _ h9 => h9) rfl dX5_consistent_21 ?_
  refine lv_iload_n hx hb dX5_consistent_24 rfl (lv_at hl 0 rfl) ?_
  refine cx_iald hx hb hK hP 4 0 rfl rfl (by first | decide | omega) (v := nI (on v)) (i := v) rfl (by first | omega | exact hB _ (by omega) | exact Nat.lt_of_lt_of_le (hB _ (by omega)) (by omega)) dX5_consistent_25 ?_
  refine lv_aload_n hx hb dX5_consistent_26 rfl (lv_at hl 1 rfl) ?_
  refine va_get (D := (dC, dI)) (ci := 5) (v := .ref zq) (C := RX5) (T := TX5) (N := 7) hx hb hts (tb_c tbX5) hown hK hP 0 rfl rfl 2 (by decide) (hw _ tw_117) (fun _ h9 => h9) rfl dX5_consistent_27 ?_
  refine va_get (D := (dC, dI)) (ci := 1) (v := .ref zu) (C := RX1) (T := TX1) (N := 3) hx hb hts (tb_c tbX1) hown hK hP 3 rfl rfl 1 (by decide) (hw _ tw_58) (fun _ h9 => h9) rfl dX5_consistent_30 ?_
  refine lv_iload_n hx hb dX5_consistent_33 rfl (lv_at hl 0 rfl) ?_
  refine cx_iald hx hb hK hP 5 0 rfl rfl (by first | decide | omega) (v := nI (ot v)) (i := v) rfl (by first | omega | exact hB _ (by omega) | exact Nat.lt_of_lt_of_le (hB _ (by omega)) (by omega)) dX5_consistent_34 ?_
  refine cx_si (va_runV (As := [.int (nI (on v)), .int (nI (ot v))]) (rest := []) ⟨hx, hb, hml, hown, hts⟩ (c_X2_joins l dC dI kI kL zc zd f n (on v) (ot v) (by first | assumption | omega | rfl) (by first | assumption | omega | rfl) (by first | assumption | omega | rfl) (by first | assumption | omega | rfl)) (cwV 2 hts gv_X5_103 rfl rfl rfl hdX2_joins ⟨Nat.le_of_ble_eq_true rfl, Nat.le_of_ble_eq_true rfl⟩) (cx_preV (hP.sub (ws' := [(zc, .inr (2, [.ref zd])), (zd, .inl (kI, 40, .inl (cI f)))]) [1, 2] rfl) hK rfl (q0 := 0) rfl) rfl rfl hl.1 rfl (lv_room (Nat.le_of_ble_eq_true rfl)) dX5_consistent_35 ⟨Nat.zero_le _, Nat.zero_le _⟩) (fun r hres => ?_)
  subst hres
  refine cx_if0 (tgt := 43) hx hb dX5_consistent_38 (by decide) (fun b1 => ?_) (fun b1 => ?_)
  · skip
    refine lv_iinc (k := 0) (v := nI (v + 1)) hx hb dX5_consistent_43 hl rfl cx_inc1 (by decide) rfl (fun ls hl => ?_)
    have hl : lv_has ls 2 [(1, .int (nI (v + 1))), (0, .ref za)] := hl
    refine lv_goto (tgt := 2) hx hb dX5_consistent_46 (by decide) ?_
    exact ih1 (v + 1) _ ⟨lv_sub hl [0, 1] rfl, (by first | assumption | omega | rfl), (cg_sr_s hno b1)⟩ (by show d - (v + 1) < d - v; omega)
  refine lv_iconst (v := nI 0) hx hb dX5_consistent_41 (by decide) ?_
  exact W.zret (v := nI 0) hx hb hr (cx_narB false) (fun t ht hW => ⟨_, rfl, an_cons_n hno b1 b0, ht⟩) (fun _ h9 => by cases h9) dX5_consistent_42

set_option maxHeartbeats 4000000 in
set_option maxRecDepth 100000 in
theorem c_X5_leader (l : Launch) (dC : Nat → ClassId) (dI : Nat → Nat → Nat) (kI kL : ClassId) (za : Nat) (zt : Nat) (zp : Nat) (zq : Nat) (zv : Nat) (zc : Nat) (zx : Nat) (zw : Nat) (zs : Nat) (zf : Nat) (ze : Nat) (n : Nat) (zd : Nat) (f : Nat → Nat) (x : Int32) (qn : n ≤ 40) (hB : ∀ u, u < n → f u < n) : Met l yX5_leader (.code yX5_leader cX5_leader 2 (some .int) :: tbw) { frames := 1, cells := 0, slots := 0, locals := 21 } (va_Pc [.ref za, .int x] (cx_R (dC, dI) vwCl [(za, .inr (5, [.ref zt, .ref zp, .ref zq, .ref zv, .ref zc, .ref zx, .ref zw])), (zt, .inr (3, [.ref zs, .ref zf, .ref ze, .int (nI n)])), (zc, .inr (2, [.ref zd])), (zd, .inl (kI, 40, .inl (cI f)))] [(kI, .int), (kL, .long)])) (vp_Si (fun r => r = (an_leader n f x))) 0 0 (fun _ => False) := by
  refine Met.ofW (cc := cX5_leader) (maxL := 2) (ret := (some .int)) (by decide) rfl ?_
  intro p e s m args below meth c s₁ B hml hv
  obtain ⟨rfl, hP, hK⟩ := hv
  have hx := B.exec
  have hb := B.bytes
  have hr := B.returns
  have hts := atoms_spec (ws := .code yX5_leader cX5_leader 2 (some .int) :: tbw) B.pre
  have hw : ∀ w ∈ tbw, w.before _ s = true := fun w h => hts w (List.mem_cons_of_mem _ h)
  have hown : s.vm.findClass RX5 = some m.cls := findClass_of_methodNamed B.named
  have hP : va_P (dC, dI) vwCl [(za, .inr (5, [.ref zt, .ref zp, .ref zq, .ref zv, .ref zc, .ref zx, .ref zw])), (zt, .inr (3, [.ref zs, .ref zf, .ref ze, .int (nI n)])), (zc, .inr (2, [.ref zd])), (zd, .inl (kI, 40, .inl (cI f)))] s.heap := hP
  have hl := lv_entry ([.ref za, .int x]) (n := 2) (Nat.le_of_ble_eq_true rfl)
  rw [lg_entry_eq]
  generalize (lg_sl ([.ref za, .int x]) ++ List.replicate (2 - (lg_sl ([.ref za, .int x])).length) Slot.unset).toArray = ls at hl ⊢
  have hl : lv_has ls 2 [(0, .ref za), (1, .int x)] := hl
  refine lv_aload_n hx hb dX5_leader_0 rfl (lv_at hl 0 rfl) ?_
  refine lv_iload_n hx hb dX5_leader_1 rfl (lv_at hl 1 rfl) ?_
  refine cx_si (va_runV (As := [.int x]) (rest := []) ⟨hx, hb, hml, hown, hts⟩ (c_X5_isTerm l dC dI kI kL za zt zp zq zv zc zx zw zs zf ze n x ) (cwV 1 hts gv_X5_112 rfl rfl rfl hdX5_isTerm ⟨Nat.le_of_ble_eq_true rfl, Nat.le_of_ble_eq_true rfl⟩) (cx_preV (hP.sub (ws' := [(za, .inr (5, [.ref zt, .ref zp, .ref zq, .ref zv, .ref zc, .ref zx, .ref zw])), (zt, .inr (3, [.ref zs, .ref zf, .ref ze, .int (nI n)]))]) [0, 1] rfl) hK rfl (q0 := 0) rfl) rfl rfl hl.1 rfl (lv_room (Nat.le_of_ble_eq_true rfl)) dX5_leader_2 ⟨Nat.zero_le _, Nat.zero_le _⟩) (fun r hres => ?_)
  subst hres
  refine cx_if0 (tgt := 20) hx hb dX5_leader_5 (by decide) (fun b0 => ?_) (fun b0 => ?_)
  · skip
    refine lv_bipush (v := (-2)) hx hb dX5_leader_20 (by decide) ?_
    exact W.iret (v := (-2)) hx hb hr (fun t ht hW => ⟨_, rfl, an_leader_b (of_decide_eq_false b0), ht⟩) (fun _ h9 => by cases h9) dX5_leader_22
  have hT := of_decide_eq_true b0
  obtain ⟨i, hi, rfl⟩ := cx_T_x qn hT
  refine lv_aload_n hx hb dX5_leader_8 rfl (lv_at hl 0 rfl) ?_
  refine va_get (D := (dC, dI)) (ci := 5) (v := .ref zc) (C := RX5) (T := TX5) (N := 7) hx hb hts (tb_c tbX5) hown hK hP 0 rfl rfl 4 (by decide) (hw _ tw_119) (fun _ h9 => h9) rfl dX5_leader_9 ?_
  refine va_get (D := (dC, dI)) (ci := 2) (v := .ref zd) (C := RX2) (T := TX2) (N := 1) hx hb hts (tb_c tbX2) hown hK hP 2 rfl rfl 0 (by decide) (hw _ tw_100) (fun _ h9 => h9) rfl dX5_leader_12 ?_
  refine lv_iload_n hx hb dX5_leader_15 rfl (lv_at hl 1 rfl) ?_
  refine cx_iald hx hb hK hP 3 0 rfl rfl (by first | decide | omega) (v := nI (f i)) (i := i) rfl (by first | omega | exact hB _ (by omega) | exact Nat.lt_of_lt_of_le (hB _ (by omega)) (by omega)) dX5_leader_16 ?_
  refine lv_goto (tgt := 22) hx hb dX5_leader_17 (by decide) ?_
  exact W.iret (v := nI (f i)) hx hb hr (fun t ht hW => ⟨_, rfl, an_leader_y qn hi, ht⟩) (fun _ h9 => by cases h9) dX5_leader_22
