set_option maxHeartbeats 4000000 in
set_option maxRecDepth 100000 in
theorem c_X6_close (l : Launch) (dC : Nat → ClassId) (dI : Nat → Nat → Nat) (kI kL : ClassId) (ma : Nat) (m1 : Nat) (m2 : Nat) (m3 : Nat) (m4 : Nat) (m5 : Nat) (m6 : Nat) (m7 : Nat) (m8 : Nat) (m9 : Nat) (mA : Nat) (mB : Nat) (mC : Nat) (n : Nat) (k : Nat) (d : Nat) (dp : Nat) (ct : Nat → Nat) (st : Nat → Nat) (dt : Nat → Nat) (qd : dp ≤ 6) (sz : Nat) : Met l yX6_close (.code yX6_close cX6_close 1 (some .int) :: tbw) { frames := 0, cells := 0, slots := 0, locals := 0 } (va_Pc [.ref ma] (cx_M (dC, dI) vwCl [(ma, .inr (6, [.int (nI n), .ref m1, .ref m2, .ref m3, .int (nI k), .ref m4, .ref m5, .int (nI d), .ref m6, .ref m7, .int (nI dp), .ref m8, .ref m9, .ref mA, .ref mB, .ref mC])), (m8, .inl (kI, 6, .inl (cI ct))), (m9, .inl (kI, 6, .inl (cI st))), (mA, .inl (kI, 6, .inl (cI dt)))] [(kI, .int), (kL, .long)] sz)) (va_Qi (fun (r : Int32) (u : Nat × Nat × Nat × Nat) => (r = (an_close dp)) ∧ (u = st_close n k d dp ct st dt)) (cx_B (dC, dI) vwCl (va_A [(ma, .inr (6, [.int (nI n), .ref m1, .ref m2, .ref m3, .int (nI k), .ref m4, .ref m5, .int (nI d), .ref m6, .ref m7, .int (nI dp), .ref m8, .ref m9, .ref mA, .ref mB, .ref mC])), (m8, .inl (kI, 6, .inl (cI ct))), (m9, .inl (kI, 6, .inl (cI st))), (mA, .inl (kI, 6, .inl (cI dt)))] sz) (fun u : Nat × Nat × Nat × Nat => [(ma, .inr (6, [.int (nI u.1), .ref m1, .ref m2, .ref m3, .int (nI u.2.1), .ref m4, .ref m5, .int (nI u.2.2.1), .ref m6, .ref m7, .int (nI u.2.2.2), .ref m8, .ref m9, .ref mA, .ref mB, .ref mC])), (m8, .inl (kI, 6, .inl (cI ct))), (m9, .inl (kI, 6, .inl (cI st))), (mA, .inl (kI, 6, .inl (cI dt)))])) (va_A [(ma, .inr (6, [.int (nI n), .ref m1, .ref m2, .ref m3, .int (nI k), .ref m4, .ref m5, .int (nI d), .ref m6, .ref m7, .int (nI dp), .ref m8, .ref m9, .ref mA, .ref mB, .ref mC])), (m8, .inl (kI, 6, .inl (cI ct))), (m9, .inl (kI, 6, .inl (cI st))), (mA, .inl (kI, 6, .inl (cI dt)))] sz)) 0 0 (va_A [(ma, .inr (6, [.int (nI n), .ref m1, .ref m2, .ref m3, .int (nI k), .ref m4, .ref m5, .int (nI d), .ref m6, .ref m7, .int (nI dp), .ref m8, .ref m9, .ref mA, .ref mB, .ref mC])), (m8, .inl (kI, 6, .inl (cI ct))), (m9, .inl (kI, 6, .inl (cI st))), (mA, .inl (kI, 6, .inl (cI dt)))] sz) := by
  refine Met.ofW (cc := cX6_close) (maxL := 1) (ret := (some .int)) (by decide) rfl ?_
  intro p e s m args below meth c s₁ B hml hv
  obtain ⟨rfl, hsz, hP, hK, hD0⟩ := hv
  have hx := B.exec
  have hb := B.bytes
  have hr := B.returns
  have hts := atoms_spec (ws := .code yX6_close cX6_close 1 (some .int) :: tbw) B.pre
  have hw : ∀ w ∈ tbw, w.before _ s = true := fun w h => hts w (List.mem_cons_of_mem _ h)
  have hown : s.vm.findClass RX6 = some m.cls := findClass_of_methodNamed B.named
  subst hsz
  have hD := hD0.self (sz := s.heap.size)
  generalize hAe : va_A [(ma, .inr (6, [.int (nI n), .ref m1, .ref m2, .ref m3, .int (nI k), .ref m4, .ref m5, .int (nI d), .ref m6, .ref m7, .int (nI dp), .ref m8, .ref m9, .ref mA, .ref mB, .ref mC])), (m8, .inl (kI, 6, .inl (cI ct))), (m9, .inl (kI, 6, .inl (cI st))), (mA, .inl (kI, 6, .inl (cI dt)))] s.heap.size = AA at hD ⊢
  have hA : ∀ q : Nat, s.heap.size ≤ q → AA q := fun q h => by rw [← hAe]; exact Or.inr h
  have hS : va_S AA s.heap s.heap [] := va_S.rf
  have hP : va_P (dC, dI) vwCl [(ma, .inr (6, [.int (nI n), .ref m1, .ref m2, .ref m3, .int (nI k), .ref m4, .ref m5, .int (nI d), .ref m6, .ref m7, .int (nI dp), .ref m8, .ref m9, .ref mA, .ref mB, .ref mC])), (m8, .inl (kI, 6, .inl (cI ct))), (m9, .inl (kI, 6, .inl (cI st))), (mA, .inl (kI, 6, .inl (cI dt)))] s.heap := hP
  have hl := lv_entry ([.ref ma]) (n := 1) (Nat.le_of_ble_eq_true rfl)
  rw [lg_entry_eq]
  generalize (lg_sl ([.ref ma]) ++ List.replicate (1 - (lg_sl ([.ref ma])).length) Slot.unset).toArray = ls at hl ⊢
  have hl : lv_has ls 1 [(0, .ref ma)] := hl
  refine lv_aload_n hx hb dX6_close_0 rfl (lv_at hl 0 rfl) ?_
  refine va_get (D := (dC, dI)) (ci := 6) (v := .int (nI dp)) (C := RX6) (T := TX6) (N := 16) hx hb hts (tb_c tbX6) hown hK hP 0 rfl rfl 10 (by decide) (hw _ tw_351) (fun _ h9 => h9) rfl dX6_close_1 ?_
  refine cx_nne (x := dp) (tgt := 9) hx hb dX6_close_4 (by decide) (by first | omega | exact hB _ (by omega) | exact Nat.lt_of_lt_of_le (hB _ (by omega)) (by omega)) (fun b0 => ?_) (fun b0 => ?_)
  · skip
    refine lv_aload_n hx hb dX6_close_9 rfl (lv_at hl 0 rfl) ?_
    refine lv_dup hx hb dX6_close_10 rfl ?_
    refine va_get (D := (dC, dI)) (ci := 6) (v := .int (nI dp)) (C := RX6) (T := TX6) (N := 16) hx hb hts (tb_c tbX6) hown hK hP 0 rfl rfl 10 (by decide) (hw _ tw_351) (fun _ h9 => h9) rfl dX6_close_11 ?_
    refine lv_iconst (v := nI 1) hx hb dX6_close_14 (by decide) ?_
    refine cx_isub hx hb dX6_close_15 (by omega) ?_
    refine va_put (D := (dC, dI)) (ci := 6) (v := .int (nI (dp - 1))) (ty := .int) (C := RX6) (T := TX6) (N := 16) hx hb hts (tb_c tbX6) tyX6 tyX6_ok nmX6 hown hK hP hD hS 0 rfl rfl 10 (by decide) (hw _ tw_351) (fun _ h9 => h9) rfl (by decide +kernel) rfl rfl (Nat.le_of_ble_eq_true rfl) dX6_close_16 (fun H locs hP hD hS => ?_)
    have hP : va_P (dC, dI) vwCl [(ma, .inr (6, [.int (nI n), .ref m1, .ref m2, .ref m3, .int (nI k), .ref m4, .ref m5, .int (nI d), .ref m6, .ref m7, .int (nI (dp - 1)), .ref m8, .ref m9, .ref mA, .ref mB, .ref mC])), (m8, .inl (kI, 6, .inl (cI ct))), (m9, .inl (kI, 6, .inl (cI st))), (mA, .inl (kI, 6, .inl (cI dt)))] H := hP
    have hD : va_D AA [(ma, .inr (6, [.int (nI n), .ref m1, .ref m2, .ref m3, .int (nI k), .ref m4, .ref m5, .int (nI d), .ref m6, .ref m7, .int (nI (dp - 1)), .ref m8, .ref m9, .ref mA, .ref mB, .ref mC])), (m8, .inl (kI, 6, .inl (cI ct))), (m9, .inl (kI, 6, .inl (cI st))), (mA, .inl (kI, 6, .inl (cI dt)))] := hD
    refine lv_aload_n hx hb dX6_close_19 rfl (lv_at hl 0 rfl) ?_
    refine lv_aload_n hx hb dX6_close_20 rfl (lv_at hl 0 rfl) ?_
    refine va_get (D := (dC, dI)) (ci := 6) (v := .ref m8) (C := RX6) (T := TX6) (N := 16) hx hb hts (tb_c tbX6) hown hK hP 0 rfl rfl 11 (by decide) (hw _ tw_352) (fun _ h9 => h9) rfl dX6_close_21 ?_
    refine lv_aload_n hx hb dX6_close_24 rfl (lv_at hl 0 rfl) ?_
    refine va_get (D := (dC, dI)) (ci := 6) (v := .int (nI (dp - 1))) (C := RX6) (T := TX6) (N := 16) hx hb hts (tb_c tbX6) hown hK hP 0 rfl rfl 10 (by decide) (hw _ tw_351) (fun _ h9 => h9) rfl dX6_close_25 ?_
    refine cx_iald hx hb hK hP 1 0 rfl rfl (by first | decide | omega) (v := nI (ct (dp - 1))) (i := (dp - 1)) rfl (by first | omega | exact hB _ (by omega) | exact Nat.lt_of_lt_of_le (hB _ (by omega)) (by omega)) dX6_close_28 ?_
    refine va_put (D := (dC, dI)) (ci := 6) (v := .int (nI (ct (dp - 1)))) (ty := .int) (C := RX6) (T := TX6) (N := 16) hx hb hts (tb_c tbX6) tyX6 tyX6_ok nmX6 hown hK hP hD hS 0 rfl rfl 0 (by decide) (hw _ tw_341) (fun _ h9 => h9) rfl (by decide +kernel) rfl rfl (Nat.le_of_ble_eq_true rfl) dX6_close_29 (fun H locs hP hD hS => ?_)
    have hP : va_P (dC, dI) vwCl [(ma, .inr (6, [.int (nI (ct (dp - 1))), .ref m1, .ref m2, .ref m3, .int (nI k), .ref m4, .ref m5, .int (nI d), .ref m6, .ref m7, .int (nI (dp - 1)), .ref m8, .ref m9, .ref mA, .ref mB, .ref mC])), (m8, .inl (kI, 6, .inl (cI ct))), (m9, .inl (kI, 6, .inl (cI st))), (mA, .inl (kI, 6, .inl (cI dt)))] H := hP
    have hD : va_D AA [(ma, .inr (6, [.int (nI (ct (dp - 1))), .ref m1, .ref m2, .ref m3, .int (nI k), .ref m4, .ref m5, .int (nI d), .ref m6, .ref m7, .int (nI (dp - 1)), .ref m8, .ref m9, .ref mA, .ref mB, .ref mC])), (m8, .inl (kI, 6, .inl (cI ct))), (m9, .inl (kI, 6, .inl (cI st))), (mA, .inl (kI, 6, .inl (cI dt)))] := hD
    refine lv_aload_n hx hb dX6_close_32 rfl (lv_at hl 0 rfl) ?_
    refine lv_aload_n hx hb dX6_close_33 rfl (lv_at hl 0 rfl) ?_
    refine va_get (D := (dC, dI)) (ci := 6) (v := .ref m9) (C := RX6) (T := TX6) (N := 16) hx hb hts (tb_c tbX6) hown hK hP 0 rfl rfl 12 (by decide) (hw _ tw_353) (fun _ h9 => h9) rfl dX6_close_34 ?_
    refine lv_aload_n hx hb dX6_close_37 rfl (lv_at hl 0 rfl) ?_
    refine va_get (D := (dC, dI)) (ci := 6) (v := .int (nI (dp - 1))) (C := RX6) (T := TX6) (N := 16) hx hb hts (tb_c tbX6) hown hK hP 0 rfl rfl 10 (by decide) (hw _ tw_351) (fun _ h9 => h9) rfl dX6_close_38 ?_
    refine cx_iald hx hb hK hP 2 0 rfl rfl (by first | decide | omega) (v := nI (st (dp - 1))) (i := (dp - 1)) rfl (by first | omega | exact hB _ (by omega) | exact Nat.lt_of_lt_of_le (hB _ (by omega)) (by omega)) dX6_close_41 ?_
    refine va_put (D := (dC, dI)) (ci := 6) (v := .int (nI (st (dp - 1)))) (ty := .int) (C := RX6) (T := TX6) (N := 16) hx hb hts (tb_c tbX6) tyX6 tyX6_ok nmX6 hown hK hP hD hS 0 rfl rfl 4 (by decide) (hw _ tw_345) (fun _ h9 => h9) rfl (by decide +kernel) rfl rfl (Nat.le_of_ble_eq_true rfl) dX6_close_42 (fun H locs hP hD hS => ?_)
    have hP : va_P (dC, dI) vwCl [(ma, .inr (6, [.int (nI (ct (dp - 1))), .ref m1, .ref m2, .ref m3, .int (nI (st (dp - 1))), .ref m4, .ref m5, .int (nI d), .ref m6, .ref m7, .int (nI (dp - 1)), .ref m8, .ref m9, .ref mA, .ref mB, .ref mC])), (m8, .inl (kI, 6, .inl (cI ct))), (m9, .inl (kI, 6, .inl (cI st))), (mA, .inl (kI, 6, .inl (cI dt)))] H := hP
    have hD : va_D AA [(ma, .inr (6, [.int (nI (ct (dp - 1))), .ref m1, .ref m2, .ref m3, .int (nI (st (dp - 1))), .ref m4, .ref m5, .int (nI d), .ref m6, .ref m7, .int (nI (dp - 1)), .ref m8, .ref m9, .ref mA, .ref mB, .ref mC])), (m8, .inl (kI, 6, .inl (cI ct))), (m9, .inl (kI, 6, .inl (cI st))), (mA, .inl (kI, 6, .inl (cI dt)))] := hD
    refine lv_aload_n hx hb dX6_close_45 rfl (lv_at hl 0 rfl) ?_
    refine lv_aload_n hx hb dX6_close_46 rfl (lv_at hl 0 rfl) ?_
    refine va_get (D := (dC, dI)) (ci := 6) (v := .ref mA) (C := RX6) (T := TX6) (N := 16) hx hb hts (tb_c tbX6) hown hK hP 0 rfl rfl 13 (by decide) (hw _ tw_354) (fun _ h9 => h9) rfl dX6_close_47 ?_
    refine lv_aload_n hx hb dX6_close_50 rfl (lv_at hl 0 rfl) ?_
    refine va_get (D := (dC, dI)) (ci := 6) (v := .int (nI (dp - 1))) (C := RX6) (T := TX6) (N := 16) hx hb hts (tb_c tbX6) hown hK hP 0 rfl rfl 10 (by decide) (hw _ tw_351) (fun _ h9 => h9) rfl dX6_close_51 ?_
    refine cx_iald hx hb hK hP 3 0 rfl rfl (by first | decide | omega) (v := nI (dt (dp - 1))) (i := (dp - 1)) rfl (by first | omega | exact hB _ (by omega) | exact Nat.lt_of_lt_of_le (hB _ (by omega)) (by omega)) dX6_close_54 ?_
    refine va_put (D := (dC, dI)) (ci := 6) (v := .int (nI (dt (dp - 1)))) (ty := .int) (C := RX6) (T := TX6) (N := 16) hx hb hts (tb_c tbX6) tyX6 tyX6_ok nmX6 hown hK hP hD hS 0 rfl rfl 7 (by decide) (hw _ tw_348) (fun _ h9 => h9) rfl (by decide +kernel) rfl rfl (Nat.le_of_ble_eq_true rfl) dX6_close_55 (fun H locs hP hD hS => ?_)
    have hP : va_P (dC, dI) vwCl [(ma, .inr (6, [.int (nI (ct (dp - 1))), .ref m1, .ref m2, .ref m3, .int (nI (st (dp - 1))), .ref m4, .ref m5, .int (nI (dt (dp - 1))), .ref m6, .ref m7, .int (nI (dp - 1)), .ref m8, .ref m9, .ref mA, .ref mB, .ref mC])), (m8, .inl (kI, 6, .inl (cI ct))), (m9, .inl (kI, 6, .inl (cI st))), (mA, .inl (kI, 6, .inl (cI dt)))] H := hP
    have hD : va_D AA [(ma, .inr (6, [.int (nI (ct (dp - 1))), .ref m1, .ref m2, .ref m3, .int (nI (st (dp - 1))), .ref m4, .ref m5, .int (nI (dt (dp - 1))), .ref m6, .ref m7, .int (nI (dp - 1)), .ref m8, .ref m9, .ref mA, .ref mB, .ref mC])), (m8, .inl (kI, 6, .inl (cI ct))), (m9, .inl (kI, 6, .inl (cI st))), (mA, .inl (kI, 6, .inl (cI dt)))] := hD
    refine lv_aload_n hx hb dX6_close_58 rfl (lv_at hl 0 rfl) ?_
    refine va_get (D := (dC, dI)) (ci := 6) (v := .int (nI (dp - 1))) (C := RX6) (T := TX6) (N := 16) hx hb hts (tb_c tbX6) hown hK hP 0 rfl rfl 10 (by decide) (hw _ tw_351) (fun _ h9 => h9) rfl dX6_close_59 ?_
    exact W.iret (v := nI (dp - 1)) hx hb hr (fun t ht hW => ⟨⟨_, (ct (dp - 1), st (dp - 1), dt (dp - 1), dp - 1), rfl, ⟨an_close_2 (by omega), st_close_2 (by omega)⟩, by rw [ht]; exact hP, hD⟩, hS.F ht⟩) hS.2.2 dX6_close_62
  refine lv_iconst (v := (-1)) hx hb dX6_close_7 (by decide) ?_
  exact W.iret (v := (-1)) hx hb hr (fun t ht hW => ⟨⟨_, (n, k, d, dp), rfl, ⟨an_close_1 (by omega), st_close_1 (by omega)⟩, by rw [ht]; exact hP, hD⟩, hS.F ht⟩) hS.2.2 dX6_close_8

set_option maxHeartbeats 4000000 in
set_option maxRecDepth 100000 in
theorem c_X6_equal (l : Launch) (dC : Nat → ClassId) (dI : Nat → Nat → Nat) (kI kL : ClassId) (ma : Nat) (m1 : Nat) (m2 : Nat) (m3 : Nat) (m4 : Nat) (m5 : Nat) (m6 : Nat) (m7 : Nat) (m8 : Nat) (m9 : Nat) (mA : Nat) (mB : Nat) (mC : Nat) (n : Nat) (k : Nat) (d : Nat) (dp : Nat) (S : Nat → Int32) (F : Nat → Nat) (E : Nat → Nat) (lf : Nat → Nat) (rt : Nat → Nat) (f : Nat → Nat) (x : Int32) (y : Int32) (qn : n ≤ 40) (qw : cg_wf (S, F, E) n) (qk : k ≤ 24) (qe : cg_we n lf rt k) (sz : Nat) : Met l yX6_equal (.code yX6_equal cX6_equal 3 (some .int) :: tbw) { frames := 5, cells := 0, slots := 0, locals := 111 } (va_Pc [.ref ma, .int x, .int y] (cx_M (dC, dI) vwCl [(ma, .inr (6, [.int (nI n), .ref m1, .ref m2, .ref m3, .int (nI k), .ref m4, .ref m5, .int (nI d), .ref m6, .ref m7, .int (nI dp), .ref m8, .ref m9, .ref mA, .ref mB, .ref mC])), (m1, .inl (kI, 40, .inl S)), (m2, .inl (kI, 40, .inl (cA F))), (m3, .inl (kI, 40, .inl (cA E))), (m4, .inl (kI, 24, .inl (cI lf))), (m5, .inl (kI, 24, .inl (cI rt))), (mB, .inl (kI, 40, .inl (cI f)))] [(kI, .int), (kL, .long)] sz)) (va_Qi (fun (r : Int32) (u : Nat → Nat) => r = (an_equal n (cg_LA S F E n lf rt k) x y)) (cx_B (dC, dI) vwCl (va_A [(ma, .inr (6, [.int (nI n), .ref m1, .ref m2, .ref m3, .int (nI k), .ref m4, .ref m5, .int (nI d), .ref m6, .ref m7, .int (nI dp), .ref m8, .ref m9, .ref mA, .ref mB, .ref mC])), (m1, .inl (kI, 40, .inl S)), (m2, .inl (kI, 40, .inl (cA F))), (m3, .inl (kI, 40, .inl (cA E))), (m4, .inl (kI, 24, .inl (cI lf))), (m5, .inl (kI, 24, .inl (cI rt))), (mB, .inl (kI, 40, .inl (cI f)))] sz) (fun u : Nat → Nat => [(ma, .inr (6, [.int (nI n), .ref m1, .ref m2, .ref m3, .int (nI k), .ref m4, .ref m5, .int (nI d), .ref m6, .ref m7, .int (nI dp), .ref m8, .ref m9, .ref mA, .ref mB, .ref mC])), (m1, .inl (kI, 40, .inl S)), (m2, .inl (kI, 40, .inl (cA F))), (m3, .inl (kI, 40, .inl (cA E))), (m4, .inl (kI, 24, .inl (cI lf))), (m5, .inl (kI, 24, .inl (cI rt))), (mB, .inl (kI, 40, .inl (cI u)))])) (va_A [(ma, .inr (6, [.int (nI n), .ref m1, .ref m2, .ref m3, .int (nI k), .ref m4, .ref m5, .int (nI d), .ref m6, .ref m7, .int (nI dp), .ref m8, .ref m9, .ref mA, .ref mB, .ref mC])), (m1, .inl (kI, 40, .inl S)), (m2, .inl (kI, 40, .inl (cA F))), (m3, .inl (kI, 40, .inl (cA E))), (m4, .inl (kI, 24, .inl (cI lf))), (m5, .inl (kI, 24, .inl (cI rt))), (mB, .inl (kI, 40, .inl (cI f)))] sz)) 0 0 (va_A [(ma, .inr (6, [.int (nI n), .ref m1, .ref m2, .ref m3, .int (nI k), .ref m4, .ref m5, .int (nI d), .ref m6, .ref m7, .int (nI dp), .ref m8, .ref m9, .ref mA, .ref mB, .ref mC])), (m1, .inl (kI, 40, .inl S)), (m2, .inl (kI, 40, .inl (cA F))), (m3, .inl (kI, 40, .inl (cA E))), (m4, .inl (kI, 24, .inl (cI lf))), (m5, .inl (kI, 24, .inl (cI rt))), (mB, .inl (kI, 40, .inl (cI f)))] sz) := by
  refine Met.ofW (cc := cX6_equal) (maxL := 3) (ret := (some .int)) (by decide) rfl ?_
  intro p e s m args below meth c s₁ B hml hv
  obtain ⟨rfl, hsz, hP, hK, hD0⟩ := hv
  have hx := B.exec
  have hb := B.bytes
  have hr := B.returns
  have hts := atoms_spec (ws := .code yX6_equal cX6_equal 3 (some .int) :: tbw) B.pre
  have hw : ∀ w ∈ tbw, w.before _ s = true := fun w h => hts w (List.mem_cons_of_mem _ h)
  have hown : s.vm.findClass RX6 = some m.cls := findClass_of_methodNamed B.named
  subst hsz
  have hD := hD0.self (sz := s.heap.size)
  generalize hAe : va_A [(ma, .inr (6, [.int (nI n), .ref m1, .ref m2, .ref m3, .int (nI k), .ref m4, .ref m5, .int (nI d), .ref m6, .ref m7, .int (nI dp), .ref m8, .ref m9, .ref mA, .ref mB, .ref mC])), (m1, .inl (kI, 40, .inl S)), (m2, .inl (kI, 40, .inl (cA F))), (m3, .inl (kI, 40, .inl (cA E))), (m4, .inl (kI, 24, .inl (cI lf))), (m5, .inl (kI, 24, .inl (cI rt))), (mB, .inl (kI, 40, .inl (cI f)))] s.heap.size = AA at hD ⊢
  have hA : ∀ q : Nat, s.heap.size ≤ q → AA q := fun q h => by rw [← hAe]; exact Or.inr h
  have hS : va_S AA s.heap s.heap [] := va_S.rf
  have hP : va_P (dC, dI) vwCl [(ma, .inr (6, [.int (nI n), .ref m1, .ref m2, .ref m3, .int (nI k), .ref m4, .ref m5, .int (nI d), .ref m6, .ref m7, .int (nI dp), .ref m8, .ref m9, .ref mA, .ref mB, .ref mC])), (m1, .inl (kI, 40, .inl S)), (m2, .inl (kI, 40, .inl (cA F))), (m3, .inl (kI, 40, .inl (cA E))), (m4, .inl (kI, 24, .inl (cI lf))), (m5, .inl (kI, 24, .inl (cI rt))), (mB, .inl (kI, 40, .inl (cI f)))] s.heap := hP
  have hl := lv_entry ([.ref ma, .int x, .int y]) (n := 3) (Nat.le_of_ble_eq_true rfl)
  rw [lg_entry_eq]
  generalize (lg_sl ([.ref ma, .int x, .int y]) ++ List.replicate (3 - (lg_sl ([.ref ma, .int x, .int y])).length) Slot.unset).toArray = ls at hl ⊢
  have hl : lv_has ls 3 [(0, .ref ma), (1, .int x), (2, .int y)] := hl
  refine lv_aload_n hx hb dX6_equal_0 rfl (lv_at hl 0 rfl) ?_
  refine lv_iload_n hx hb dX6_equal_1 rfl (lv_at hl 1 rfl) ?_
  refine cx_si (va_runV (As := [.int x]) (rest := []) ⟨hx, hb, hml, hown, hts⟩ (c_X6_isTerm l dC dI kI kL ma m1 m2 m3 m4 m5 m6 m7 m8 m9 mA mB mC n k d dp x ) (cwV 1 hts gv_X6_77 rfl rfl rfl hdX6_isTerm ⟨Nat.le_of_ble_eq_true rfl, Nat.le_of_ble_eq_true rfl⟩) (cx_preV (hP.sub (ws' := [(ma, .inr (6, [.int (nI n), .ref m1, .ref m2, .ref m3, .int (nI k), .ref m4, .ref m5, .int (nI d), .ref m6, .ref m7, .int (nI dp), .ref m8, .ref m9, .ref mA, .ref mB, .ref mC]))]) [0] rfl) hK rfl (q0 := 0) rfl) rfl rfl hl.1 rfl (lv_room (Nat.le_of_ble_eq_true rfl)) dX6_equal_2 ⟨Nat.zero_le _, Nat.zero_le _⟩) (fun r hres => ?_)
  subst hres
  refine cx_if0 (tgt := 16) hx hb dX6_equal_5 (by decide) (fun b0 => ?_) (fun b0 => ?_)
  · skip
    refine lv_bipush (v := (-2)) hx hb dX6_equal_16 (by decide) ?_
    exact W.iret (v := (-2)) hx hb hr (fun t ht hW => ⟨⟨_, f, rfl, an_equal_b (by first | exact fun h => of_decide_eq_false b0 h.1 | exact fun h => of_decide_eq_false b1 h.2), by rw [ht]; exact hP, hD⟩, hS.F ht⟩) hS.2.2 dX6_equal_18
  refine lv_aload_n hx hb dX6_equal_8 rfl (lv_at hl 0 rfl) ?_
  refine lv_iload_n hx hb dX6_equal_9 rfl (lv_at hl 2 rfl) ?_
  refine cx_si (va_runV (As := [.int y]) (rest := []) ⟨hx, hb, hml, hown, hts⟩ (c_X6_isTerm l dC dI kI kL ma m1 m2 m3 m4 m5 m6 m7 m8 m9 mA mB mC n k d dp y ) (cwV 1 hts gv_X6_77 rfl rfl rfl hdX6_isTerm ⟨Nat.le_of_ble_eq_true rfl, Nat.le_of_ble_eq_true rfl⟩) (cx_preV (hP.sub (ws' := [(ma, .inr (6, [.int (nI n), .ref m1, .ref m2, .ref m3, .int (nI k), .ref m4, .ref m5, .int (nI d), .ref m6, .ref m7, .int (nI dp), .ref m8, .ref m9, .ref mA, .ref mB, .ref mC]))]) [0] rfl) hK rfl (q0 := 0) rfl) rfl rfl hl.1 rfl (lv_room (Nat.le_of_ble_eq_true rfl)) dX6_equal_10 ⟨Nat.zero_le _, Nat.zero_le _⟩) (fun r hres => ?_)
  subst hres
  refine cx_if1 (tgt := 19) hx hb dX6_equal_13 (by decide) (fun b1 => ?_) (fun b1 => ?_)
  · skip
    have hT := And.intro (of_decide_eq_true b0) (of_decide_eq_true b1)
    obtain ⟨i, hi, rfl⟩ := cx_T_x qn hT.1
    obtain ⟨j, hj, rfl⟩ := cx_T_x qn hT.2
    refine lv_aload_n hx hb dX6_equal_19 rfl (lv_at hl 0 rfl) ?_
    refine cx_mv (wc := [(ma, .inr (6, [.int (nI n), .ref m1, .ref m2, .ref m3, .int (nI k), .ref m4, .ref m5, .int (nI d), .ref m6, .ref m7, .int (nI dp), .ref m8, .ref m9, .ref mA, .ref mB, .ref mC])), (m1, .inl (kI, 40, .inl S)), (m2, .inl (kI, 40, .inl (cA F))), (m3, .inl (kI, 40, .inl (cA E))), (m4, .inl (kI, 24, .inl (cI lf))), (m5, .inl (kI, 24, .inl (cI rt))), (mB, .inl (kI, 40, .inl (cI f)))]) (wr := []) hP hD hS hA [0, 1, 2, 3, 4, 5, 6] [] rfl rfl (by decide) (by decide) (va_runV (As := []) (rest := []) ⟨hx, hb, hml, hown, hts⟩ (c_X6_workAll l dC dI kI kL ma m1 m2 m3 m4 m5 m6 m7 m8 m9 mA mB mC n k d dp S F E lf rt f (by first | assumption | omega | rfl) (by first | assumption | omega | rfl) (by first | assumption | omega | rfl) (by first | assumption | omega | rfl) _) (cwV 0 hts gv_X6_85 rfl rfl rfl hdX6_workAll ⟨Nat.le_of_ble_eq_true rfl, Nat.le_of_ble_eq_true rfl⟩) (cx_mreV (hP.sub (ws' := [(ma, .inr (6, [.int (nI n), .ref m1, .ref m2, .ref m3, .int (nI k), .ref m4, .ref m5, .int (nI d), .ref m6, .ref m7, .int (nI dp), .ref m8, .ref m9, .ref mA, .ref mB, .ref mC])), (m1, .inl (kI, 40, .inl S)), (m2, .inl (kI, 40, .inl (cA F))), (m3, .inl (kI, 40, .inl (cA E))), (m4, .inl (kI, 24, .inl (cI lf))), (m5, .inl (kI, 24, .inl (cI rt))), (mB, .inl (kI, 40, .inl (cI f)))]) [0, 1, 2, 3, 4, 5, 6] rfl) hK (hD.sub (ws' := [(ma, .inr (6, [.int (nI n), .ref m1, .ref m2, .ref m3, .int (nI k), .ref m4, .ref m5, .int (nI d), .ref m6, .ref m7, .int (nI dp), .ref m8, .ref m9, .ref mA, .ref mB, .ref mC])), (m1, .inl (kI, 40, .inl S)), (m2, .inl (kI, 40, .inl (cA F))), (m3, .inl (kI, 40, .inl (cA E))), (m4, .inl (kI, 24, .inl (cI lf))), (m5, .inl (kI, 24, .inl (cI rt))), (mB, .inl (kI, 40, .inl (cI f)))]) [0, 1, 2, 3, 4, 5, 6] (by decide) rfl) rfl (q0 := 0) rfl) rfl rfl hl.1 rfl (lv_room (Nat.le_of_ble_eq_true rfl)) dX6_equal_20 ⟨Nat.zero_le _, Nat.zero_le _⟩) (fun g9 H locs hres hP hD hS => ?_)
    have hg9 := hres
    have hP : va_P (dC, dI) vwCl [(ma, .inr (6, [.int (nI n), .ref m1, .ref m2, .ref m3, .int (nI k), .ref m4, .ref m5, .int (nI d), .ref m6, .ref m7, .int (nI dp), .ref m8, .ref m9, .ref mA, .ref mB, .ref mC])), (m1, .inl (kI, 40, .inl S)), (m2, .inl (kI, 40, .inl (cA F))), (m3, .inl (kI, 40, .inl (cA E))), (m4, .inl (kI, 24, .inl (cI lf))), (m5, .inl (kI, 24, .inl (cI rt))), (mB, .inl (kI, 40, .inl (cI g9)))] H := hP.sub (ws' := [(ma, .inr (6, [.int (nI n), .ref m1, .ref m2, .ref m3, .int (nI k), .ref m4, .ref m5, .int (nI d), .ref m6, .ref m7, .int (nI dp), .ref m8, .ref m9, .ref mA, .ref mB, .ref mC])), (m1, .inl (kI, 40, .inl S)), (m2, .inl (kI, 40, .inl (cA F))), (m3, .inl (kI, 40, .inl (cA E))), (m4, .inl (kI, 24, .inl (cI lf))), (m5, .inl (kI, 24, .inl (cI rt))), (mB, .inl (kI, 40, .inl (cI g9)))]) [0, 1, 2, 3, 4, 5, 6] rfl
    have hD : va_D AA [(ma, .inr (6, [.int (nI n), .ref m1, .ref m2, .ref m3, .int (nI k), .ref m4, .ref m5, .int (nI d), .ref m6, .ref m7, .int (nI dp), .ref m8, .ref m9, .ref mA, .ref mB, .ref mC])), (m1, .inl (kI, 40, .inl S)), (m2, .inl (kI, 40, .inl (cA F))), (m3, .inl (kI, 40, .inl (cA E))), (m4, .inl (kI, 24, .inl (cI lf))), (m5, .inl (kI, 24, .inl (cI rt))), (mB, .inl (kI, 40, .inl (cI g9)))] := hD.sub (ws' := [(ma, .inr (6, [.int (nI n), .ref m1, .ref m2, .ref m3, .int (nI k), .ref m4, .ref m5, .int (nI d), .ref m6, .ref m7, .int (nI dp), .ref m8, .ref m9, .ref mA, .ref mB, .ref mC])), (m1, .inl (kI, 40, .inl S)), (m2, .inl (kI, 40, .inl (cA F))), (m3, .inl (kI, 40, .inl (cA E))), (m4, .inl (kI, 24, .inl (cI lf))), (m5, .inl (kI, 24, .inl (cI rt))), (mB, .inl (kI, 40, .inl (cI g9)))]) [0, 1, 2, 3, 4, 5, 6] (by decide) rfl
    have hB := cg_ok_B (cg_ok_ag hg9 (cg_lab_ok qe))
    refine lv_aload_n hx hb dX6_equal_23 rfl (lv_at hl 0 rfl) ?_
    refine lv_iload_n hx hb dX6_equal_24 rfl (lv_at hl 1 rfl) ?_
    refine lv_iload_n hx hb dX6_equal_25 rfl (lv_at hl 2 rfl) ?_
    refine cx_si (va_runV (As := [.int (nI i), .int (nI j)]) (rest := []) ⟨hx, hb, hml, hown, hts⟩ (c_X6_joined l dC dI kI kL ma m1 m2 m3 m4 m5 m6 m7 m8 m9 mA mB mC n k d dp g9 i j (by first | assumption | omega | rfl) (by first | assumption | omega | rfl) (by first | assumption | omega | rfl) (by first | assumption | omega | rfl)) (cwV 2 hts gv_X6_74 rfl rfl rfl hdX6_joined ⟨Nat.le_of_ble_eq_true rfl, Nat.le_of_ble_eq_true rfl⟩) (cx_preV (hP.sub (ws' := [(ma, .inr (6, [.int (nI n), .ref m1, .ref m2, .ref m3, .int (nI k), .ref m4, .ref m5, .int (nI d), .ref m6, .ref m7, .int (nI dp), .ref m8, .ref m9, .ref mA, .ref mB, .ref mC])), (mB, .inl (kI, 40, .inl (cI g9)))]) [0, 6] rfl) hK rfl (q0 := 0) rfl) rfl rfl hl.1 rfl (lv_room (Nat.le_of_ble_eq_true rfl)) dX6_equal_26 ⟨Nat.zero_le _, Nat.zero_le _⟩) (fun r hres => ?_)
    subst hres
    refine cx_if0 (tgt := 36) hx hb dX6_equal_29 (by decide) (fun b2 => ?_) (fun b2 => ?_)
    · skip
      refine lv_iconst (v := nI 0) hx hb dX6_equal_36 (by decide) ?_
      exact W.iret (v := nI 0) hx hb hr (fun t ht hW => ⟨⟨_, g9, rfl, (an_equal_n qn hi hj (of_decide_eq_false b2)).trans (an_equal_ag qn hg9), by rw [ht]; exact hP, hD⟩, hS.F ht⟩) hS.2.2 dX6_equal_37
    refine lv_iconst (v := nI 1) hx hb dX6_equal_32 (by decide) ?_
    refine lv_goto (tgt := 37) hx hb dX6_equal_33 (by decide) ?_
    exact W.iret (v := nI 1) hx hb hr (fun t ht hW => ⟨⟨_, g9, rfl, (an_equal_y qn hi hj (of_decide_eq_true b2)).trans (an_equal_ag qn hg9), by rw [ht]; exact hP, hD⟩, hS.F ht⟩) hS.2.2 dX6_equal_37
  refine lv_bipush (v := (-2)) hx hb dX6_equal_16 (by decide) ?_
  exact W.iret (v := (-2)) hx hb hr (fun t ht hW => ⟨⟨_, f, rfl, an_equal_b (by first | exact fun h => of_decide_eq_false b0 h.1 | exact fun h => of_decide_eq_false b1 h.2), by rw [ht]; exact hP, hD⟩, hS.F ht⟩) hS.2.2 dX6_equal_18

set_option maxHeartbeats 4000000 in
set_option maxRecDepth 100000 in
theorem c_X6_apart (l : Launch) (dC : Nat → ClassId) (dI : Nat → Nat → Nat) (kI kL : ClassId) (ma : Nat) (m1 : Nat) (m2 : Nat) (m3 : Nat) (m4 : Nat) (m5 : Nat) (m6 : Nat) (m7 : Nat) (m8 : Nat) (m9 : Nat) (mA : Nat) (mB : Nat) (mC : Nat) (n : Nat) (k : Nat) (d : Nat) (dp : Nat) (S : Nat → Int32) (F : Nat → Nat) (E : Nat → Nat) (lf : Nat → Nat) (rt : Nat → Nat) (f : Nat → Nat) (on : Nat → Nat) (ot : Nat → Nat) (x : Int32) (y : Int32) (qn : n ≤ 40) (qw : cg_wf (S, F, E) n) (qk : k ≤ 24) (qe : cg_we n lf rt k) (qd : d ≤ 16) (qo : cg_we n on ot d) (sz : Nat) : Met l yX6_apart (.code yX6_apart cX6_apart 6 (some .int) :: tbw) { frames := 5, cells := 0, slots := 0, locals := 111 } (va_Pc [.ref ma, .int x, .int y] (cx_M (dC, dI) vwCl [(ma, .inr (6, [.int (nI n), .ref m1, .ref m2, .ref m3, .int (nI k), .ref m4, .ref m5, .int (nI d), .ref m6, .ref m7, .int (nI dp), .ref m8, .ref m9, .ref mA, .ref mB, .ref mC])), (m1, .inl (kI, 40, .inl S)), (m2, .inl (kI, 40, .inl (cA F))), (m3, .inl (kI, 40, .inl (cA E))), (m4, .inl (kI, 24, .inl (cI lf))), (m5, .inl (kI, 24, .inl (cI rt))), (mB, .inl (kI, 40, .inl (cI f))), (m6, .inl (kI, 16, .inl (cI on))), (m7, .inl (kI, 16, .inl (cI ot)))] [(kI, .int), (kL, .long)] sz)) (va_Qi (fun (r : Int32) (u : Nat → Nat) => r = (an_apart n d (cg_LA S F E n lf rt k) on ot x y)) (cx_B (dC, dI) vwCl (va_A [(ma, .inr (6, [.int (nI n), .ref m1, .ref m2, .ref m3, .int (nI k), .ref m4, .ref m5, .int (nI d), .ref m6, .ref m7, .int (nI dp), .ref m8, .ref m9, .ref mA, .ref mB, .ref mC])), (m1, .inl (kI, 40, .inl S)), (m2, .inl (kI, 40, .inl (cA F))), (m3, .inl (kI, 40, .inl (cA E))), (m4, .inl (kI, 24, .inl (cI lf))), (m5, .inl (kI, 24, .inl (cI rt))), (mB, .inl (kI, 40, .inl (cI f))), (m6, .inl (kI, 16, .inl (cI on))), (m7, .inl (kI, 16, .inl (cI ot)))] sz) (fun u : Nat → Nat => [(ma, .inr (6, [.int (nI n), .ref m1, .ref m2, .ref m3, .int (nI k), .ref m4, .ref m5, .int (nI d), .ref m6, .ref m7, .int (nI dp), .ref m8, .ref m9, .ref mA, .ref mB, .ref mC])), (m1, .inl (kI, 40, .inl S)), (m2, .inl (kI, 40, .inl (cA F))), (m3, .inl (kI, 40, .inl (cA E))), (m4, .inl (kI, 24, .inl (cI lf))), (m5, .inl (kI, 24, .inl (cI rt))), (mB, .inl (kI, 40, .inl (cI u))), (m6, .inl (kI, 16, .inl (cI on))), (m7, .inl (kI, 16, .inl (cI ot)))])) (va_A [(ma, .inr (6, [.int (nI n), .ref m1, .ref m2, .ref m3, .int (nI k), .ref m4, .ref m5, .int (nI d), .ref m6, .ref m7, .int (nI dp), .ref m8, .ref m9, .ref mA, .ref mB, .ref mC])), (m1, .inl (kI, 40, .inl S)), (m2, .inl (kI, 40, .inl (cA F))), (m3, .inl (kI, 40, .inl (cA E))), (m4, .inl (kI, 24, .inl (cI lf))), (m5, .inl (kI, 24, .inl (cI rt))), (mB, .inl (kI, 40, .inl (cI f))), (m6, .inl (kI, 16, .inl (cI on))), (m7, .inl (kI, 16, .inl (cI ot)))] sz)) 0 0 (va_A [(ma, .inr (6, [.int (nI n), .ref m1, .ref m2, .ref m3, .int (nI k), .ref m4, .ref m5, .int (nI d), .ref m6, .ref m7, .int (nI dp), .ref m8, .ref m9, .ref mA, .ref mB, .ref mC])), (m1, .inl (kI, 40, .inl S)), (m2, .inl (kI, 40, .inl (cA F))), (m3, .inl (kI, 40, .inl (cA E))), (m4, .inl (kI, 24, .inl (cI lf))), (m5, .inl (kI, 24, .inl (cI rt))), (mB, .inl (kI, 40, .inl (cI f))), (m6, .inl (kI, 16, .inl (cI on))), (m7, .inl (kI, 16, .inl (cI ot)))] sz) := by
  refine Met.ofW (cc := cX6_apart) (maxL := 6) (ret := (some .int)) (by decide) rfl ?_
  intro p e s m args below meth c s₁ B hml hv
  obtain ⟨rfl, hsz, hP, hK, hD0⟩ := hv
  have hx := B.exec
  have hb := B.bytes
  have hr := B.returns
  have hts := atoms_spec (ws := .code yX6_apart cX6_apart 6 (some .int) :: tbw) B.pre
  have hw : ∀ w ∈ tbw, w.before _ s = true := fun w h => hts w (List.mem_cons_of_mem _ h)
  have hown : s.vm.findClass RX6 = some m.cls := findClass_of_methodNamed B.named
  subst hsz
  have hD := hD0.self (sz := s.heap.size)
  generalize hAe : va_A [(ma, .inr (6, [.int (nI n), .ref m1, .ref m2, .ref m3, .int (nI k), .ref m4, .ref m5, .int (nI d), .ref m6, .ref m7, .int (nI dp), .ref m8, .ref m9, .ref mA, .ref mB, .ref mC])), (m1, .inl (kI, 40, .inl S)), (m2, .inl (kI, 40, .inl (cA F))), (m3, .inl (kI, 40, .inl (cA E))), (m4, .inl (kI, 24, .inl (cI lf))), (m5, .inl (kI, 24, .inl (cI rt))), (mB, .inl (kI, 40, .inl (cI f))), (m6, .inl (kI, 16, .inl (cI on))), (m7, .inl (kI, 16, .inl (cI ot)))] s.heap.size = AA at hD ⊢
  have hA : ∀ q : Nat, s.heap.size ≤ q → AA q := fun q h => by rw [← hAe]; exact Or.inr h
  have hS : va_S AA s.heap s.heap [] := va_S.rf
  have hP : va_P (dC, dI) vwCl [(ma, .inr (6, [.int (nI n), .ref m1, .ref m2, .ref m3, .int (nI k), .ref m4, .ref m5, .int (nI d), .ref m6, .ref m7, .int (nI dp), .ref m8, .ref m9, .ref mA, .ref mB, .ref mC])), (m1, .inl (kI, 40, .inl S)), (m2, .inl (kI, 40, .inl (cA F))), (m3, .inl (kI, 40, .inl (cA E))), (m4, .inl (kI, 24, .inl (cI lf))), (m5, .inl (kI, 24, .inl (cI rt))), (mB, .inl (kI, 40, .inl (cI f))), (m6, .inl (kI, 16, .inl (cI on))), (m7, .inl (kI, 16, .inl (cI ot)))] s.heap := hP
  have hl := lv_entry ([.ref ma, .int x, .int y]) (n := 6) (Nat.le_of_ble_eq_true rfl)
  rw [lg_entry_eq]
  generalize (lg_sl ([.ref ma, .int x, .int y]) ++ List.replicate (6 - (lg_sl ([.ref ma, .int x, .int y])).length) Slot.unset).toArray = ls at hl ⊢
  have hl : lv_has ls 6 [(0, .ref ma), (1, .int x), (2, .int y)] := hl
  refine lv_aload_n hx hb dX6_apart_0 rfl (lv_at hl 0 rfl) ?_
  refine lv_iload_n hx hb dX6_apart_1 rfl (lv_at hl 1 rfl) ?_
  refine cx_si (va_runV (As := [.int x]) (rest := []) ⟨hx, hb, hml, hown, hts⟩ (c_X6_isTerm l dC dI kI kL ma m1 m2 m3 m4 m5 m6 m7 m8 m9 mA mB mC n k d dp x ) (cwV 1 hts gv_X6_77 rfl rfl rfl hdX6_isTerm ⟨Nat.le_of_ble_eq_true rfl, Nat.le_of_ble_eq_true rfl⟩) (cx_preV (hP.sub (ws' := [(ma, .inr (6, [.int (nI n), .ref m1, .ref m2, .ref m3, .int (nI k), .ref m4, .ref m5, .int (nI d), .ref m6, .ref m7, .int (nI dp), .ref m8, .ref m9, .ref mA, .ref mB, .ref mC]))]) [0] rfl) hK rfl (q0 := 0) rfl) rfl rfl hl.1 rfl (lv_room (Nat.le_of_ble_eq_true rfl)) dX6_apart_2 ⟨Nat.zero_le _, Nat.zero_le _⟩) (fun r hres => ?_)
  subst hres
  refine cx_if0 (tgt := 16) hx hb dX6_apart_5 (by decide) (fun b0 => ?_) (fun b0 => ?_)
  · skip
    refine lv_bipush (v := (-2)) hx hb dX6_apart_16 (by decide) ?_
    exact W.iret (v := (-2)) hx hb hr (fun t ht hW => ⟨⟨_, f, rfl, an_apart_b (by first | exact fun h => of_decide_eq_false b0 h.1 | exact fun h => of_decide_eq_false b1 h.2), by rw [ht]; exact hP, hD⟩, hS.F ht⟩) hS.2.2 dX6_apart_18
  refine lv_aload_n hx hb dX6_apart_8 rfl (lv_at hl 0 rfl) ?_
  refine lv_iload_n hx hb dX6_apart_9 rfl (lv_at hl 2 rfl) ?_
  refine cx_si (va_runV (As := [.int y]) (rest := []) ⟨hx, hb, hml, hown, hts⟩ (c_X6_isTerm l dC dI kI kL ma m1 m2 m3 m4 m5 m6 m7 m8 m9 mA mB mC n k d dp y ) (cwV 1 hts gv_X6_77 rfl rfl rfl hdX6_isTerm ⟨Nat.le_of_ble_eq_true rfl, Nat.le_of_ble_eq_true rfl⟩) (cx_preV (hP.sub (ws' := [(ma, .inr (6, [.int (nI n), .ref m1, .ref m2, .ref m3, .int (nI k), .ref m4, .ref m5, .int (nI d), .ref m6, .ref m7, .int (nI dp), .ref m8, .ref m9, .ref mA, .ref mB, .ref mC]))]) [0] rfl) hK rfl (q0 := 0) rfl) rfl rfl hl.1 rfl (lv_room (Nat.le_of_ble_eq_true rfl)) dX6_apart_10 ⟨Nat.zero_le _, Nat.zero_le _⟩) (fun r hres => ?_)
  subst hres
  refine cx_if1 (tgt := 19) hx hb dX6_apart_13 (by decide) (fun b1 => ?_) (fun b1 => ?_)
  · skip
    have hT := And.intro (of_decide_eq_true b0) (of_decide_eq_true b1)
    obtain ⟨i, hi, rfl⟩ := cx_T_x qn hT.1
    obtain ⟨j, hj, rfl⟩ := cx_T_x qn hT.2
    refine lv_aload_n hx hb dX6_apart_19 rfl (lv_at hl 0 rfl) ?_
    refine cx_mv (wc := [(ma, .inr (6, [.int (nI n), .ref m1, .ref m2, .ref m3, .int (nI k), .ref m4, .ref m5, .int (nI d), .ref m6, .ref m7, .int (nI dp), .ref m8, .ref m9, .ref mA, .ref mB, .ref mC])), (m1, .inl (kI, 40, .inl S)), (m2, .inl (kI, 40, .inl (cA F))), (m3, .inl (kI, 40, .inl (cA E))), (m4, .inl (kI, 24, .inl (cI lf))), (m5, .inl (kI, 24, .inl (cI rt))), (mB, .inl (kI, 40, .inl (cI f)))]) (wr := [(m6, .inl (kI, 16, .inl (cI on))), (m7, .inl (kI, 16, .inl (cI ot)))]) hP hD hS hA [0, 1, 2, 3, 4, 5, 6] [7, 8] rfl rfl (by decide) (by decide) (va_runV (As := []) (rest := []) ⟨hx, hb, hml, hown, hts⟩ (c_X6_workAll l dC dI kI kL ma m1 m2 m3 m4 m5 m6 m7 m8 m9 mA mB mC n k d dp S F E lf rt f (by first | assumption | omega | rfl) (by first | assumption | omega | rfl) (by first | assumption | omega | rfl) (by first | assumption | omega | rfl) _) (cwV 0 hts gv_X6_85 rfl rfl rfl hdX6_workAll ⟨Nat.le_of_ble_eq_true rfl, Nat.le_of_ble_eq_true rfl⟩) (cx_mreV (hP.sub (ws' := [(ma, .inr (6, [.int (nI n), .ref m1, .ref m2, .ref m3, .int (nI k), .ref m4, .ref m5, .int (nI d), .ref m6, .ref m7, .int (nI dp), .ref m8, .ref m9, .ref mA, .ref mB, .ref mC])), (m1, .inl (kI, 40, .inl S)), (m2, .inl (kI, 40, .inl (cA F))), (m3, .inl (kI, 40, .inl (cA E))), (m4, .inl (kI, 24, .inl (cI lf))), (m5, .inl (kI, 24, .inl (cI rt))), (mB, .inl (kI, 40, .inl (cI f)))]) [0, 1, 2, 3, 4, 5, 6] rfl) hK (hD.sub (ws' := [(ma, .inr (6, [.int (nI n), .ref m1, .ref m2, .ref m3, .int (nI k), .ref m4, .ref m5, .int (nI d), .ref m6, .ref m7, .int (nI dp), .ref m8, .ref m9, .ref mA, .ref mB, .ref mC])), (m1, .inl (kI, 40, .inl S)), (m2, .inl (kI, 40, .inl (cA F))), (m3, .inl (kI, 40, .inl (cA E))), (m4, .inl (kI, 24, .inl (cI lf))), (m5, .inl (kI, 24, .inl (cI rt))), (mB, .inl (kI, 40, .inl (cI f)))]) [0, 1, 2, 3, 4, 5, 6] (by decide) rfl) rfl (q0 := 0) rfl) rfl rfl hl.1 rfl (lv_room (Nat.le_of_ble_eq_true rfl)) dX6_apart_20 ⟨Nat.zero_le _, Nat.zero_le _⟩) (fun g9 H locs hres hP hD hS => ?_)
    have hg9 := hres
    have hP : va_P (dC, dI) vwCl [(ma, .inr (6, [.int (nI n), .ref m1, .ref m2, .ref m3, .int (nI k), .ref m4, .ref m5, .int (nI d), .ref m6, .ref m7, .int (nI dp), .ref m8, .ref m9, .ref mA, .ref mB, .ref mC])), (m1, .inl (kI, 40, .inl S)), (m2, .inl (kI, 40, .inl (cA F))), (m3, .inl (kI, 40, .inl (cA E))), (m4, .inl (kI, 24, .inl (cI lf))), (m5, .inl (kI, 24, .inl (cI rt))), (mB, .inl (kI, 40, .inl (cI g9))), (m6, .inl (kI, 16, .inl (cI on))), (m7, .inl (kI, 16, .inl (cI ot)))] H := hP.sub (ws' := [(ma, .inr (6, [.int (nI n), .ref m1, .ref m2, .ref m3, .int (nI k), .ref m4, .ref m5, .int (nI d), .ref m6, .ref m7, .int (nI dp), .ref m8, .ref m9, .ref mA, .ref mB, .ref mC])), (m1, .inl (kI, 40, .inl S)), (m2, .inl (kI, 40, .inl (cA F))), (m3, .inl (kI, 40, .inl (cA E))), (m4, .inl (kI, 24, .inl (cI lf))), (m5, .inl (kI, 24, .inl (cI rt))), (mB, .inl (kI, 40, .inl (cI g9))), (m6, .inl (kI, 16, .inl (cI on))), (m7, .inl (kI, 16, .inl (cI ot)))]) [2, 3, 4, 5, 6, 7, 8, 0, 1] rfl
    have hD : va_D AA [(ma, .inr (6, [.int (nI n), .ref m1, .ref m2, .ref m3, .int (nI k), .ref m4, .ref m5, .int (nI d), .ref m6, .ref m7, .int (nI dp), .ref m8, .ref m9, .ref mA, .ref mB, .ref mC])), (m1, .inl (kI, 40, .inl S)), (m2, .inl (kI, 40, .inl (cA F))), (m3, .inl (kI, 40, .inl (cA E))), (m4, .inl (kI, 24, .inl (cI lf))), (m5, .inl (kI, 24, .inl (cI rt))), (mB, .inl (kI, 40, .inl (cI g9))), (m6, .inl (kI, 16, .inl (cI on))), (m7, .inl (kI, 16, .inl (cI ot)))] := hD.sub (ws' := [(ma, .inr (6, [.int (nI n), .ref m1, .ref m2, .ref m3, .int (nI k), .ref m4, .ref m5, .int (nI d), .ref m6, .ref m7, .int (nI dp), .ref m8, .ref m9, .ref mA, .ref mB, .ref mC])), (m1, .inl (kI, 40, .inl S)), (m2, .inl (kI, 40, .inl (cA F))), (m3, .inl (kI, 40, .inl (cA E))), (m4, .inl (kI, 24, .inl (cI lf))), (m5, .inl (kI, 24, .inl (cI rt))), (mB, .inl (kI, 40, .inl (cI g9))), (m6, .inl (kI, 16, .inl (cI on))), (m7, .inl (kI, 16, .inl (cI ot)))]) [2, 3, 4, 5, 6, 7, 8, 0, 1] (by decide) rfl
    have hB := cg_ok_B (cg_ok_ag hg9 (cg_lab_ok qe))
    refine lv_iconst (v := nI 0) hx hb dX6_apart_23 (by decide) ?_
    refine lv_istore_n hx hb dX6_apart_24 rfl hl (by decide) rfl (fun ls hl => ?_)
    have hl : lv_has ls 6 [(3, .int (nI 0)), (0, .ref ma), (1, .int (nI i)), (2, .int (nI j))] := hl
    refine cx_loop1 (fun (v : Nat) (H : Heap) (locs : List Loc) (ls : Array Slot) => lv_has ls 6 [(3, .int (nI v)), (0, .ref ma), (1, .int (nI i)), (2, .int (nI j))] ∧ va_P (dC, dI) vwCl [(ma, .inr (6, [.int (nI n), .ref m1, .ref m2, .ref m3, .int (nI k), .ref m4, .ref m5, .int (nI d), .ref m6, .ref m7, .int (nI dp), .ref m8, .ref m9, .ref mA, .ref mB, .ref mC])), (m1, .inl (kI, 40, .inl S)), (m2, .inl (kI, 40, .inl (cA F))), (m3, .inl (kI, 40, .inl (cA E))), (m4, .inl (kI, 24, .inl (cI lf))), (m5, .inl (kI, 24, .inl (cI rt))), (mB, .inl (kI, 40, .inl (cI g9))), (m6, .inl (kI, 16, .inl (cI on))), (m7, .inl (kI, 16, .inl (cI ot)))] H ∧ va_D AA [(ma, .inr (6, [.int (nI n), .ref m1, .ref m2, .ref m3, .int (nI k), .ref m4, .ref m5, .int (nI d), .ref m6, .ref m7, .int (nI dp), .ref m8, .ref m9, .ref mA, .ref mB, .ref mC])), (m1, .inl (kI, 40, .inl S)), (m2, .inl (kI, 40, .inl (cA F))), (m3, .inl (kI, 40, .inl (cA E))), (m4, .inl (kI, 24, .inl (cI lf))), (m5, .inl (kI, 24, .inl (cI rt))), (mB, .inl (kI, 40, .inl (cI g9))), (m6, .inl (kI, 16, .inl (cI on))), (m7, .inl (kI, 16, .inl (cI ot)))] ∧ va_S AA s.heap H locs ∧ (v ≤ d) ∧ (∀ u, u < v → cg_PA g9 on ot i j u = false)) (fun v => d - v) (fun v H locs ls hI ih1 => ?_) 0 ⟨lv_sub hl [0, 1, 2, 3] rfl, hP, hD, hS, (by first | assumption | omega | rfl), (fun u h => absurd h (Nat.not_lt_zero u))⟩
    obtain ⟨hl, hP, hD, hS, hv1, hno⟩ := hI
    refine lv_iload_n hx hb dX6_apart_25 rfl (lv_at hl 0 rfl) ?_
    refine lv_aload_n hx hb dX6_apart_26 rfl (lv_at hl 1 rfl) ?_
    refine va_get (D := (dC, dI)) (ci := 6) (v := .int (nI d)) (C := RX6) (T := TX6) (N := 16) hx hb hts (tb_c tbX6) hown hK hP 0 rfl rfl 7 (by decide) (hw _ tw_348) (fun _ h9 => h9) rfl dX6_apart_27 ?_
    refine cx_ge (x := v) (y := d) (tgt := 121) hx hb dX6_apart_30 (by decide) (by first | omega | exact hB _ (by omega) | exact Nat.lt_of_lt_of_le (hB _ (by omega)) (by omega)) (by first | omega | exact hB _ (by omega) | exact Nat.lt_of_lt_of_le (hB _ (by omega)) (by omega)) (fun b2 => ?_) (fun b2 => ?_)
    · skip
      refine lv_iconst (v := nI 0) hx hb dX6_apart_121 (by decide) ?_
      exact W.iret (v := nI 0) hx hb hr (fun t ht hW => ⟨⟨_, g9, rfl, (an_apart_n qn hi hj hno b2).trans (an_apart_ag qn qo hg9), by rw [ht]; exact hP, hD⟩, hS.F ht⟩) hS.2.2 dX6_apart_122
    have e1 := qo v b2
    refine lv_aload_n hx hb dX6_apart_33 rfl (lv_at hl 1 rfl) ?_
    refine lv_aload_n hx hb dX6_apart_34 rfl (lv_at hl 1 rfl) ?_
    refine va_get (D := (dC, dI)) (ci := 6) (v := .ref m6) (C := RX6) (T := TX6) (N := 16) hx hb hts (tb_c tbX6) hown hK hP 0 rfl rfl 8 (by decide) (hw _ tw_349) (fun _ h9 => h9) rfl dX6_apart_35 ?_
    refine lv_iload_n hx hb dX6_apart_38 rfl (lv_at hl 0 rfl) ?_
    refine cx_iald hx hb hK hP 7 0 rfl rfl (by first | decide | omega) (v := nI (on v)) (i := v) rfl (by first | omega | exact hB _ (by omega) | exact Nat.lt_of_lt_of_le (hB _ (by omega)) (by omega)) dX6_apart_39 ?_
    refine lv_iload_n hx hb dX6_apart_40 rfl (lv_at hl 2 rfl) ?_
    refine cx_si (va_runV (As := [.int (nI (on v)), .int (nI i)]) (rest := []) ⟨hx, hb, hml, hown, hts⟩ (c_X6_joined l dC dI kI kL ma m1 m2 m3 m4 m5 m6 m7 m8 m9 mA mB mC n k d dp g9 (on v) i (by first | assumption | omega | rfl) (by first | assumption | omega | rfl) (by first | assumption | omega | rfl) (by first | assumption | omega | rfl)) (cwV 2 hts gv_X6_74 rfl rfl rfl hdX6_joined ⟨Nat.le_of_ble_eq_true rfl, Nat.le_of_ble_eq_true rfl⟩) (cx_preV (hP.sub (ws' := [(ma, .inr (6, [.int (nI n), .ref m1, .ref m2, .ref m3, .int (nI k), .ref m4, .ref m5, .int (nI d), .ref m6, .ref m7, .int (nI dp), .ref m8, .ref m9, .ref mA, .ref mB, .ref mC])), (mB, .inl (kI, 40, .inl (cI g9)))]) [0, 6] rfl) hK rfl (q0 := 0) rfl) rfl rfl hl.1 rfl (lv_room (Nat.le_of_ble_eq_true rfl)) dX6_apart_41 ⟨Nat.zero_le _, Nat.zero_le _⟩) (fun r hres => ?_)
    subst hres
    refine cx_if0 (tgt := 65) hx hb dX6_apart_44 (by decide) (fun b3 => ?_) (fun b3 => ?_)
    · skip
      refine lv_iconst (v := nI 0) hx hb dX6_apart_65 (by decide) ?_
      refine lv_istore hx hb dX6_apart_66 hl (by decide) rfl (fun ls hl => ?_)
      have hl : lv_has ls 6 [(4, .int (nI 0)), (3, .int (nI v)), (0, .ref ma), (1, .int (nI i)), (2, .int (nI j))] := hl
      refine lv_aload_n hx hb dX6_apart_68 rfl (lv_at hl 2 rfl) ?_
      refine lv_aload_n hx hb dX6_apart_69 rfl (lv_at hl 2 rfl) ?_
      refine va_get (D := (dC, dI)) (ci := 6) (v := .ref m6) (C := RX6) (T := TX6) (N := 16) hx hb hts (tb_c tbX6) hown hK hP 0 rfl rfl 8 (by decide) (hw _ tw_349) (fun _ h9 => h9) rfl dX6_apart_70 ?_
      refine lv_iload_n hx hb dX6_apart_73 rfl (lv_at hl 1 rfl) ?_
      refine cx_iald hx hb hK hP 7 0 rfl rfl (by first | decide | omega) (v := nI (on v)) (i := v) rfl (by first | omega | exact hB _ (by omega) | exact Nat.lt_of_lt_of_le (hB _ (by omega)) (by omega)) dX6_apart_74 ?_
      refine lv_iload_n hx hb dX6_apart_75 rfl (lv_at hl 4 rfl) ?_
      refine cx_si (va_runV (As := [.int (nI (on v)), .int (nI j)]) (rest := []) ⟨hx, hb, hml, hown, hts⟩ (c_X6_joined l dC dI kI kL ma m1 m2 m3 m4 m5 m6 m7 m8 m9 mA mB mC n k d dp g9 (on v) j (by first | assumption | omega | rfl) (by first | assumption | omega | rfl) (by first | assumption | omega | rfl) (by first | assumption | omega | rfl)) (cwV 2 hts gv_X6_74 rfl rfl rfl hdX6_joined ⟨Nat.le_of_ble_eq_true rfl, Nat.le_of_ble_eq_true rfl⟩) (cx_preV (hP.sub (ws' := [(ma, .inr (6, [.int (nI n), .ref m1, .ref m2, .ref m3, .int (nI k), .ref m4, .ref m5, .int (nI d), .ref m6, .ref m7, .int (nI dp), .ref m8, .ref m9, .ref mA, .ref mB, .ref mC])), (mB, .inl (kI, 40, .inl (cI g9)))]) [0, 6] rfl) hK rfl (q0 := 0) rfl) rfl rfl hl.1 rfl (lv_room (Nat.le_of_ble_eq_true rfl)) dX6_apart_76 ⟨Nat.zero_le _, Nat.zero_le _⟩) (fun r hres => ?_)
      subst hres
      refine cx_if0 (tgt := 100) hx hb dX6_apart_79 (by decide) (fun b5 => ?_) (fun b5 => ?_)
      · skip
        refine lv_iconst (v := nI 0) hx hb dX6_apart_100 (by decide) ?_
        refine lv_istore hx hb dX6_apart_101 hl (by decide) rfl (fun ls hl => ?_)
        have hl : lv_has ls 6 [(5, .int (nI 0)), (4, .int (nI 0)), (3, .int (nI v)), (0, .ref ma), (1, .int (nI i)), (2, .int (nI j))] := hl
        refine lv_iload hx hb dX6_apart_103 (lv_at hl 1 rfl) ?_
        refine cx_nne (x := 0) (tgt := 113) hx hb dX6_apart_105 (by decide) (by decide) (fun h9 => absurd h9 (by decide)) (fun _ => ?_)
        refine lv_iload hx hb dX6_apart_108 (lv_at hl 0 rfl) ?_
        refine cx_neq (x := 0) (tgt := 115) hx hb dX6_apart_110 (by decide) (by decide) (fun _ => ?_) (fun h9 => absurd h9 (by decide))
        refine lv_iinc (k := 2) (v := nI (v + 1)) hx hb dX6_apart_115 hl rfl cx_inc1 (by decide) rfl (fun ls hl => ?_)
        have hl : lv_has ls 6 [(3, .int (nI (v + 1))), (5, .int (nI 0)), (4, .int (nI 0)), (0, .ref ma), (1, .int (nI i)), (2, .int (nI j))] := hl
        refine lv_goto (tgt := 25) hx hb dX6_apart_118 (by decide) ?_
        exact ih1 (v + 1) _ _ _ ⟨lv_sub hl [0, 3, 4, 5] rfl, hP, hD, hS, (by first | assumption | omega | rfl), (cg_sr_s hno (cg_PA_f (by first | exact fun h => of_decide_eq_false b3 h.1 | exact fun h => of_decide_eq_false b4 h.2) (by first | exact fun h => of_decide_eq_false b5 h.1 | exact fun h => of_decide_eq_false b6 h.2)))⟩ (by show d - (v + 1) < d - v; omega)
      refine lv_aload_n hx hb dX6_apart_82 rfl (lv_at hl 2 rfl) ?_
      refine lv_aload_n hx hb dX6_apart_83 rfl (lv_at hl 2 rfl) ?_
      refine va_get (D := (dC, dI)) (ci := 6) (v := .ref m7) (C := RX6) (T := TX6) (N := 16) hx hb hts (tb_c tbX6) hown hK hP 0 rfl rfl 9 (by decide) (hw _ tw_350) (fun _ h9 => h9) rfl dX6_apart_84 ?_
      refine lv_iload_n hx hb dX6_apart_87 rfl (lv_at hl 1 rfl) ?_
      refine cx_iald hx hb hK hP 8 0 rfl rfl (by first | decide | omega) (v := nI (ot v)) (i := v) rfl (by first | omega | exact hB _ (by omega) | exact Nat.lt_of_lt_of_le (hB _ (by omega)) (by omega)) dX6_apart_88 ?_
      refine lv_iload_n hx hb dX6_apart_89 rfl (lv_at hl 3 rfl) ?_
      refine cx_si (va_runV (As := [.int (nI (ot v)), .int (nI i)]) (rest := []) ⟨hx, hb, hml, hown, hts⟩ (c_X6_joined l dC dI kI kL ma m1 m2 m3 m4 m5 m6 m7 m8 m9 mA mB mC n k d dp g9 (ot v) i (by first | assumption | omega | rfl) (by first | assumption | omega | rfl) (by first | assumption | omega | rfl) (by first | assumption | omega | rfl)) (cwV 2 hts gv_X6_74 rfl rfl rfl hdX6_joined ⟨Nat.le_of_ble_eq_true rfl, Nat.le_of_ble_eq_true rfl⟩) (cx_preV (hP.sub (ws' := [(ma, .inr (6, [.int (nI n), .ref m1, .ref m2, .ref m3, .int (nI k), .ref m4, .ref m5, .int (nI d), .ref m6, .ref m7, .int (nI dp), .ref m8, .ref m9, .ref mA, .ref mB, .ref mC])), (mB, .inl (kI, 40, .inl (cI g9)))]) [0, 6] rfl) hK rfl (q0 := 0) rfl) rfl rfl hl.1 rfl (lv_room (Nat.le_of_ble_eq_true rfl)) dX6_apart_90 ⟨Nat.zero_le _, Nat.zero_le _⟩) (fun r hres => ?_)
      subst hres
      refine cx_if0 (tgt := 100) hx hb dX6_apart_93 (by decide) (fun b6 => ?_) (fun b6 => ?_)
      · skip
        refine lv_iconst (v := nI 0) hx hb dX6_apart_100 (by decide) ?_
        refine lv_istore hx hb dX6_apart_101 hl (by decide) rfl (fun ls hl => ?_)
        have hl : lv_has ls 6 [(5, .int (nI 0)), (4, .int (nI 0)), (3, .int (nI v)), (0, .ref ma), (1, .int (nI i)), (2, .int (nI j))] := hl
        refine lv_iload hx hb dX6_apart_103 (lv_at hl 1 rfl) ?_
        refine cx_nne (x := 0) (tgt := 113) hx hb dX6_apart_105 (by decide) (by decide) (fun h9 => absurd h9 (by decide)) (fun _ => ?_)
        refine lv_iload hx hb dX6_apart_108 (lv_at hl 0 rfl) ?_
        refine cx_neq (x := 0) (tgt := 115) hx hb dX6_apart_110 (by decide) (by decide) (fun _ => ?_) (fun h9 => absurd h9 (by decide))
        refine lv_iinc (k := 2) (v := nI (v + 1)) hx hb dX6_apart_115 hl rfl cx_inc1 (by decide) rfl (fun ls hl => ?_)
        have hl : lv_has ls 6 [(3, .int (nI (v + 1))), (5, .int (nI 0)), (4, .int (nI 0)), (0, .ref ma), (1, .int (nI i)), (2, .int (nI j))] := hl
        refine lv_goto (tgt := 25) hx hb dX6_apart_118 (by decide) ?_
        exact ih1 (v + 1) _ _ _ ⟨lv_sub hl [0, 3, 4, 5] rfl, hP, hD, hS, (by first | assumption | omega | rfl), (cg_sr_s hno (cg_PA_f (by first | exact fun h => of_decide_eq_false b3 h.1 | exact fun h => of_decide_eq_false b4 h.2) (by first | exact fun h => of_decide_eq_false b5 h.1 | exact fun h => of_decide_eq_false b6 h.2)))⟩ (by show d - (v + 1) < d - v; omega)
      refine lv_iconst (v := nI 1) hx hb dX6_apart_96 (by decide) ?_
      refine lv_goto (tgt := 101) hx hb dX6_apart_97 (by decide) ?_
      refine lv_istore hx hb dX6_apart_101 hl (by decide) rfl (fun ls hl => ?_)
      have hl : lv_has ls 6 [(5, .int (nI 1)), (4, .int (nI 0)), (3, .int (nI v)), (0, .ref ma), (1, .int (nI i)), (2, .int (nI j))] := hl
      refine lv_iload hx hb dX6_apart_103 (lv_at hl 1 rfl) ?_
      refine cx_nne (x := 0) (tgt := 113) hx hb dX6_apart_105 (by decide) (by decide) (fun h9 => absurd h9 (by decide)) (fun _ => ?_)
      refine lv_iload hx hb dX6_apart_108 (lv_at hl 0 rfl) ?_
      refine cx_neq (x := 1) (tgt := 115) hx hb dX6_apart_110 (by decide) (by decide) (fun h9 => absurd h9 (by decide)) (fun _ => ?_)
      refine lv_iconst (v := nI 1) hx hb dX6_apart_113 (by decide) ?_
      exact W.iret (v := nI 1) hx hb hr (fun t ht hW => ⟨⟨_, g9, rfl, (an_apart_y qn hi hj hno (by first | exact cg_PA_t (Or.inl ⟨of_decide_eq_true b3, of_decide_eq_true b4⟩) | exact cg_PA_t (Or.inr ⟨of_decide_eq_true b5, of_decide_eq_true b6⟩)) b2).trans (an_apart_ag qn qo hg9), by rw [ht]; exact hP, hD⟩, hS.F ht⟩) hS.2.2 dX6_apart_114
    refine lv_aload_n hx hb dX6_apart_47 rfl (lv_at hl 1 rfl) ?_
    refine lv_aload_n hx hb dX6_apart_48 rfl (lv_at hl 1 rfl) ?_
    refine va_get (D := (dC, dI)) (ci := 6) (v := .ref m7) (C := RX6) (T := TX6) (N := 16) hx hb hts (tb_c tbX6) hown hK hP 0 rfl rfl 9 (by decide) (hw _ tw_350) (fun _ h9 => h9) rfl dX6_apart_49 ?_
    refine lv_iload_n hx hb dX6_apart_52 rfl (lv_at hl 0 rfl) ?_
    refine cx_iald hx hb hK hP 8 0 rfl rfl (by first | decide | omega) (v := nI (ot v)) (i := v) rfl (by first | omega | exact hB _ (by omega) | exact Nat.lt_of_lt_of_le (hB _ (by omega)) (by omega)) dX6_apart_53 ?_
    refine lv_iload_n hx hb dX6_apart_54 rfl (lv_at hl 3 rfl) ?_
    refine cx_si (va_runV (As := [.int (nI (ot v)), .int (nI j)]) (rest := []) ⟨hx, hb, hml, hown, hts⟩ (c_X6_joined l dC dI kI kL ma m1 m2 m3 m4 m5 m6 m7 m8 m9 mA mB mC n k d dp g9 (ot v) j (by first | assumption | omega | rfl) (by first | assumption | omega | rfl) (by first | assumption | omega | rfl) (by first | assumption | omega | rfl)) (cwV 2 hts gv_X6_74 rfl rfl rfl hdX6_joined ⟨Nat.le_of_ble_eq_true rfl, Nat.le_of_ble_eq_true rfl⟩) (cx_preV (hP.sub (ws' := [(ma, .inr (6, [.int (nI n), .ref m1, .ref m2, .ref m3, .int (nI k), .ref m4, .ref m5, .int (nI d), .ref m6, .ref m7, .int (nI dp), .ref m8, .ref m9, .ref mA, .ref mB, .ref mC])), (mB, .inl (kI, 40, .inl (cI g9)))]) [0, 6] rfl) hK rfl (q0 := 0) rfl) rfl rfl hl.1 rfl (lv_room (Nat.le_of_ble_eq_true rfl)) dX6_apart_55 ⟨Nat.zero_le _, Nat.zero_le _⟩) (fun r hres => ?_)
    subst hres
    refine cx_if0 (tgt := 65) hx hb dX6_apart_58 (by decide) (fun b4 => ?_) (fun b4 => ?_)
    · skip
      refine lv_iconst (v := nI 0) hx hb dX6_apart_65 (by decide) ?_
      refine lv_istore hx hb dX6_apart_66 hl (by decide) rfl (fun ls hl => ?_)
      have hl : lv_has ls 6 [(4, .int (nI 0)), (3, .int (nI v)), (0, .ref ma), (1, .int (nI i)), (2, .int (nI j))] := hl
      refine lv_aload_n hx hb dX6_apart_68 rfl (lv_at hl 2 rfl) ?_
      refine lv_aload_n hx hb dX6_apart_69 rfl (lv_at hl 2 rfl) ?_
      refine va_get (D := (dC, dI)) (ci := 6) (v := .ref m6) (C := RX6) (T := TX6) (N := 16) hx hb hts (tb_c tbX6) hown hK hP 0 rfl rfl 8 (by decide) (hw _ tw_349) (fun _ h9 => h9) rfl dX6_apart_70 ?_
      refine lv_iload_n hx hb dX6_apart_73 rfl (lv_at hl 1 rfl) ?_
      refine cx_iald hx hb hK hP 7 0 rfl rfl (by first | decide | omega) (v := nI (on v)) (i := v) rfl (by first | omega | exact hB _ (by omega) | exact Nat.lt_of_lt_of_le (hB _ (by omega)) (by omega)) dX6_apart_74 ?_
      refine lv_iload_n hx hb dX6_apart_75 rfl (lv_at hl 4 rfl) ?_
      refine cx_si (va_runV (As := [.int (nI (on v)), .int (nI j)]) (rest := []) ⟨hx, hb, hml, hown, hts⟩ (c_X6_joined l dC dI kI kL ma m1 m2 m3 m4 m5 m6 m7 m8 m9 mA mB mC n k d dp g9 (on v) j (by first | assumption | omega | rfl) (by first | assumption | omega | rfl) (by first | assumption | omega | rfl) (by first | assumption | omega | rfl)) (cwV 2 hts gv_X6_74 rfl rfl rfl hdX6_joined ⟨Nat.le_of_ble_eq_true rfl, Nat.le_of_ble_eq_true rfl⟩) (cx_preV (hP.sub (ws' := [(ma, .inr (6, [.int (nI n), .ref m1, .ref m2, .ref m3, .int (nI k), .ref m4, .ref m5, .int (nI d), .ref m6, .ref m7, .int (nI dp), .ref m8, .ref m9, .ref mA, .ref mB, .ref mC])), (mB, .inl (kI, 40, .inl (cI g9)))]) [0, 6] rfl) hK rfl (q0 := 0) rfl) rfl rfl hl.1 rfl (lv_room (Nat.le_of_ble_eq_true rfl)) dX6_apart_76 ⟨Nat.zero_le _, Nat.zero_le _⟩) (fun r hres => ?_)
      subst hres
      refine cx_if0 (tgt := 100) hx hb dX6_apart_79 (by decide) (fun b5 => ?_) (fun b5 => ?_)
      · skip
        refine lv_iconst (v := nI 0) hx hb dX6_apart_100 (by decide) ?_
        refine lv_istore hx hb dX6_apart_101 hl (by decide) rfl (fun ls hl => ?_)
        have hl : lv_has ls 6 [(5, .int (nI 0)), (4, .int (nI 0)), (3, .int (nI v)), (0, .ref ma), (1, .int (nI i)), (2, .int (nI j))] := hl
        refine lv_iload hx hb dX6_apart_103 (lv_at hl 1 rfl) ?_
        refine cx_nne (x := 0) (tgt := 113) hx hb dX6_apart_105 (by decide) (by decide) (fun h9 => absurd h9 (by decide)) (fun _ => ?_)
        refine lv_iload hx hb dX6_apart_108 (lv_at hl 0 rfl) ?_
        refine cx_neq (x := 0) (tgt := 115) hx hb dX6_apart_110 (by decide) (by decide) (fun _ => ?_) (fun h9 => absurd h9 (by decide))
        refine lv_iinc (k := 2) (v := nI (v + 1)) hx hb dX6_apart_115 hl rfl cx_inc1 (by decide) rfl (fun ls hl => ?_)
        have hl : lv_has ls 6 [(3, .int (nI (v + 1))), (5, .int (nI 0)), (4, .int (nI 0)), (0, .ref ma), (1, .int (nI i)), (2, .int (nI j))] := hl
        refine lv_goto (tgt := 25) hx hb dX6_apart_118 (by decide) ?_
        exact ih1 (v + 1) _ _ _ ⟨lv_sub hl [0, 3, 4, 5] rfl, hP, hD, hS, (by first | assumption | omega | rfl), (cg_sr_s hno (cg_PA_f (by first | exact fun h => of_decide_eq_false b3 h.1 | exact fun h => of_decide_eq_false b4 h.2) (by first | exact fun h => of_decide_eq_false b5 h.1 | exact fun h => of_decide_eq_false b6 h.2)))⟩ (by show d - (v + 1) < d - v; omega)
      refine lv_aload_n hx hb dX6_apart_82 rfl (lv_at hl 2 rfl) ?_
      refine lv_aload_n hx hb dX6_apart_83 rfl (lv_at hl 2 rfl) ?_
      refine va_get (D := (dC, dI)) (ci := 6) (v := .ref m7) (C := RX6) (T := TX6) (N := 16) hx hb hts (tb_c tbX6) hown hK hP 0 rfl rfl 9 (by decide) (hw _ tw_350) (fun _ h9 => h9) rfl dX6_apart_84 ?_
      refine lv_iload_n hx hb dX6_apart_87 rfl (lv_at hl 1 rfl) ?_
      refine cx_iald hx hb hK hP 8 0 rfl rfl (by first | decide | omega) (v := nI (ot v)) (i := v) rfl (by first | omega | exact hB _ (by omega) | exact Nat.lt_of_lt_of_le (hB _ (by omega)) (by omega)) dX6_apart_88 ?_
      refine lv_iload_n hx hb dX6_apart_89 rfl (lv_at hl 3 rfl) ?_
      refine cx_si (va_runV (As := [.int (nI (ot v)), .int (nI i)]) (rest := []) ⟨hx, hb, hml, hown, hts⟩ (c_X6_joined l dC dI kI kL ma m1 m2 m3 m4 m5 m6 m7 m8 m9 mA mB mC n k d dp g9 (ot v) i (by first | assumption | omega | rfl) (by first | assumption | omega | rfl) (by first | assumption | omega | rfl) (by first | assumption | omega | rfl)) (cwV 2 hts gv_X6_74 rfl rfl rfl hdX6_joined ⟨Nat.le_of_ble_eq_true rfl, Nat.le_of_ble_eq_true rfl⟩) (cx_preV (hP.sub (ws' := [(ma, .inr (6, [.int (nI n), .ref m1, .ref m2, .ref m3, .int (nI k), .ref m4, .ref m5, .int (nI d), .ref m6, .ref m7, .int (nI dp), .ref m8, .ref m9, .ref mA, .ref mB, .ref mC])), (mB, .inl (kI, 40, .inl (cI g9)))]) [0, 6] rfl) hK rfl (q0 := 0) rfl) rfl rfl hl.1 rfl (lv_room (Nat.le_of_ble_eq_true rfl)) dX6_apart_90 ⟨Nat.zero_le _, Nat.zero_le _⟩) (fun r hres => ?_)
      subst hres
      refine cx_if0 (tgt := 100) hx hb dX6_apart_93 (by decide) (fun b6 => ?_) (fun b6 => ?_)
      · skip
        refine lv_iconst (v := nI 0) hx hb dX6_apart_100 (by decide) ?_
        refine lv_istore hx hb dX6_apart_101 hl (by decide) rfl (fun ls hl => ?_)
        have hl : lv_has ls 6 [(5, .int (nI 0)), (4, .int (nI 0)), (3, .int (nI v)), (0, .ref ma), (1, .int (nI i)), (2, .int (nI j))] := hl
        refine lv_iload hx hb dX6_apart_103 (lv_at hl 1 rfl) ?_
        refine cx_nne (x := 0) (tgt := 113) hx hb dX6_apart_105 (by decide) (by decide) (fun h9 => absurd h9 (by decide)) (fun _ => ?_)
        refine lv_iload hx hb dX6_apart_108 (lv_at hl 0 rfl) ?_
        refine cx_neq (x := 0) (tgt := 115) hx hb dX6_apart_110 (by decide) (by decide) (fun _ => ?_) (fun h9 => absurd h9 (by decide))
        refine lv_iinc (k := 2) (v := nI (v + 1)) hx hb dX6_apart_115 hl rfl cx_inc1 (by decide) rfl (fun ls hl => ?_)
        have hl : lv_has ls 6 [(3, .int (nI (v + 1))), (5, .int (nI 0)), (4, .int (nI 0)), (0, .ref ma), (1, .int (nI i)), (2, .int (nI j))] := hl
        refine lv_goto (tgt := 25) hx hb dX6_apart_118 (by decide) ?_
        exact ih1 (v + 1) _ _ _ ⟨lv_sub hl [0, 3, 4, 5] rfl, hP, hD, hS, (by first | assumption | omega | rfl), (cg_sr_s hno (cg_PA_f (by first | exact fun h => of_decide_eq_false b3 h.1 | exact fun h => of_decide_eq_false b4 h.2) (by first | exact fun h => of_decide_eq_false b5 h.1 | exact fun h => of_decide_eq_false b6 h.2)))⟩ (by show d - (v + 1) < d - v; omega)
      refine lv_iconst (v := nI 1) hx hb dX6_apart_96 (by decide) ?_
      refine lv_goto (tgt := 101) hx hb dX6_apart_97 (by decide) ?_
      refine lv_istore hx hb dX6_apart_101 hl (by decide) rfl (fun ls hl => ?_)
      have hl : lv_has ls 6 [(5, .int (nI 1)), (4, .int (nI 0)), (3, .int (nI v)), (0, .ref ma), (1, .int (nI i)), (2, .int (nI j))] := hl
      refine lv_iload hx hb dX6_apart_103 (lv_at hl 1 rfl) ?_
      refine cx_nne (x := 0) (tgt := 113) hx hb dX6_apart_105 (by decide) (by decide) (fun h9 => absurd h9 (by decide)) (fun _ => ?_)
      refine lv_iload hx hb dX6_apart_108 (lv_at hl 0 rfl) ?_
      refine cx_neq (x := 1) (tgt := 115) hx hb dX6_apart_110 (by decide) (by decide) (fun h9 => absurd h9 (by decide)) (fun _ => ?_)
      refine lv_iconst (v := nI 1) hx hb dX6_apart_113 (by decide) ?_
      exact W.iret (v := nI 1) hx hb hr (fun t ht hW => ⟨⟨_, g9, rfl, (an_apart_y qn hi hj hno (by first | exact cg_PA_t (Or.inl ⟨of_decide_eq_true b3, of_decide_eq_true b4⟩) | exact cg_PA_t (Or.inr ⟨of_decide_eq_true b5, of_decide_eq_true b6⟩)) b2).trans (an_apart_ag qn qo hg9), by rw [ht]; exact hP, hD⟩, hS.F ht⟩) hS.2.2 dX6_apart_114
    refine lv_iconst (v := nI 1) hx hb dX6_apart_61 (by decide) ?_
    refine lv_goto (tgt := 66) hx hb dX6_apart_62 (by decide) ?_
    refine lv_istore hx hb dX6_apart_66 hl (by decide) rfl (fun ls hl => ?_)
    have hl : lv_has ls 6 [(4, .int (nI 1)), (3, .int (nI v)), (0, .ref ma), (1, .int (nI i)), (2, .int (nI j))] := hl
    refine lv_aload_n hx hb dX6_apart_68 rfl (lv_at hl 2 rfl) ?_
    refine lv_aload_n hx hb dX6_apart_69 rfl (lv_at hl 2 rfl) ?_
    refine va_get (D := (dC, dI)) (ci := 6) (v := .ref m6) (C := RX6) (T := TX6) (N := 16) hx hb hts (tb_c tbX6) hown hK hP 0 rfl rfl 8 (by decide) (hw _ tw_349) (fun _ h9 => h9) rfl dX6_apart_70 ?_
    refine lv_iload_n hx hb dX6_apart_73 rfl (lv_at hl 1 rfl) ?_
    refine cx_iald hx hb hK hP 7 0 rfl rfl (by first | decide | omega) (v := nI (on v)) (i := v) rfl (by first | omega | exact hB _ (by omega) | exact Nat.lt_of_lt_of_le (hB _ (by omega)) (by omega)) dX6_apart_74 ?_
    refine lv_iload_n hx hb dX6_apart_75 rfl (lv_at hl 4 rfl) ?_
    refine cx_si (va_runV (As := [.int (nI (on v)), .int (nI j)]) (rest := []) ⟨hx, hb, hml, hown, hts⟩ (c_X6_joined l dC dI kI kL ma m1 m2 m3 m4 m5 m6 m7 m8 m9 mA mB mC n k d dp g9 (on v) j (by first | assumption | omega | rfl) (by first | assumption | omega | rfl) (by first | assumption | omega | rfl) (by first | assumption | omega | rfl)) (cwV 2 hts gv_X6_74 rfl rfl rfl hdX6_joined ⟨Nat.le_of_ble_eq_true rfl, Nat.le_of_ble_eq_true rfl⟩) (cx_preV (hP.sub (ws' := [(ma, .inr (6, [.int (nI n), .ref m1, .ref m2, .ref m3, .int (nI k), .ref m4, .ref m5, .int (nI d), .ref m6, .ref m7, .int (nI dp), .ref m8, .ref m9, .ref mA, .ref mB, .ref mC])), (mB, .inl (kI, 40, .inl (cI g9)))]) [0, 6] rfl) hK rfl (q0 := 0) rfl) rfl rfl hl.1 rfl (lv_room (Nat.le_of_ble_eq_true rfl)) dX6_apart_76 ⟨Nat.zero_le _, Nat.zero_le _⟩) (fun r hres => ?_)
    subst hres
    refine cx_if0 (tgt := 100) hx hb dX6_apart_79 (by decide) (fun b5 => ?_) (fun b5 => ?_)
    · skip
      refine lv_iconst (v := nI 0) hx hb dX6_apart_100 (by decide) ?_
      refine lv_istore hx hb dX6_apart_101 hl (by decide) rfl (fun ls hl => ?_)
      have hl : lv_has ls 6 [(5, .int (nI 0)), (4, .int (nI 1)), (3, .int (nI v)), (0, .ref ma), (1, .int (nI i)), (2, .int (nI j))] := hl
      refine lv_iload hx hb dX6_apart_103 (lv_at hl 1 rfl) ?_
      refine cx_nne (x := 1) (tgt := 113) hx hb dX6_apart_105 (by decide) (by decide) (fun _ => ?_) (fun h9 => absurd h9 (by decide))
      refine lv_iconst (v := nI 1) hx hb dX6_apart_113 (by decide) ?_
      exact W.iret (v := nI 1) hx hb hr (fun t ht hW => ⟨⟨_, g9, rfl, (an_apart_y qn hi hj hno (by first | exact cg_PA_t (Or.inl ⟨of_decide_eq_true b3, of_decide_eq_true b4⟩) | exact cg_PA_t (Or.inr ⟨of_decide_eq_true b5, of_decide_eq_true b6⟩)) b2).trans (an_apart_ag qn qo hg9), by rw [ht]; exact hP, hD⟩, hS.F ht⟩) hS.2.2 dX6_apart_114
    refine lv_aload_n hx hb dX6_apart_82 rfl (lv_at hl 2 rfl) ?_
    refine lv_aload_n hx hb dX6_apart_83 rfl (lv_at hl 2 rfl) ?_
    refine va_get (D := (dC, dI)) (ci := 6) (v := .ref m7) (C := RX6) (T := TX6) (N := 16) hx hb hts (tb_c tbX6) hown hK hP 0 rfl rfl 9 (by decide) (hw _ tw_350) (fun _ h9 => h9) rfl dX6_apart_84 ?_
    refine lv_iload_n hx hb dX6_apart_87 rfl (lv_at hl 1 rfl) ?_
    refine cx_iald hx hb hK hP 8 0 rfl rfl (by first | decide | omega) (v := nI (ot v)) (i := v) rfl (by first | omega | exact hB _ (by omega) | exact Nat.lt_of_lt_of_le (hB _ (by omega)) (by omega)) dX6_apart_88 ?_
    refine lv_iload_n hx hb dX6_apart_89 rfl (lv_at hl 3 rfl) ?_
    refine cx_si (va_runV (As := [.int (nI (ot v)), .int (nI i)]) (rest := []) ⟨hx, hb, hml, hown, hts⟩ (c_X6_joined l dC dI kI kL ma m1 m2 m3 m4 m5 m6 m7 m8 m9 mA mB mC n k d dp g9 (ot v) i (by first | assumption | omega | rfl) (by first | assumption | omega | rfl) (by first | assumption | omega | rfl) (by first | assumption | omega | rfl)) (cwV 2 hts gv_X6_74 rfl rfl rfl hdX6_joined ⟨Nat.le_of_ble_eq_true rfl, Nat.le_of_ble_eq_true rfl⟩) (cx_preV (hP.sub (ws' := [(ma, .inr (6, [.int (nI n), .ref m1, .ref m2, .ref m3, .int (nI k), .ref m4, .ref m5, .int (nI d), .ref m6, .ref m7, .int (nI dp), .ref m8, .ref m9, .ref mA, .ref mB, .ref mC])), (mB, .inl (kI, 40, .inl (cI g9)))]) [0, 6] rfl) hK rfl (q0 := 0) rfl) rfl rfl hl.1 rfl (lv_room (Nat.le_of_ble_eq_true rfl)) dX6_apart_90 ⟨Nat.zero_le _, Nat.zero_le _⟩) (fun r hres => ?_)
    subst hres
    refine cx_if0 (tgt := 100) hx hb dX6_apart_93 (by decide) (fun b6 => ?_) (fun b6 => ?_)
    · skip
      refine lv_iconst (v := nI 0) hx hb dX6_apart_100 (by decide) ?_
      refine lv_istore hx hb dX6_apart_101 hl (by decide) rfl (fun ls hl => ?_)
      have hl : lv_has ls 6 [(5, .int (nI 0)), (4, .int (nI 1)), (3, .int (nI v)), (0, .ref ma), (1, .int (nI i)), (2, .int (nI j))] := hl
      refine lv_iload hx hb dX6_apart_103 (lv_at hl 1 rfl) ?_
      refine cx_nne (x := 1) (tgt := 113) hx hb dX6_apart_105 (by decide) (by decide) (fun _ => ?_) (fun h9 => absurd h9 (by decide))
      refine lv_iconst (v := nI 1) hx hb dX6_apart_113 (by decide) ?_
      exact W.iret (v := nI 1) hx hb hr (fun t ht hW => ⟨⟨_, g9, rfl, (an_apart_y qn hi hj hno (by first | exact cg_PA_t (Or.inl ⟨of_decide_eq_true b3, of_decide_eq_true b4⟩) | exact cg_PA_t (Or.inr ⟨of_decide_eq_true b5, of_decide_eq_true b6⟩)) b2).trans (an_apart_ag qn qo hg9), by rw [ht]; exact hP, hD⟩, hS.F ht⟩) hS.2.2 dX6_apart_114
    refine lv_iconst (v := nI 1) hx hb dX6_apart_96 (by decide) ?_
    refine lv_goto (tgt := 101) hx hb dX6_apart_97 (by decide) ?_
    refine lv_istore hx hb dX6_apart_101 hl (by decide) rfl (fun ls hl => ?_)
    have hl : lv_has ls 6 [(5, .int (nI 1)), (4, .int (nI 1)), (3, .int (nI v)), (0, .ref ma), (1, .int (nI i)), (2, .int (nI j))] := hl
    refine lv_iload hx hb dX6_apart_103 (lv_at hl 1 rfl) ?_
    refine cx_nne (x := 1) (tgt := 113) hx hb dX6_apart_105 (by decide) (by decide) (fun _ => ?_) (fun h9 => absurd h9 (by decide))
    refine lv_iconst (v := nI 1) hx hb dX6_apart_113 (by decide) ?_
    exact W.iret (v := nI 1) hx hb hr (fun t ht hW => ⟨⟨_, g9, rfl, (an_apart_y qn hi hj hno (by first | exact cg_PA_t (Or.inl ⟨of_decide_eq_true b3, of_decide_eq_true b4⟩) | exact cg_PA_t (Or.inr ⟨of_decide_eq_true b5, of_decide_eq_true b6⟩)) b2).trans (an_apart_ag qn qo hg9), by rw [ht]; exact hP, hD⟩, hS.F ht⟩) hS.2.2 dX6_apart_114
  refine lv_bipush (v := (-2)) hx hb dX6_apart_16 (by decide) ?_
  exact W.iret (v := (-2)) hx hb hr (fun t ht hW => ⟨⟨_, f, rfl, an_apart_b (by first | exact fun h => of_decide_eq_false b0 h.1 | exact fun h => of_decide_eq_false b1 h.2), by rw [ht]; exact hP, hD⟩, hS.F ht⟩) hS.2.2 dX6_apart_18

set_option maxHeartbeats 4000000 in
set_option maxRecDepth 100000 in
theorem c_X6_consistent (l : Launch) (dC : Nat → ClassId) (dI : Nat → Nat → Nat) (kI kL : ClassId) (ma : Nat) (m1 : Nat) (m2 : Nat) (m3 : Nat) (m4 : Nat) (m5 : Nat) (m6 : Nat) (m7 : Nat) (m8 : Nat) (m9 : Nat) (mA : Nat) (mB : Nat) (mC : Nat) (n : Nat) (k : Nat) (d : Nat) (dp : Nat) (S : Nat → Int32) (F : Nat → Nat) (E : Nat → Nat) (lf : Nat → Nat) (rt : Nat → Nat) (f : Nat → Nat) (on : Nat → Nat) (ot : Nat → Nat) (qn : n ≤ 40) (qw : cg_wf (S, F, E) n) (qk : k ≤ 24) (qe : cg_we n lf rt k) (qd : d ≤ 16) (qo : cg_we n on ot d) (sz : Nat) : Met l yX6_consistent (.code yX6_consistent cX6_consistent 3 (some .boolean) :: tbw) { frames := 5, cells := 0, slots := 0, locals := 111 } (va_Pc [.ref ma] (cx_M (dC, dI) vwCl [(ma, .inr (6, [.int (nI n), .ref m1, .ref m2, .ref m3, .int (nI k), .ref m4, .ref m5, .int (nI d), .ref m6, .ref m7, .int (nI dp), .ref m8, .ref m9, .ref mA, .ref mB, .ref mC])), (m1, .inl (kI, 40, .inl S)), (m2, .inl (kI, 40, .inl (cA F))), (m3, .inl (kI, 40, .inl (cA E))), (m4, .inl (kI, 24, .inl (cI lf))), (m5, .inl (kI, 24, .inl (cI rt))), (mB, .inl (kI, 40, .inl (cI f))), (m6, .inl (kI, 16, .inl (cI on))), (m7, .inl (kI, 16, .inl (cI ot)))] [(kI, .int), (kL, .long)] sz)) (va_Qi (fun (r : Int32) (u : Nat → Nat) => r = bI (an_cons d (cg_LA S F E n lf rt k) on ot)) (cx_B (dC, dI) vwCl (va_A [(ma, .inr (6, [.int (nI n), .ref m1, .ref m2, .ref m3, .int (nI k), .ref m4, .ref m5, .int (nI d), .ref m6, .ref m7, .int (nI dp), .ref m8, .ref m9, .ref mA, .ref mB, .ref mC])), (m1, .inl (kI, 40, .inl S)), (m2, .inl (kI, 40, .inl (cA F))), (m3, .inl (kI, 40, .inl (cA E))), (m4, .inl (kI, 24, .inl (cI lf))), (m5, .inl (kI, 24, .inl (cI rt))), (mB, .inl (kI, 40, .inl (cI f))), (m6, .inl (kI, 16, .inl (cI on))), (m7, .inl (kI, 16, .inl (cI ot)))] sz) (fun u : Nat → Nat => [(ma, .inr (6, [.int (nI n), .ref m1, .ref m2, .ref m3, .int (nI k), .ref m4, .ref m5, .int (nI d), .ref m6, .ref m7, .int (nI dp), .ref m8, .ref m9, .ref mA, .ref mB, .ref mC])), (m1, .inl (kI, 40, .inl S)), (m2, .inl (kI, 40, .inl (cA F))), (m3, .inl (kI, 40, .inl (cA E))), (m4, .inl (kI, 24, .inl (cI lf))), (m5, .inl (kI, 24, .inl (cI rt))), (mB, .inl (kI, 40, .inl (cI u))), (m6, .inl (kI, 16, .inl (cI on))), (m7, .inl (kI, 16, .inl (cI ot)))])) (va_A [(ma, .inr (6, [.int (nI n), .ref m1, .ref m2, .ref m3, .int (nI k), .ref m4, .ref m5, .int (nI d), .ref m6, .ref m7, .int (nI dp), .ref m8, .ref m9, .ref mA, .ref mB, .ref mC])), (m1, .inl (kI, 40, .inl S)), (m2, .inl (kI, 40, .inl (cA F))), (m3, .inl (kI, 40, .inl (cA E))), (m4, .inl (kI, 24, .inl (cI lf))), (m5, .inl (kI, 24, .inl (cI rt))), (mB, .inl (kI, 40, .inl (cI f))), (m6, .inl (kI, 16, .inl (cI on))), (m7, .inl (kI, 16, .inl (cI ot)))] sz)) 0 0 (va_A [(ma, .inr (6, [.int (nI n), .ref m1, .ref m2, .ref m3, .int (nI k), .ref m4, .ref m5, .int (nI d), .ref m6, .ref m7, .int (nI dp), .ref m8, .ref m9, .ref mA, .ref mB, .ref mC])), (m1, .inl (kI, 40, .inl S)), (m2, .inl (kI, 40, .inl (cA F))), (m3, .inl (kI, 40, .inl (cA E))), (m4, .inl (kI, 24, .inl (cI lf))), (m5, .inl (kI, 24, .inl (cI rt))), (mB, .inl (kI, 40, .inl (cI f))), (m6, .inl (kI, 16, .inl (cI on))), (m7, .inl (kI, 16, .inl (cI ot)))] sz) := by
  refine Met.ofW (cc := cX6_consistent) (maxL := 3) (ret := (some .boolean)) (by decide) rfl ?_
  intro p e s m args below meth c s₁ B hml hv
  obtain ⟨rfl, hsz, hP, hK, hD0⟩ := hv
  have hx := B.exec
  have hb := B.bytes
  have hr := B.returns
  have hts := atoms_spec (ws := .code yX6_consistent cX6_consistent 3 (some .boolean) :: tbw) B.pre
  have hw : ∀ w ∈ tbw, w.before _ s = true := fun w h => hts w (List.mem_cons_of_mem _ h)
  have hown : s.vm.findClass RX6 = some m.cls := findClass_of_methodNamed B.named
  subst hsz
  have hD := hD0.self (sz := s.heap.size)
  generalize hAe : va_A [(ma, .inr (6, [.int (nI n), .ref m1, .ref m2, .ref m3, .int (nI k), .ref m4, .ref m5, .int (nI d), .ref m6, .ref m7, .int (nI dp), .ref m8, .ref m9, .ref mA, .ref mB, .ref mC])), (m1, .inl (kI, 40, .inl S)), (m2, .inl (kI, 40, .inl (cA F))), (m3, .inl (kI, 40, .inl (cA E))), (m4, .inl (kI, 24, .inl (cI lf))), (m5, .inl (kI, 24, .inl (cI rt))), (mB, .inl (kI, 40, .inl (cI f))), (m6, .inl (kI, 16, .inl (cI on))), (m7, .inl (kI, 16, .inl (cI ot)))] s.heap.size = AA at hD ⊢
  have hA : ∀ q : Nat, s.heap.size ≤ q → AA q := fun q h => by rw [← hAe]; exact Or.inr h
  have hS : va_S AA s.heap s.heap [] := va_S.rf
  have hP : va_P (dC, dI) vwCl [(ma, .inr (6, [.int (nI n), .ref m1, .ref m2, .ref m3, .int (nI k), .ref m4, .ref m5, .int (nI d), .ref m6, .ref m7, .int (nI dp), .ref m8, .ref m9, .ref mA, .ref mB, .ref mC])), (m1, .inl (kI, 40, .inl S)), (m2, .inl (kI, 40, .inl (cA F))), (m3, .inl (kI, 40, .inl (cA E))), (m4, .inl (kI, 24, .inl (cI lf))), (m5, .inl (kI, 24, .inl (cI rt))), (mB, .inl (kI, 40, .inl (cI f))), (m6, .inl (kI, 16, .inl (cI on))), (m7, .inl (kI, 16, .inl (cI ot)))] s.heap := hP
  have hl := lv_entry ([.ref ma]) (n := 3) (Nat.le_of_ble_eq_true rfl)
  rw [lg_entry_eq]
  generalize (lg_sl ([.ref ma]) ++ List.replicate (3 - (lg_sl ([.ref ma])).length) Slot.unset).toArray = ls at hl ⊢
  have hl : lv_has ls 3 [(0, .ref ma)] := hl
  refine lv_aload_n hx hb dX6_consistent_0 rfl (lv_at hl 0 rfl) ?_
  refine cx_mv (wc := [(ma, .inr (6, [.int (nI n), .ref m1, .ref m2, .ref m3, .int (nI k), .ref m4, .ref m5, .int (nI d), .ref m6, .ref m7, .int (nI dp), .ref m8, .ref m9, .ref mA, .ref mB, .ref mC])), (m1, .inl (kI, 40, .inl S)), (m2, .inl (kI, 40, .inl (cA F))), (m3, .inl (kI, 40, .inl (cA E))), (m4, .inl (kI, 24, .inl (cI lf))), (m5, .inl (kI, 24, .inl (cI rt))), (mB, .inl (kI, 40, .inl (cI f)))]) (wr := [(m6, .inl (kI, 16, .inl (cI on))), (m7, .inl (kI, 16, .inl (cI ot)))]) hP hD hS hA [0, 1, 2, 3, 4, 5, 6] [7, 8] rfl rfl (by decide) (by decide) (va_runV (As := []) (rest := []) ⟨hx, hb, hml, hown, hts⟩ (c_X6_workAll l dC dI kI kL ma m1 m2 m3 m4 m5 m6 m7 m8 m9 mA mB mC n k d dp S F E lf rt f (by first | assumption | omega | rfl) (by first | assumption | omega | rfl) (by first | assumption | omega | rfl) (by first | assumption | omega | rfl) _) (cwV 0 hts gv_X6_85 rfl rfl rfl hdX6_workAll ⟨Nat.le_of_ble_eq_true rfl, Nat.le_of_ble_eq_true rfl⟩) (cx_mreV (hP.sub (ws' := [(ma, .inr (6, [.int (nI n), .ref m1, .ref m2, .ref m3, .int (nI k), .ref m4, .ref m5, .int (nI d), .ref m6, .ref m7, .int (nI dp), .ref m8, .ref m9, .ref mA, .ref mB, .ref mC])), (m1, .inl (kI, 40, .inl S)), (m2, .inl (kI, 40, .inl (cA F))), (m3, .inl (kI, 40, .inl (cA E))), (m4, .inl (kI, 24, .inl (cI lf))), (m5, .inl (kI, 24, .inl (cI rt))), (mB, .inl (kI, 40, .inl (cI f)))]) [0, 1, 2, 3, 4, 5, 6] rfl) hK (hD.sub (ws' := [(ma, .inr (6, [.int (nI n), .ref m1, .ref m2, .ref m3, .int (nI k), .ref m4, .ref m5, .int (nI d), .ref m6, .ref m7, .int (nI dp), .ref m8, .ref m9, .ref mA, .ref mB, .ref mC])), (m1, .inl (kI, 40, .inl S)), (m2, .inl (kI, 40, .inl (cA F))), (m3, .inl (kI, 40, .inl (cA E))), (m4, .inl (kI, 24, .inl (cI lf))), (m5, .inl (kI, 24, .inl (cI rt))), (mB, .inl (kI, 40, .inl (cI f)))]) [0, 1, 2, 3, 4, 5, 6] (by decide) rfl) rfl (q0 := 0) rfl) rfl rfl hl.1 rfl (lv_room (Nat.le_of_ble_eq_true rfl)) dX6_consistent_1 ⟨Nat.zero_le _, Nat.zero_le _⟩) (fun g9 H locs hres hP hD hS => ?_)
  have hg9 := hres
  have hP : va_P (dC, dI) vwCl [(ma, .inr (6, [.int (nI n), .ref m1, .ref m2, .ref m3, .int (nI k), .ref m4, .ref m5, .int (nI d), .ref m6, .ref m7, .int (nI dp), .ref m8, .ref m9, .ref mA, .ref mB, .ref mC])), (m1, .inl (kI, 40, .inl S)), (m2, .inl (kI, 40, .inl (cA F))), (m3, .inl (kI, 40, .inl (cA E))), (m4, .inl (kI, 24, .inl (cI lf))), (m5, .inl (kI, 24, .inl (cI rt))), (mB, .inl (kI, 40, .inl (cI g9))), (m6, .inl (kI, 16, .inl (cI on))), (m7, .inl (kI, 16, .inl (cI ot)))] H := hP.sub (ws' := [(ma, .inr (6, [.int (nI n), .ref m1, .ref m2, .ref m3, .int (nI k), .ref m4, .ref m5, .int (nI d), .ref m6, .ref m7, .int (nI dp), .ref m8, .ref m9, .ref mA, .ref mB, .ref mC])), (m1, .inl (kI, 40, .inl S)), (m2, .inl (kI, 40, .inl (cA F))), (m3, .inl (kI, 40, .inl (cA E))), (m4, .inl (kI, 24, .inl (cI lf))), (m5, .inl (kI, 24, .inl (cI rt))), (mB, .inl (kI, 40, .inl (cI g9))), (m6, .inl (kI, 16, .inl (cI on))), (m7, .inl (kI, 16, .inl (cI ot)))]) [2, 3, 4, 5, 6, 7, 8, 0, 1] rfl
  have hD : va_D AA [(ma, .inr (6, [.int (nI n), .ref m1, .ref m2, .ref m3, .int (nI k), .ref m4, .ref m5, .int (nI d), .ref m6, .ref m7, .int (nI dp), .ref m8, .ref m9, .ref mA, .ref mB, .ref mC])), (m1, .inl (kI, 40, .inl S)), (m2, .inl (kI, 40, .inl (cA F))), (m3, .inl (kI, 40, .inl (cA E))), (m4, .inl (kI, 24, .inl (cI lf))), (m5, .inl (kI, 24, .inl (cI rt))), (mB, .inl (kI, 40, .inl (cI g9))), (m6, .inl (kI, 16, .inl (cI on))), (m7, .inl (kI, 16, .inl (cI ot)))] := hD.sub (ws' := [(ma, .inr (6, [.int (nI n), .ref m1, .ref m2, .ref m3, .int (nI k), .ref m4, .ref m5, .int (nI d), .ref m6, .ref m7, .int (nI dp), .ref m8, .ref m9, .ref mA, .ref mB, .ref mC])), (m1, .inl (kI, 40, .inl S)), (m2, .inl (kI, 40, .inl (cA F))), (m3, .inl (kI, 40, .inl (cA E))), (m4, .inl (kI, 24, .inl (cI lf))), (m5, .inl (kI, 24, .inl (cI rt))), (mB, .inl (kI, 40, .inl (cI g9))), (m6, .inl (kI, 16, .inl (cI on))), (m7, .inl (kI, 16, .inl (cI ot)))]) [2, 3, 4, 5, 6, 7, 8, 0, 1] (by decide) rfl
  have hB := cg_ok_B (cg_ok_ag hg9 (cg_lab_ok qe))
  refine lv_iconst (v := nI 1) hx hb dX6_consistent_4 (by decide) ?_
  refine lv_istore_n hx hb dX6_consistent_5 rfl hl (by decide) rfl (fun ls hl => ?_)
  have hl : lv_has ls 3 [(1, .int (nI 1)), (0, .ref ma)] := hl
  refine lv_iconst (v := nI 0) hx hb dX6_consistent_6 (by decide) ?_
  refine lv_istore_n hx hb dX6_consistent_7 rfl hl (by decide) rfl (fun ls hl => ?_)
  have hl : lv_has ls 3 [(2, .int (nI 0)), (1, .int (nI 1)), (0, .ref ma)] := hl
  refine cx_loop2 (fun (ch : Bool) (v : Nat) (H : Heap) (locs : List Loc) (ls : Array Slot) => lv_has ls 3 [(1, .int (bI ch)), (2, .int (nI v)), (0, .ref ma)] ∧ va_P (dC, dI) vwCl [(ma, .inr (6, [.int (nI n), .ref m1, .ref m2, .ref m3, .int (nI k), .ref m4, .ref m5, .int (nI d), .ref m6, .ref m7, .int (nI dp), .ref m8, .ref m9, .ref mA, .ref mB, .ref mC])), (m1, .inl (kI, 40, .inl S)), (m2, .inl (kI, 40, .inl (cA F))), (m3, .inl (kI, 40, .inl (cA E))), (m4, .inl (kI, 24, .inl (cI lf))), (m5, .inl (kI, 24, .inl (cI rt))), (mB, .inl (kI, 40, .inl (cI g9))), (m6, .inl (kI, 16, .inl (cI on))), (m7, .inl (kI, 16, .inl (cI ot)))] H ∧ va_D AA [(ma, .inr (6, [.int (nI n), .ref m1, .ref m2, .ref m3, .int (nI k), .ref m4, .ref m5, .int (nI d), .ref m6, .ref m7, .int (nI dp), .ref m8, .ref m9, .ref mA, .ref mB, .ref mC])), (m1, .inl (kI, 40, .inl S)), (m2, .inl (kI, 40, .inl (cA F))), (m3, .inl (kI, 40, .inl (cA E))), (m4, .inl (kI, 24, .inl (cI lf))), (m5, .inl (kI, 24, .inl (cI rt))), (mB, .inl (kI, 40, .inl (cI g9))), (m6, .inl (kI, 16, .inl (cI on))), (m7, .inl (kI, 16, .inl (cI ot)))] ∧ va_S AA s.heap H locs ∧ (v ≤ d) ∧ (ch = decide (cg_fs (cg_PC g9 on ot) v = v))) (fun ch v => d - v) (fun ch v H locs ls hI ih1 => ?_) true 0 ⟨lv_sub hl [1, 0, 2] rfl, hP, hD, hS, (by first | assumption | omega | rfl), (rfl)⟩
  obtain ⟨hl, hP, hD, hS, hv1, hch⟩ := hI
  refine lv_iload_n hx hb dX6_consistent_8 rfl (lv_at hl 1 rfl) ?_
  refine lv_aload_n hx hb dX6_consistent_9 rfl (lv_at hl 2 rfl) ?_
  refine va_get (D := (dC, dI)) (ci := 6) (v := .int (nI d)) (C := RX6) (T := TX6) (N := 16) hx hb hts (tb_c tbX6) hown hK hP 0 rfl rfl 7 (by decide) (hw _ tw_348) (fun _ h9 => h9) rfl dX6_consistent_10 ?_
  refine cx_ge (x := v) (y := d) (tgt := 51) hx hb dX6_consistent_13 (by decide) (by first | omega | exact hB _ (by omega) | exact Nat.lt_of_lt_of_le (hB _ (by omega)) (by omega)) (by first | omega | exact hB _ (by omega) | exact Nat.lt_of_lt_of_le (hB _ (by omega)) (by omega)) (fun b0 => ?_) (fun b0 => ?_)
  · skip
    refine lv_iload_n hx hb dX6_consistent_51 rfl (lv_at hl 0 rfl) ?_
    exact W.zret (v := bI ch) hx hb hr (cx_narB _) (fun t ht hW => ⟨⟨_, g9, rfl, cx_con4 qo hg9 hch (Nat.le_antisymm hv1 b0), by rw [ht]; exact hP, hD⟩, hS.F ht⟩) hS.2.2 dX6_consistent_52
  have e1 := qo v b0
  refine lv_iload_n hx hb dX6_consistent_16 rfl (lv_at hl 0 rfl) ?_
  refine cx_if0 (tgt := 43) hx hb dX6_consistent_17 (by decide) (fun b1 => ?_) (fun b1 => ?_)
  · skip
    refine lv_iconst (v := nI 0) hx hb dX6_consistent_43 (by decide) ?_
    refine lv_istore_n hx hb dX6_consistent_44 rfl hl (by decide) rfl (fun ls hl => ?_)
    have hl : lv_has ls 3 [(1, .int (nI 0)), (2, .int (nI v)), (0, .ref ma)] := hl
    refine lv_iinc (k := 1) (v := nI (v + 1)) hx hb dX6_consistent_45 hl rfl cx_inc1 (by decide) rfl (fun ls hl => ?_)
    have hl : lv_has ls 3 [(2, .int (nI (v + 1))), (1, .int (nI 0)), (0, .ref ma)] := hl
    refine lv_goto (tgt := 8) hx hb dX6_consistent_48 (by decide) ?_
    exact ih1 false (v + 1) _ _ _ ⟨lv_sub hl [1, 0, 2] rfl, hP, hD, hS, (by first | assumption | omega | rfl), (by first | exact cx_con1 hch b1 | exact cx_con2 hch b1 b2 | exact cx_con3 hch b2)⟩ (by show d - (v + 1) < d - v; omega)
  refine lv_aload_n hx hb dX6_consistent_20 rfl (lv_at hl 2 rfl) ?_
  refine lv_aload_n hx hb dX6_consistent_21 rfl (lv_at hl 2 rfl) ?_
  refine va_get (D := (dC, dI)) (ci := 6) (v := .ref m6) (C := RX6) (T := TX6) (N := 16) hx hb hts (tb_c tbX6) hown hK hP 0 rfl rfl 8 (by decide) (hw _ tw_349) (fun _ h9 => h9) rfl dX6_consistent_22 ?_
  refine lv_iload_n hx hb dX6_consistent_25 rfl (lv_at hl 1 rfl) ?_
  refine cx_iald hx hb hK hP 7 0 rfl rfl (by first | decide | omega) (v := nI (on v)) (i := v) rfl (by first | omega | exact hB _ (by omega) | exact Nat.lt_of_lt_of_le (hB _ (by omega)) (by omega)) dX6_consistent_26 ?_
  refine lv_aload_n hx hb dX6_consistent_27 rfl (lv_at hl 2 rfl) ?_
  refine va_get (D := (dC, dI)) (ci := 6) (v := .ref m7) (C := RX6) (T := TX6) (N := 16) hx hb hts (tb_c tbX6) hown hK hP 0 rfl rfl 9 (by decide) (hw _ tw_350) (fun _ h9 => h9) rfl dX6_consistent_28 ?_
  refine lv_iload_n hx hb dX6_consistent_31 rfl (lv_at hl 1 rfl) ?_
  refine cx_iald hx hb hK hP 8 0 rfl rfl (by first | decide | omega) (v := nI (ot v)) (i := v) rfl (by first | omega | exact hB _ (by omega) | exact Nat.lt_of_lt_of_le (hB _ (by omega)) (by omega)) dX6_consistent_32 ?_
  refine cx_si (va_runV (As := [.int (nI (on v)), .int (nI (ot v))]) (rest := []) ⟨hx, hb, hml, hown, hts⟩ (c_X6_joined l dC dI kI kL ma m1 m2 m3 m4 m5 m6 m7 m8 m9 mA mB mC n k d dp g9 (on v) (ot v) (by first | assumption | omega | rfl) (by first | assumption | omega | rfl) (by first | assumption | omega | rfl) (by first | assumption | omega | rfl)) (cwV 2 hts gv_X6_74 rfl rfl rfl hdX6_joined ⟨Nat.le_of_ble_eq_true rfl, Nat.le_of_ble_eq_true rfl⟩) (cx_preV (hP.sub (ws' := [(ma, .inr (6, [.int (nI n), .ref m1, .ref m2, .ref m3, .int (nI k), .ref m4, .ref m5, .int (nI d), .ref m6, .ref m7, .int (nI dp), .ref m8, .ref m9, .ref mA, .ref mB, .ref mC])), (mB, .inl (kI, 40, .inl (cI g9)))]) [0, 6] rfl) hK rfl (q0 := 0) rfl) rfl rfl hl.1 rfl (lv_room (Nat.le_of_ble_eq_true rfl)) dX6_consistent_33 ⟨Nat.zero_le _, Nat.zero_le _⟩) (fun r hres => ?_)
  subst hres
  refine cx_if1 (tgt := 43) hx hb dX6_consistent_36 (by decide) (fun b2 => ?_) (fun b2 => ?_)
  · skip
    refine lv_iconst (v := nI 0) hx hb dX6_consistent_43 (by decide) ?_
    refine lv_istore_n hx hb dX6_consistent_44 rfl hl (by decide) rfl (fun ls hl => ?_)
    have hl : lv_has ls 3 [(1, .int (nI 0)), (2, .int (nI v)), (0, .ref ma)] := hl
    refine lv_iinc (k := 1) (v := nI (v + 1)) hx hb dX6_consistent_45 hl rfl cx_inc1 (by decide) rfl (fun ls hl => ?_)
    have hl : lv_has ls 3 [(2, .int (nI (v + 1))), (1, .int (nI 0)), (0, .ref ma)] := hl
    refine lv_goto (tgt := 8) hx hb dX6_consistent_48 (by decide) ?_
    exact ih1 false (v + 1) _ _ _ ⟨lv_sub hl [1, 0, 2] rfl, hP, hD, hS, (by first | assumption | omega | rfl), (by first | exact cx_con1 hch b1 | exact cx_con2 hch b1 b2 | exact cx_con3 hch b2)⟩ (by show d - (v + 1) < d - v; omega)
  refine lv_iconst (v := nI 1) hx hb dX6_consistent_39 (by decide) ?_
  refine lv_goto (tgt := 44) hx hb dX6_consistent_40 (by decide) ?_
  refine lv_istore_n hx hb dX6_consistent_44 rfl hl (by decide) rfl (fun ls hl => ?_)
  have hl : lv_has ls 3 [(1, .int (nI 1)), (2, .int (nI v)), (0, .ref ma)] := hl
  refine lv_iinc (k := 1) (v := nI (v + 1)) hx hb dX6_consistent_45 hl rfl cx_inc1 (by decide) rfl (fun ls hl => ?_)
  have hl : lv_has ls 3 [(2, .int (nI (v + 1))), (1, .int (nI 1)), (0, .ref ma)] := hl
  refine lv_goto (tgt := 8) hx hb dX6_consistent_48 (by decide) ?_
  exact ih1 true (v + 1) _ _ _ ⟨lv_sub hl [1, 0, 2] rfl, hP, hD, hS, (by first | assumption | omega | rfl), (by first | exact cx_con1 hch b1 | exact cx_con2 hch b1 b2 | exact cx_con3 hch b2)⟩ (by show d - (v + 1) < d - v; omega)
