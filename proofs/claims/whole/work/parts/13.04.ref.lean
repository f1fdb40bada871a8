set_option maxHeartbeats 4000000 in
set_option maxRecDepth 100000 in
theorem c_X6_make (l : Launch) (dC : Nat → ClassId) (dI : Nat → Nat → Nat) (kI kL : ClassId) (ma : Nat) (m1 : Nat) (m2 : Nat) (m3 : Nat) (m4 : Nat) (m5 : Nat) (m6 : Nat) (m7 : Nat) (m8 : Nat) (m9 : Nat) (mA : Nat) (mB : Nat) (mC : Nat) (n : Nat) (k : Nat) (d : Nat) (dp : Nat) (S : Nat → Int32) (F : Nat → Nat) (E : Nat → Nat) (sy : Int32) (a : Int32) (b : Int32) (qn : n ≤ 40) (qw : cg_wf (S, F, E) n) (sz : Nat) : Met l yX6_make (.code yX6_make cX6_make 5 (some .int) :: tbw) { frames := 2, cells := 0, slots := 0, locals := 45 } (va_Pc [.ref ma, .int sy, .int a, .int b] (cx_M (dC, dI) vwCl [(ma, .inr (6, [.int (nI n), .ref m1, .ref m2, .ref m3, .int (nI k), .ref m4, .ref m5, .int (nI d), .ref m6, .ref m7, .int (nI dp), .ref m8, .ref m9, .ref mA, .ref mB, .ref mC])), (m1, .inl (kI, 40, .inl S)), (m2, .inl (kI, 40, .inl (cA F))), (m3, .inl (kI, 40, .inl (cA E)))] [(kI, .int), (kL, .long)] sz)) (va_Qi (fun (r : Int32) (u : cg_TS) => (r = (an_make n S F E sy a b)) ∧ (u = st_make n S F E sy a b)) (cx_B (dC, dI) vwCl (va_A [(ma, .inr (6, [.int (nI n), .ref m1, .ref m2, .ref m3, .int (nI k), .ref m4, .ref m5, .int (nI d), .ref m6, .ref m7, .int (nI dp), .ref m8, .ref m9, .ref mA, .ref mB, .ref mC])), (m1, .inl (kI, 40, .inl S)), (m2, .inl (kI, 40, .inl (cA F))), (m3, .inl (kI, 40, .inl (cA E)))] sz) (fun u : cg_TS => [(ma, .inr (6, [.int (nI u.1), .ref m1, .ref m2, .ref m3, .int (nI k), .ref m4, .ref m5, .int (nI d), .ref m6, .ref m7, .int (nI dp), .ref m8, .ref m9, .ref mA, .ref mB, .ref mC])), (m1, .inl (kI, 40, .inl u.2.1)), (m2, .inl (kI, 40, .inl (cA u.2.2.1))), (m3, .inl (kI, 40, .inl (cA u.2.2.2)))])) (va_A [(ma, .inr (6, [.int (nI n), .ref m1, .ref m2, .ref m3, .int (nI k), .ref m4, .ref m5, .int (nI d), .ref m6, .ref m7, .int (nI dp), .ref m8, .ref m9, .ref mA, .ref mB, .ref mC])), (m1, .inl (kI, 40, .inl S)), (m2, .inl (kI, 40, .inl (cA F))), (m3, .inl (kI, 40, .inl (cA E)))] sz)) 0 0 (va_A [(ma, .inr (6, [.int (nI n), .ref m1, .ref m2, .ref m3, .int (nI k), .ref m4, .ref m5, .int (nI d), .ref m6, .ref m7, .int (nI dp), .ref m8, .ref m9, .ref mA, .ref mB, .ref mC])), (m1, .inl (kI, 40, .inl S)), (m2, .inl (kI, 40, .inl (cA F))), (m3, .inl (kI, 40, .inl (cA E)))] sz) := by
  refine Met.ofW (cc := cX6_make) (maxL := 5) (ret := (some .int)) (by decide) rfl ?_
  intro p e s m args below meth c s₁ B hml hv
  obtain ⟨rfl, hsz, hP, hK, hD0⟩ := hv
  have hx := B.exec
  have hb := B.bytes
  have hr := B.returns
  have hts := atoms_spec (ws := .code yX6_make cX6_make 5 (some .int) :: tbw) B.pre
  have hw : ∀ w ∈ tbw, w.before _ s = true := fun w h => hts w (List.mem_cons_of_mem _ h)
  have hown : s.vm.findClass RX6 = some m.cls := findClass_of_methodNamed B.named
  subst hsz
  have hD := hD0.self (sz := s.heap.size)
  generalize hAe : va_A [(ma, .inr (6, [.int (nI n), .ref m1, .ref m2, .ref m3, .int (nI k), .ref m4, .ref m5, .int (nI d), .ref m6, .ref m7, .int (nI dp), .ref m8, .ref m9, .ref mA, .ref mB, .ref mC])), (m1, .inl (kI, 40, .inl S)), (m2, .inl (kI, 40, .inl (cA F))), (m3, .inl (kI, 40, .inl (cA E)))] s.heap.size = AA at hD ⊢
  have hA : ∀ q : Nat, s.heap.size ≤ q → AA q := fun q h => by rw [← hAe]; exact Or.inr h
  have hS : va_S AA s.heap s.heap [] := va_S.rf
  have hP : va_P (dC, dI) vwCl [(ma, .inr (6, [.int (nI n), .ref m1, .ref m2, .ref m3, .int (nI k), .ref m4, .ref m5, .int (nI d), .ref m6, .ref m7, .int (nI dp), .ref m8, .ref m9, .ref mA, .ref mB, .ref mC])), (m1, .inl (kI, 40, .inl S)), (m2, .inl (kI, 40, .inl (cA F))), (m3, .inl (kI, 40, .inl (cA E)))] s.heap := hP
  have hl := lv_entry ([.ref ma, .int sy, .int a, .int b]) (n := 5) (Nat.le_of_ble_eq_true rfl)
  rw [lg_entry_eq]
  generalize (lg_sl ([.ref ma, .int sy, .int a, .int b]) ++ List.replicate (5 - (lg_sl ([.ref ma, .int sy, .int a, .int b])).length) Slot.unset).toArray = ls at hl ⊢
  have hl : lv_has ls 5 [(0, .ref ma), (1, .int sy), (2, .int a), (3, .int b)] := hl
  refine lv_aload_n hx hb dX6_make_0 rfl (lv_at hl 0 rfl) ?_
  refine lv_iload_n hx hb dX6_make_1 rfl (lv_at hl 1 rfl) ?_
  refine lv_iload_n hx hb dX6_make_2 rfl (lv_at hl 2 rfl) ?_
  refine lv_iload_n hx hb dX6_make_3 rfl (lv_at hl 3 rfl) ?_
  refine cx_si (va_runV (As := [.int sy, .int a, .int b]) (rest := []) ⟨hx, hb, hml, hown, hts⟩ (c_X6_wrongParts l dC dI kI kL ma m1 m2 m3 m4 m5 m6 m7 m8 m9 mA mB mC n k d dp sy a b ) (cwV 3 hts gv_X6_81 rfl rfl rfl hdX6_wrongParts ⟨Nat.le_of_ble_eq_true rfl, Nat.le_of_ble_eq_true rfl⟩) (cx_preV (hP.sub (ws' := [(ma, .inr (6, [.int (nI n), .ref m1, .ref m2, .ref m3, .int (nI k), .ref m4, .ref m5, .int (nI d), .ref m6, .ref m7, .int (nI dp), .ref m8, .ref m9, .ref mA, .ref mB, .ref mC]))]) [0] rfl) hK rfl (q0 := 0) rfl) rfl rfl hl.1 rfl (lv_room (Nat.le_of_ble_eq_true rfl)) dX6_make_4 ⟨Nat.zero_le _, Nat.zero_le _⟩) (fun r hres => ?_)
  subst hres
  refine cx_if0 (tgt := 13) hx hb dX6_make_7 (by decide) (fun b0 => ?_) (fun b0 => ?_)
  · skip
    have hSh := cx_wsh b0
    obtain ⟨x1, hx1, rfl⟩ := cx_A_x qn (cx_sh_a hSh).1
    obtain ⟨y1, hy1, rfl⟩ := cx_A_x qn (cx_sh_a hSh).2
    refine lv_iconst (v := nI 0) hx hb dX6_make_13 (by decide) ?_
    refine lv_istore hx hb dX6_make_14 hl (by decide) rfl (fun ls hl => ?_)
    have hl : lv_has ls 5 [(4, .int (nI 0)), (0, .ref ma), (1, .int sy), (2, .int (aI x1)), (3, .int (aI y1))] := hl
    refine cx_loop1 (fun (v : Nat) (H : Heap) (locs : List Loc) (ls : Array Slot) => lv_has ls 5 [(4, .int (nI v)), (0, .ref ma), (1, .int sy), (2, .int (aI x1)), (3, .int (aI y1))] ∧ va_P (dC, dI) vwCl [(ma, .inr (6, [.int (nI n), .ref m1, .ref m2, .ref m3, .int (nI k), .ref m4, .ref m5, .int (nI d), .ref m6, .ref m7, .int (nI dp), .ref m8, .ref m9, .ref mA, .ref mB, .ref mC])), (m1, .inl (kI, 40, .inl S)), (m2, .inl (kI, 40, .inl (cA F))), (m3, .inl (kI, 40, .inl (cA E)))] H ∧ va_D AA [(ma, .inr (6, [.int (nI n), .ref m1, .ref m2, .ref m3, .int (nI k), .ref m4, .ref m5, .int (nI d), .ref m6, .ref m7, .int (nI dp), .ref m8, .ref m9, .ref mA, .ref mB, .ref mC])), (m1, .inl (kI, 40, .inl S)), (m2, .inl (kI, 40, .inl (cA F))), (m3, .inl (kI, 40, .inl (cA E)))] ∧ va_S AA s.heap H locs ∧ (v ≤ n) ∧ (∀ u, u < v → cg_PN S F E sy x1 y1 u = false)) (fun v => n - v) (fun v H locs ls hI ih1 => ?_) 0 ⟨lv_sub hl [0, 1, 2, 3, 4] rfl, hP, hD, hS, (by first | assumption | omega | rfl), (fun u h => absurd h (Nat.not_lt_zero u))⟩
    obtain ⟨hl, hP, hD, hS, hv1, hno⟩ := hI
    refine lv_iload hx hb dX6_make_16 (lv_at hl 0 rfl) ?_
    refine lv_aload_n hx hb dX6_make_18 rfl (lv_at hl 1 rfl) ?_
    refine va_get (D := (dC, dI)) (ci := 6) (v := .int (nI n)) (C := RX6) (T := TX6) (N := 16) hx hb hts (tb_c tbX6) hown hK hP 0 rfl rfl 0 (by decide) (hw _ tw_341) (fun _ h9 => h9) rfl dX6_make_19 ?_
    refine cx_ge (x := v) (y := n) (tgt := 67) hx hb dX6_make_22 (by decide) (by first | omega | exact hB _ (by omega) | exact Nat.lt_of_lt_of_le (hB _ (by omega)) (by omega)) (by first | omega | exact hB _ (by omega) | exact Nat.lt_of_lt_of_le (hB _ (by omega)) (by omega)) (fun b1 => ?_) (fun b1 => ?_)
    · skip
      refine lv_aload_n hx hb dX6_make_67 rfl (lv_at hl 1 rfl) ?_
      refine va_get (D := (dC, dI)) (ci := 6) (v := .int (nI n)) (C := RX6) (T := TX6) (N := 16) hx hb hts (tb_c tbX6) hown hK hP 0 rfl rfl 0 (by decide) (hw _ tw_341) (fun _ h9 => h9) rfl dX6_make_68 ?_
      refine lv_bipush (v := nI 40) hx hb dX6_make_71 (by decide) ?_
      refine cx_ne (x := n) (y := 40) (tgt := 79) hx hb dX6_make_73 (by decide) (by first | omega | exact hB _ (by omega) | exact Nat.lt_of_lt_of_le (hB _ (by omega)) (by omega)) (by first | omega | exact hB _ (by omega) | exact Nat.lt_of_lt_of_le (hB _ (by omega)) (by omega)) (fun b5 => ?_) (fun b5 => ?_)
      · skip
        refine lv_aload_n hx hb dX6_make_79 rfl (lv_at hl 1 rfl) ?_
        refine va_get (D := (dC, dI)) (ci := 6) (v := .ref m1) (C := RX6) (T := TX6) (N := 16) hx hb hts (tb_c tbX6) hown hK hP 0 rfl rfl 1 (by decide) (hw _ tw_342) (fun _ h9 => h9) rfl dX6_make_80 ?_
        refine lv_aload_n hx hb dX6_make_83 rfl (lv_at hl 1 rfl) ?_
        refine va_get (D := (dC, dI)) (ci := 6) (v := .int (nI n)) (C := RX6) (T := TX6) (N := 16) hx hb hts (tb_c tbX6) hown hK hP 0 rfl rfl 0 (by decide) (hw _ tw_341) (fun _ h9 => h9) rfl dX6_make_84 ?_
        refine lv_iload_n hx hb dX6_make_87 rfl (lv_at hl 2 rfl) ?_
        refine cx_iast hx hb hK hP hD hS 1 0 rfl rfl (by first | decide | omega) (i := n) (rfl) (by first | omega | exact hB _ (by omega) | exact Nat.lt_of_lt_of_le (hB _ (by omega)) (by omega)) dX6_make_88 (fun H locs hP hD hS => ?_)
        have hP : va_P (dC, dI) vwCl [(ma, .inr (6, [.int (nI n), .ref m1, .ref m2, .ref m3, .int (nI k), .ref m4, .ref m5, .int (nI d), .ref m6, .ref m7, .int (nI dp), .ref m8, .ref m9, .ref mA, .ref mB, .ref mC])), (m1, .inl (kI, 40, .inl (upd S n sy))), (m2, .inl (kI, 40, .inl (cA F))), (m3, .inl (kI, 40, .inl (cA E)))] H := hP
        have hD : va_D AA [(ma, .inr (6, [.int (nI n), .ref m1, .ref m2, .ref m3, .int (nI k), .ref m4, .ref m5, .int (nI d), .ref m6, .ref m7, .int (nI dp), .ref m8, .ref m9, .ref mA, .ref mB, .ref mC])), (m1, .inl (kI, 40, .inl (upd S n sy))), (m2, .inl (kI, 40, .inl (cA F))), (m3, .inl (kI, 40, .inl (cA E)))] := hD
        refine lv_aload_n hx hb dX6_make_89 rfl (lv_at hl 1 rfl) ?_
        refine va_get (D := (dC, dI)) (ci := 6) (v := .ref m2) (C := RX6) (T := TX6) (N := 16) hx hb hts (tb_c tbX6) hown hK hP 0 rfl rfl 2 (by decide) (hw _ tw_343) (fun _ h9 => h9) rfl dX6_make_90 ?_
        refine lv_aload_n hx hb dX6_make_93 rfl (lv_at hl 1 rfl) ?_
        refine va_get (D := (dC, dI)) (ci := 6) (v := .int (nI n)) (C := RX6) (T := TX6) (N := 16) hx hb hts (tb_c tbX6) hown hK hP 0 rfl rfl 0 (by decide) (hw _ tw_341) (fun _ h9 => h9) rfl dX6_make_94 ?_
        refine lv_iload_n hx hb dX6_make_97 rfl (lv_at hl 3 rfl) ?_
        refine cx_iast hx hb hK hP hD hS 2 0 rfl rfl (by first | decide | omega) (i := n) (cA_u) (by first | omega | exact hB _ (by omega) | exact Nat.lt_of_lt_of_le (hB _ (by omega)) (by omega)) dX6_make_98 (fun H locs hP hD hS => ?_)
        have hP : va_P (dC, dI) vwCl [(ma, .inr (6, [.int (nI n), .ref m1, .ref m2, .ref m3, .int (nI k), .ref m4, .ref m5, .int (nI d), .ref m6, .ref m7, .int (nI dp), .ref m8, .ref m9, .ref mA, .ref mB, .ref mC])), (m1, .inl (kI, 40, .inl (upd S n sy))), (m2, .inl (kI, 40, .inl (cA (wt_u F n x1)))), (m3, .inl (kI, 40, .inl (cA E)))] H := hP
        have hD : va_D AA [(ma, .inr (6, [.int (nI n), .ref m1, .ref m2, .ref m3, .int (nI k), .ref m4, .ref m5, .int (nI d), .ref m6, .ref m7, .int (nI dp), .ref m8, .ref m9, .ref mA, .ref mB, .ref mC])), (m1, .inl (kI, 40, .inl (upd S n sy))), (m2, .inl (kI, 40, .inl (cA (wt_u F n x1)))), (m3, .inl (kI, 40, .inl (cA E)))] := hD
        refine lv_aload_n hx hb dX6_make_99 rfl (lv_at hl 1 rfl) ?_
        refine va_get (D := (dC, dI)) (ci := 6) (v := .ref m3) (C := RX6) (T := TX6) (N := 16) hx hb hts (tb_c tbX6) hown hK hP 0 rfl rfl 3 (by decide) (hw _ tw_344) (fun _ h9 => h9) rfl dX6_make_100 ?_
        refine lv_aload_n hx hb dX6_make_103 rfl (lv_at hl 1 rfl) ?_
        refine va_get (D := (dC, dI)) (ci := 6) (v := .int (nI n)) (C := RX6) (T := TX6) (N := 16) hx hb hts (tb_c tbX6) hown hK hP 0 rfl rfl 0 (by decide) (hw _ tw_341) (fun _ h9 => h9) rfl dX6_make_104 ?_
        refine lv_iload_n hx hb dX6_make_107 rfl (lv_at hl 4 rfl) ?_
        refine cx_iast hx hb hK hP hD hS 3 0 rfl rfl (by first | decide | omega) (i := n) (cA_u) (by first | omega | exact hB _ (by omega) | exact Nat.lt_of_lt_of_le (hB _ (by omega)) (by omega)) dX6_make_108 (fun H locs hP hD hS => ?_)
        have hP : va_P (dC, dI) vwCl [(ma, .inr (6, [.int (nI n), .ref m1, .ref m2, .ref m3, .int (nI k), .ref m4, .ref m5, .int (nI d), .ref m6, .ref m7, .int (nI dp), .ref m8, .ref m9, .ref mA, .ref mB, .ref mC])), (m1, .inl (kI, 40, .inl (upd S n sy))), (m2, .inl (kI, 40, .inl (cA (wt_u F n x1)))), (m3, .inl (kI, 40, .inl (cA (wt_u E n y1))))] H := hP
        have hD : va_D AA [(ma, .inr (6, [.int (nI n), .ref m1, .ref m2, .ref m3, .int (nI k), .ref m4, .ref m5, .int (nI d), .ref m6, .ref m7, .int (nI dp), .ref m8, .ref m9, .ref mA, .ref mB, .ref mC])), (m1, .inl (kI, 40, .inl (upd S n sy))), (m2, .inl (kI, 40, .inl (cA (wt_u F n x1)))), (m3, .inl (kI, 40, .inl (cA (wt_u E n y1))))] := hD
        refine lv_aload_n hx hb dX6_make_109 rfl (lv_at hl 1 rfl) ?_
        refine lv_dup hx hb dX6_make_110 rfl ?_
        refine va_get (D := (dC, dI)) (ci := 6) (v := .int (nI n)) (C := RX6) (T := TX6) (N := 16) hx hb hts (tb_c tbX6) hown hK hP 0 rfl rfl 0 (by decide) (hw _ tw_341) (fun _ h9 => h9) rfl dX6_make_111 ?_
        refine lv_iconst (v := nI 1) hx hb dX6_make_114 (by decide) ?_
        refine cx_iadd hx hb dX6_make_115 ?_
        refine va_put (D := (dC, dI)) (ci := 6) (v := .int (nI (n + 1))) (ty := .int) (C := RX6) (T := TX6) (N := 16) hx hb hts (tb_c tbX6) tyX6 tyX6_ok nmX6 hown hK hP hD hS 0 rfl rfl 0 (by decide) (hw _ tw_341) (fun _ h9 => h9) rfl (by decide +kernel) rfl rfl (Nat.le_of_ble_eq_true rfl) dX6_make_116 (fun H locs hP hD hS => ?_)
        have hP : va_P (dC, dI) vwCl [(ma, .inr (6, [.int (nI (n + 1)), .ref m1, .ref m2, .ref m3, .int (nI k), .ref m4, .ref m5, .int (nI d), .ref m6, .ref m7, .int (nI dp), .ref m8, .ref m9, .ref mA, .ref mB, .ref mC])), (m1, .inl (kI, 40, .inl (upd S n sy))), (m2, .inl (kI, 40, .inl (cA (wt_u F n x1)))), (m3, .inl (kI, 40, .inl (cA (wt_u E n y1))))] H := hP
        have hD : va_D AA [(ma, .inr (6, [.int (nI (n + 1)), .ref m1, .ref m2, .ref m3, .int (nI k), .ref m4, .ref m5, .int (nI d), .ref m6, .ref m7, .int (nI dp), .ref m8, .ref m9, .ref mA, .ref mB, .ref mC])), (m1, .inl (kI, 40, .inl (upd S n sy))), (m2, .inl (kI, 40, .inl (cA (wt_u F n x1)))), (m3, .inl (kI, 40, .inl (cA (wt_u E n y1))))] := hD
        refine lv_aload_n hx hb dX6_make_119 rfl (lv_at hl 1 rfl) ?_
        refine va_get (D := (dC, dI)) (ci := 6) (v := .int (nI (n + 1))) (C := RX6) (T := TX6) (N := 16) hx hb hts (tb_c tbX6) hown hK hP 0 rfl rfl 0 (by decide) (hw _ tw_341) (fun _ h9 => h9) rfl dX6_make_120 ?_
        refine lv_iconst (v := nI 1) hx hb dX6_make_123 (by decide) ?_
        refine cx_isub hx hb dX6_make_124 (by omega) ?_
        exact W.iret (v := nI ((n + 1) - 1)) hx hb hr (fun t ht hW => ⟨⟨_, (n + 1, upd S n sy, wt_u F n x1, wt_u E n y1), rfl, ⟨an_make_4 qn hSh hx1 hy1 (cg_sr_n hno b1).symm (by omega), st_make_4 qn hSh hx1 hy1 (cg_sr_n hno b1).symm (by omega)⟩, by rw [ht]; exact hP, hD⟩, hS.F ht⟩) hS.2.2 dX6_make_125
      refine lv_bipush (v := (-3)) hx hb dX6_make_76 (by decide) ?_
      exact W.iret (v := (-3)) hx hb hr (fun t ht hW => ⟨⟨_, (n, S, F, E), rfl, ⟨an_make_3 qn hSh hx1 hy1 (cg_sr_n hno b1).symm (by omega), st_make_3 (by omega)⟩, by rw [ht]; exact hP, hD⟩, hS.F ht⟩) hS.2.2 dX6_make_78
    have e1 : F v ≤ v ∧ E v ≤ v := qw v b1
    refine lv_aload_n hx hb dX6_make_25 rfl (lv_at hl 1 rfl) ?_
    refine va_get (D := (dC, dI)) (ci := 6) (v := .ref m1) (C := RX6) (T := TX6) (N := 16) hx hb hts (tb_c tbX6) hown hK hP 0 rfl rfl 1 (by decide) (hw _ tw_342) (fun _ h9 => h9) rfl dX6_make_26 ?_
    refine lv_iload hx hb dX6_make_29 (lv_at hl 0 rfl) ?_
    refine cx_iald hx hb hK hP 1 0 rfl rfl (by first | decide | omega) (v := (S v)) (i := v) rfl (by first | omega | exact hB _ (by omega) | exact Nat.lt_of_lt_of_le (hB _ (by omega)) (by omega)) dX6_make_31 ?_
    refine lv_iload_n hx hb dX6_make_32 rfl (lv_at hl 2 rfl) ?_
    refine lv_icmp_ne (tgt := 61) hx hb dX6_make_33 (by decide) (fun b2 => ?_) (fun b2 => ?_)
    · skip
      refine lv_iinc (k := 0) (v := nI (v + 1)) hx hb dX6_make_61 hl rfl cx_inc1 (by decide) rfl (fun ls hl => ?_)
      have hl : lv_has ls 5 [(4, .int (nI (v + 1))), (0, .ref ma), (1, .int sy), (2, .int (aI x1)), (3, .int (aI y1))] := hl
      refine lv_goto (tgt := 16) hx hb dX6_make_64 (by decide) ?_
      exact ih1 (v + 1) _ _ _ ⟨lv_sub hl [0, 1, 2, 3, 4] rfl, hP, hD, hS, (by first | assumption | omega | rfl), (cg_sr_s hno (by first | exact cx_nof1 b2 | exact cx_nof2 b3 | exact cx_nof3 b4))⟩ (by show n - (v + 1) < n - v; omega)
    refine lv_aload_n hx hb dX6_make_36 rfl (lv_at hl 1 rfl) ?_
    refine va_get (D := (dC, dI)) (ci := 6) (v := .ref m2) (C := RX6) (T := TX6) (N := 16) hx hb hts (tb_c tbX6) hown hK hP 0 rfl rfl 2 (by decide) (hw _ tw_343) (fun _ h9 => h9) rfl dX6_make_37 ?_
    refine lv_iload hx hb dX6_make_40 (lv_at hl 0 rfl) ?_
    refine cx_iald hx hb hK hP 2 0 rfl rfl (by first | decide | omega) (v := aI (F v)) (i := v) rfl (by first | omega | exact hB _ (by omega) | exact Nat.lt_of_lt_of_le (hB _ (by omega)) (by omega)) dX6_make_42 ?_
    refine lv_iload_n hx hb dX6_make_43 rfl (lv_at hl 3 rfl) ?_
    refine cx_ane (x := (F v)) (y := x1) (tgt := 61) hx hb dX6_make_44 (by decide) (by first | omega | exact hB _ (by omega) | exact Nat.lt_of_lt_of_le (hB _ (by omega)) (by omega)) (by first | omega | exact hB _ (by omega) | exact Nat.lt_of_lt_of_le (hB _ (by omega)) (by omega)) (fun b3 => ?_) (fun b3 => ?_)
    · skip
      refine lv_iinc (k := 0) (v := nI (v + 1)) hx hb dX6_make_61 hl rfl cx_inc1 (by decide) rfl (fun ls hl => ?_)
      have hl : lv_has ls 5 [(4, .int (nI (v + 1))), (0, .ref ma), (1, .int sy), (2, .int (aI x1)), (3, .int (aI y1))] := hl
      refine lv_goto (tgt := 16) hx hb dX6_make_64 (by decide) ?_
      exact ih1 (v + 1) _ _ _ ⟨lv_sub hl [0, 1, 2, 3, 4] rfl, hP, hD, hS, (by first | assumption | omega | rfl), (cg_sr_s hno (by first | exact cx_nof1 b2 | exact cx_nof2 b3 | exact cx_nof3 b4))⟩ (by show n - (v + 1) < n - v; omega)
    refine lv_aload_n hx hb dX6_make_47 rfl (lv_at hl 1 rfl) ?_
    refine va_get (D := (dC, dI)) (ci := 6) (v := .ref m3) (C := RX6) (T := TX6) (N := 16) hx hb hts (tb_c tbX6) hown hK hP 0 rfl rfl 3 (by decide) (hw _ tw_344) (fun _ h9 => h9) rfl dX6_make_48 ?_
    refine lv_iload hx hb dX6_make_51 (lv_at hl 0 rfl) ?_
    refine cx_iald hx hb hK hP 3 0 rfl rfl (by first | decide | omega) (v := aI (E v)) (i := v) rfl (by first | omega | exact hB _ (by omega) | exact Nat.lt_of_lt_of_le (hB _ (by omega)) (by omega)) dX6_make_53 ?_
    refine lv_iload_n hx hb dX6_make_54 rfl (lv_at hl 4 rfl) ?_
    refine cx_ane (x := (E v)) (y := y1) (tgt := 61) hx hb dX6_make_55 (by decide) (by first | omega | exact hB _ (by omega) | exact Nat.lt_of_lt_of_le (hB _ (by omega)) (by omega)) (by first | omega | exact hB _ (by omega) | exact Nat.lt_of_lt_of_le (hB _ (by omega)) (by omega)) (fun b4 => ?_) (fun b4 => ?_)
    · skip
      refine lv_iinc (k := 0) (v := nI (v + 1)) hx hb dX6_make_61 hl rfl cx_inc1 (by decide) rfl (fun ls hl => ?_)
      have hl : lv_has ls 5 [(4, .int (nI (v + 1))), (0, .ref ma), (1, .int sy), (2, .int (aI x1)), (3, .int (aI y1))] := hl
      refine lv_goto (tgt := 16) hx hb dX6_make_64 (by decide) ?_
      exact ih1 (v + 1) _ _ _ ⟨lv_sub hl [0, 1, 2, 3, 4] rfl, hP, hD, hS, (by first | assumption | omega | rfl), (cg_sr_s hno (by first | exact cx_nof1 b2 | exact cx_nof2 b3 | exact cx_nof3 b4))⟩ (by show n - (v + 1) < n - v; omega)
    refine lv_iload hx hb dX6_make_58 (lv_at hl 0 rfl) ?_
    exact W.iret (v := nI v) hx hb hr (fun t ht hW => ⟨⟨_, (n, S, F, E), rfl, ⟨an_make_5 qn hSh hx1 hy1 hno (cx_nof b2 b3 b4) b1, st_make_5 qn hx1 hy1 hno (cx_nof b2 b3 b4) b1⟩, by rw [ht]; exact hP, hD⟩, hS.F ht⟩) hS.2.2 dX6_make_60
  refine lv_bipush (v := (-2)) hx hb dX6_make_10 (by decide) ?_
  exact W.iret (v := (-2)) hx hb hr (fun t ht hW => ⟨⟨_, (n, S, F, E), rfl, ⟨an_make_1 (cx_wno b0), st_make_1 (cx_wno b0)⟩, by rw [ht]; exact hP, hD⟩, hS.F ht⟩) hS.2.2 dX6_make_12

set_option maxHeartbeats 4000000 in
set_option maxRecDepth 100000 in
theorem c_X6_equate (l : Launch) (dC : Nat → ClassId) (dI : Nat → Nat → Nat) (kI kL : ClassId) (ma : Nat) (m1 : Nat) (m2 : Nat) (m3 : Nat) (m4 : Nat) (m5 : Nat) (m6 : Nat) (m7 : Nat) (m8 : Nat) (m9 : Nat) (mA : Nat) (mB : Nat) (mC : Nat) (n : Nat) (k : Nat) (d : Nat) (dp : Nat) (S : Nat → Int32) (F : Nat → Nat) (E : Nat → Nat) (lf : Nat → Nat) (rt : Nat → Nat) (f : Nat → Nat) (x : Int32) (y : Int32) (qn : n ≤ 40) (qw : cg_wf (S, F, E) n) (qk : k ≤ 24) (qe : cg_we n lf rt k) (sz : Nat) : Met l yX6_equate (.code yX6_equate cX6_equate 4 (some .int) :: tbw) { frames := 5, cells := 0, slots := 0, locals := 111 } (va_Pc [.ref ma, .int x, .int y] (cx_M (dC, dI) vwCl [(ma, .inr (6, [.int (nI n), .ref m1, .ref m2, .ref m3, .int (nI k), .ref m4, .ref m5, .int (nI d), .ref m6, .ref m7, .int (nI dp), .ref m8, .ref m9, .ref mA, .ref mB, .ref mC])), (m1, .inl (kI, 40, .inl S)), (m2, .inl (kI, 40, .inl (cA F))), (m3, .inl (kI, 40, .inl (cA E))), (m4, .inl (kI, 24, .inl (cI lf))), (m5, .inl (kI, 24, .inl (cI rt))), (mB, .inl (kI, 40, .inl (cI f)))] [(kI, .int), (kL, .long)] sz)) (va_Qi (fun (r : Int32) (u : cg_ES × (Nat → Nat)) => (r = (an_equate n S F E k lf rt x y)) ∧ (u.1 = st_add 24 n k lf rt x y)) (cx_B (dC, dI) vwCl (va_A [(ma, .inr (6, [.int (nI n), .ref m1, .ref m2, .ref m3, .int (nI k), .ref m4, .ref m5, .int (nI d), .ref m6, .ref m7, .int (nI dp), .ref m8, .ref m9, .ref mA, .ref mB, .ref mC])), (m1, .inl (kI, 40, .inl S)), (m2, .inl (kI, 40, .inl (cA F))), (m3, .inl (kI, 40, .inl (cA E))), (m4, .inl (kI, 24, .inl (cI lf))), (m5, .inl (kI, 24, .inl (cI rt))), (mB, .inl (kI, 40, .inl (cI f)))] sz) (fun u : cg_ES × (Nat → Nat) => [(ma, .inr (6, [.int (nI n), .ref m1, .ref m2, .ref m3, .int (nI u.1.1), .ref m4, .ref m5, .int (nI d), .ref m6, .ref m7, .int (nI dp), .ref m8, .ref m9, .ref mA, .ref mB, .ref mC])), (m1, .inl (kI, 40, .inl S)), (m2, .inl (kI, 40, .inl (cA F))), (m3, .inl (kI, 40, .inl (cA E))), (m4, .inl (kI, 24, .inl (cI u.1.2.1))), (m5, .inl (kI, 24, .inl (cI u.1.2.2))), (mB, .inl (kI, 40, .inl (cI u.2)))])) (va_A [(ma, .inr (6, [.int (nI n), .ref m1, .ref m2, .ref m3, .int (nI k), .ref m4, .ref m5, .int (nI d), .ref m6, .ref m7, .int (nI dp), .ref m8, .ref m9, .ref mA, .ref mB, .ref mC])), (m1, .inl (kI, 40, .inl S)), (m2, .inl (kI, 40, .inl (cA F))), (m3, .inl (kI, 40, .inl (cA E))), (m4, .inl (kI, 24, .inl (cI lf))), (m5, .inl (kI, 24, .inl (cI rt))), (mB, .inl (kI, 40, .inl (cI f)))] sz)) 0 0 (va_A [(ma, .inr (6, [.int (nI n), .ref m1, .ref m2, .ref m3, .int (nI k), .ref m4, .ref m5, .int (nI d), .ref m6, .ref m7, .int (nI dp), .ref m8, .ref m9, .ref mA, .ref mB, .ref mC])), (m1, .inl (kI, 40, .inl S)), (m2, .inl (kI, 40, .inl (cA F))), (m3, .inl (kI, 40, .inl (cA E))), (m4, .inl (kI, 24, .inl (cI lf))), (m5, .inl (kI, 24, .inl (cI rt))), (mB, .inl (kI, 40, .inl (cI f)))] sz) := by
  refine Met.ofW (cc := cX6_equate) (maxL := 4) (ret := (some .int)) (by decide) rfl ?_
  intro p e s m args below meth c s₁ B hml hv
  obtain ⟨rfl, hsz, hP, hK, hD0⟩ := hv
  have hx := B.exec
  have hb := B.bytes
  have hr := B.returns
  have hts := atoms_spec (ws := .code yX6_equate cX6_equate 4 (some .int) :: tbw) B.pre
  have hw : ∀ w ∈ tbw, w.before _ s = true := fun w h => hts w (List.mem_cons_of_mem _ h)
  have hown : s.vm.findClass RX6 = some m.cls := findClass_of_methodNamed B.named
  subst hsz
  have hD := hD0.self (sz := s.heap.size)
  generalize hAe : va_A [(ma, .inr (6, [.int (nI n), .ref m1, .ref m2, .ref m3, .int (nI k), .ref m4, .ref m5, .int (nI d), .ref m6, .ref m7, .int (nI dp), .ref m8, .ref m9, .ref mA, .ref mB, .ref mC])), (m1, .inl (kI, 40, .inl S)), (m2, .inl (kI, 40, .inl (cA F))), (m3, .inl (kI, 40, .inl (cA E))), (m4, .inl (kI, 24, .inl (cI lf))), (m5, .inl (kI, 24, .inl (cI rt))), (mB, .inl (kI, 40, .inl (cI f)))] s.heap.size = AA at hD ⊢
  have hA : ∀ q : Nat, s.heap.size ≤ q → AA q := fun q h => by rw [← hAe]; exact Or.inr h
  have hS : va_S AA s.heap s.heap [] := va_S.rf
  have hP : va_P (dC, dI) vwCl [(ma, .inr (6, [.int (nI n), .ref m1, .ref m2, .ref m3, .int (nI k), .ref m4, .ref m5, .int (nI d), .ref m6, .ref m7, .int (nI dp), .ref m8, .ref m9, .ref mA, .ref mB, .ref mC])), (m1, .inl (kI, 40, .inl S)), (m2, .inl (kI, 40, .inl (cA F))), (m3, .inl (kI, 40, .inl (cA E))), (m4, .inl (kI, 24, .inl (cI lf))), (m5, .inl (kI, 24, .inl (cI rt))), (mB, .inl (kI, 40, .inl (cI f)))] s.heap := hP
  have hl := lv_entry ([.ref ma, .int x, .int y]) (n := 4) (Nat.le_of_ble_eq_true rfl)
  rw [lg_entry_eq]
  generalize (lg_sl ([.ref ma, .int x, .int y]) ++ List.replicate (4 - (lg_sl ([.ref ma, .int x, .int y])).length) Slot.unset).toArray = ls at hl ⊢
  have hl : lv_has ls 4 [(0, .ref ma), (1, .int x), (2, .int y)] := hl
  refine lv_aload_n hx hb dX6_equate_0 rfl (lv_at hl 0 rfl) ?_
  refine lv_iload_n hx hb dX6_equate_1 rfl (lv_at hl 1 rfl) ?_
  refine cx_si (va_runV (As := [.int x]) (rest := []) ⟨hx, hb, hml, hown, hts⟩ (c_X6_isTerm l dC dI kI kL ma m1 m2 m3 m4 m5 m6 m7 m8 m9 mA mB mC n k d dp x ) (cwV 1 hts gv_X6_77 rfl rfl rfl hdX6_isTerm ⟨Nat.le_of_ble_eq_true rfl, Nat.le_of_ble_eq_true rfl⟩) (cx_preV (hP.sub (ws' := [(ma, .inr (6, [.int (nI n), .ref m1, .ref m2, .ref m3, .int (nI k), .ref m4, .ref m5, .int (nI d), .ref m6, .ref m7, .int (nI dp), .ref m8, .ref m9, .ref mA, .ref mB, .ref mC]))]) [0] rfl) hK rfl (q0 := 0) rfl) rfl rfl hl.1 rfl (lv_room (Nat.le_of_ble_eq_true rfl)) dX6_equate_2 ⟨Nat.zero_le _, Nat.zero_le _⟩) (fun r hres => ?_)
  subst hres
  refine cx_if0 (tgt := 16) hx hb dX6_equate_5 (by decide) (fun b0 => ?_) (fun b0 => ?_)
  · skip
    refine lv_bipush (v := (-2)) hx hb dX6_equate_16 (by decide) ?_
    exact W.iret (v := (-2)) hx hb hr (fun t ht hW => ⟨⟨_, ((k, lf, rt), f), rfl, ⟨an_equate_1 (by first | exact fun h => of_decide_eq_false b0 h.1 | exact fun h => of_decide_eq_false b1 h.2), st_add_1 (by first | exact fun h => of_decide_eq_false b0 h.1 | exact fun h => of_decide_eq_false b1 h.2)⟩, by rw [ht]; exact hP, hD⟩, hS.F ht⟩) hS.2.2 dX6_equate_18
  refine lv_aload_n hx hb dX6_equate_8 rfl (lv_at hl 0 rfl) ?_
  refine lv_iload_n hx hb dX6_equate_9 rfl (lv_at hl 2 rfl) ?_
  refine cx_si (va_runV (As := [.int y]) (rest := []) ⟨hx, hb, hml, hown, hts⟩ (c_X6_isTerm l dC dI kI kL ma m1 m2 m3 m4 m5 m6 m7 m8 m9 mA mB mC n k d dp y ) (cwV 1 hts gv_X6_77 rfl rfl rfl hdX6_isTerm ⟨Nat.le_of_ble_eq_true rfl, Nat.le_of_ble_eq_true rfl⟩) (cx_preV (hP.sub (ws' := [(ma, .inr (6, [.int (nI n), .ref m1, .ref m2, .ref m3, .int (nI k), .ref m4, .ref m5, .int (nI d), .ref m6, .ref m7, .int (nI dp), .ref m8, .ref m9, .ref mA, .ref mB, .ref mC]))]) [0] rfl) hK rfl (q0 := 0) rfl) rfl rfl hl.1 rfl (lv_room (Nat.le_of_ble_eq_true rfl)) dX6_equate_10 ⟨Nat.zero_le _, Nat.zero_le _⟩) (fun r hres => ?_)
  subst hres
  refine cx_if1 (tgt := 19) hx hb dX6_equate_13 (by decide) (fun b1 => ?_) (fun b1 => ?_)
  · skip
    have hT := And.intro (of_decide_eq_true b0) (of_decide_eq_true b1)
    obtain ⟨i, hi, rfl⟩ := cx_T_x qn hT.1
    obtain ⟨j, hj, rfl⟩ := cx_T_x qn hT.2
    refine lv_aload_n hx hb dX6_equate_19 rfl (lv_at hl 0 rfl) ?_
    refine va_get (D := (dC, dI)) (ci := 6) (v := .int (nI k)) (C := RX6) (T := TX6) (N := 16) hx hb hts (tb_c tbX6) hown hK hP 0 rfl rfl 4 (by decide) (hw _ tw_345) (fun _ h9 => h9) rfl dX6_equate_20 ?_
    refine lv_bipush (v := nI 24) hx hb dX6_equate_23 (by decide) ?_
    refine cx_ne (x := k) (y := 24) (tgt := 31) hx hb dX6_equate_25 (by decide) (by first | omega | exact hB _ (by omega) | exact Nat.lt_of_lt_of_le (hB _ (by omega)) (by omega)) (by first | omega | exact hB _ (by omega) | exact Nat.lt_of_lt_of_le (hB _ (by omega)) (by omega)) (fun b2 => ?_) (fun b2 => ?_)
    · skip
      refine lv_aload_n hx hb dX6_equate_31 rfl (lv_at hl 0 rfl) ?_
      refine cx_mv (wc := [(ma, .inr (6, [.int (nI n), .ref m1, .ref m2, .ref m3, .int (nI k), .ref m4, .ref m5, .int (nI d), .ref m6, .ref m7, .int (nI dp), .ref m8, .ref m9, .ref mA, .ref mB, .ref mC])), (m1, .inl (kI, 40, .inl S)), (m2, .inl (kI, 40, .inl (cA F))), (m3, .inl (kI, 40, .inl (cA E))), (m4, .inl (kI, 24, .inl (cI lf))), (m5, .inl (kI, 24, .inl (cI rt))), (mB, .inl (kI, 40, .inl (cI f)))]) (wr := []) hP hD hS hA [0, 1, 2, 3, 4, 5, 6] [] rfl rfl (by decide) (by decide) (va_runV (As := []) (rest := []) ⟨hx, hb, hml, hown, hts⟩ (c_X6_workAll l dC dI kI kL ma m1 m2 m3 m4 m5 m6 m7 m8 m9 mA mB mC n k d dp S F E lf rt f (by first | assumption | omega | rfl) (by first | assumption | omega | rfl) (by omega) (by first | exact qe | exact cg_we_add qe hi hj) _) (cwV 0 hts gv_X6_85 rfl rfl rfl hdX6_workAll ⟨Nat.le_of_ble_eq_true rfl, Nat.le_of_ble_eq_true rfl⟩) (cx_mreV (hP.sub (ws' := [(ma, .inr (6, [.int (nI n), .ref m1, .ref m2, .ref m3, .int (nI k), .ref m4, .ref m5, .int (nI d), .ref m6, .ref m7, .int (nI dp), .ref m8, .ref m9, .ref mA, .ref mB, .ref mC])), (m1, .inl (kI, 40, .inl S)), (m2, .inl (kI, 40, .inl (cA F))), (m3, .inl (kI, 40, .inl (cA E))), (m4, .inl (kI, 24, .inl (cI lf))), (m5, .inl (kI, 24, .inl (cI rt))), (mB, .inl (kI, 40, .inl (cI f)))]) [0, 1, 2, 3, 4, 5, 6] rfl) hK (hD.sub (ws' := [(ma, .inr (6, [.int (nI n), .ref m1, .ref m2, .ref m3, .int (nI k), .ref m4, .ref m5, .int (nI d), .ref m6, .ref m7, .int (nI dp), .ref m8, .ref m9, .ref mA, .ref mB, .ref mC])), (m1, .inl (kI, 40, .inl S)), (m2, .inl (kI, 40, .inl (cA F))), (m3, .inl (kI, 40, .inl (cA E))), (m4, .inl (kI, 24, .inl (cI lf))), (m5, .inl (kI, 24, .inl (cI rt))), (mB, .inl (kI, 40, .inl (cI f)))]) [0, 1, 2, 3, 4, 5, 6] (by decide) rfl) rfl (q0 := 0) rfl) rfl rfl hl.1 rfl (lv_room (Nat.le_of_ble_eq_true rfl)) dX6_equate_32 ⟨Nat.zero_le _, Nat.zero_le _⟩) (fun g8 H locs hres hP hD hS => ?_)
      have hg8 := hres
      have hP : va_P (dC, dI) vwCl [(ma, .inr (6, [.int (nI n), .ref m1, .ref m2, .ref m3, .int (nI k), .ref m4, .ref m5, .int (nI d), .ref m6, .ref m7, .int (nI dp), .ref m8, .ref m9, .ref mA, .ref mB, .ref mC])), (m1, .inl (kI, 40, .inl S)), (m2, .inl (kI, 40, .inl (cA F))), (m3, .inl (kI, 40, .inl (cA E))), (m4, .inl (kI, 24, .inl (cI lf))), (m5, .inl (kI, 24, .inl (cI rt))), (mB, .inl (kI, 40, .inl (cI g8)))] H := hP.sub (ws' := [(ma, .inr (6, [.int (nI n), .ref m1, .ref m2, .ref m3, .int (nI k), .ref m4, .ref m5, .int (nI d), .ref m6, .ref m7, .int (nI dp), .ref m8, .ref m9, .ref mA, .ref mB, .ref mC])), (m1, .inl (kI, 40, .inl S)), (m2, .inl (kI, 40, .inl (cA F))), (m3, .inl (kI, 40, .inl (cA E))), (m4, .inl (kI, 24, .inl (cI lf))), (m5, .inl (kI, 24, .inl (cI rt))), (mB, .inl (kI, 40, .inl (cI g8)))]) [0, 1, 2, 3, 4, 5, 6] rfl
      have hD : va_D AA [(ma, .inr (6, [.int (nI n), .ref m1, .ref m2, .ref m3, .int (nI k), .ref m4, .ref m5, .int (nI d), .ref m6, .ref m7, .int (nI dp), .ref m8, .ref m9, .ref mA, .ref mB, .ref mC])), (m1, .inl (kI, 40, .inl S)), (m2, .inl (kI, 40, .inl (cA F))), (m3, .inl (kI, 40, .inl (cA E))), (m4, .inl (kI, 24, .inl (cI lf))), (m5, .inl (kI, 24, .inl (cI rt))), (mB, .inl (kI, 40, .inl (cI g8)))] := hD.sub (ws' := [(ma, .inr (6, [.int (nI n), .ref m1, .ref m2, .ref m3, .int (nI k), .ref m4, .ref m5, .int (nI d), .ref m6, .ref m7, .int (nI dp), .ref m8, .ref m9, .ref mA, .ref mB, .ref mC])), (m1, .inl (kI, 40, .inl S)), (m2, .inl (kI, 40, .inl (cA F))), (m3, .inl (kI, 40, .inl (cA E))), (m4, .inl (kI, 24, .inl (cI lf))), (m5, .inl (kI, 24, .inl (cI rt))), (mB, .inl (kI, 40, .inl (cI g8)))]) [0, 1, 2, 3, 4, 5, 6] (by decide) rfl
      have hB8 := cg_ok_B (cg_ok_ag hg8 (cg_lab_ok qe))
      refine lv_aload_n hx hb dX6_equate_35 rfl (lv_at hl 0 rfl) ?_
      refine cx_si (va_runV (As := []) (rest := []) ⟨hx, hb, hml, hown, hts⟩ (c_X6_kinds l dC dI kI kL ma m1 m2 m3 m4 m5 m6 m7 m8 m9 mA mB mC n k d dp g8 (by first | assumption | omega | rfl) (by first | exact hB9 | exact hB8)) (cwV 0 hts gv_X6_88 rfl rfl rfl hdX6_kinds ⟨Nat.le_of_ble_eq_true rfl, Nat.le_of_ble_eq_true rfl⟩) (cx_preV (hP.sub (ws' := [(ma, .inr (6, [.int (nI n), .ref m1, .ref m2, .ref m3, .int (nI k), .ref m4, .ref m5, .int (nI d), .ref m6, .ref m7, .int (nI dp), .ref m8, .ref m9, .ref mA, .ref mB, .ref mC])), (mB, .inl (kI, 40, .inl (cI g8)))]) [0, 6] rfl) hK rfl (q0 := 0) rfl) rfl rfl hl.1 rfl (lv_room (Nat.le_of_ble_eq_true rfl)) dX6_equate_36 ⟨Nat.zero_le _, Nat.zero_le _⟩) (fun r hres => ?_)
      subst hres
      refine lv_istore_n hx hb dX6_equate_39 rfl hl (by decide) rfl (fun ls hl => ?_)
      have hl : lv_has ls 4 [(3, .int (nI (cg_cn g8 n))), (0, .ref ma), (1, .int (nI i)), (2, .int (nI j))] := hl
      refine lv_aload_n hx hb dX6_equate_40 rfl (lv_at hl 1 rfl) ?_
      refine va_get (D := (dC, dI)) (ci := 6) (v := .ref m4) (C := RX6) (T := TX6) (N := 16) hx hb hts (tb_c tbX6) hown hK hP 0 rfl rfl 5 (by decide) (hw _ tw_346) (fun _ h9 => h9) rfl dX6_equate_41 ?_
      refine lv_aload_n hx hb dX6_equate_44 rfl (lv_at hl 1 rfl) ?_
      refine va_get (D := (dC, dI)) (ci := 6) (v := .int (nI k)) (C := RX6) (T := TX6) (N := 16) hx hb hts (tb_c tbX6) hown hK hP 0 rfl rfl 4 (by decide) (hw _ tw_345) (fun _ h9 => h9) rfl dX6_equate_45 ?_
      refine lv_iload_n hx hb dX6_equate_48 rfl (lv_at hl 2 rfl) ?_
      refine cx_iast hx hb hK hP hD hS 4 0 rfl rfl (by first | decide | omega) (i := k) (cI_u) (by first | omega | exact hB _ (by omega) | exact Nat.lt_of_lt_of_le (hB _ (by omega)) (by omega)) dX6_equate_49 (fun H locs hP hD hS => ?_)
      have hP : va_P (dC, dI) vwCl [(ma, .inr (6, [.int (nI n), .ref m1, .ref m2, .ref m3, .int (nI k), .ref m4, .ref m5, .int (nI d), .ref m6, .ref m7, .int (nI dp), .ref m8, .ref m9, .ref mA, .ref mB, .ref mC])), (m1, .inl (kI, 40, .inl S)), (m2, .inl (kI, 40, .inl (cA F))), (m3, .inl (kI, 40, .inl (cA E))), (m4, .inl (kI, 24, .inl (cI (wt_u lf k i)))), (m5, .inl (kI, 24, .inl (cI rt))), (mB, .inl (kI, 40, .inl (cI g8)))] H := hP
      have hD : va_D AA [(ma, .inr (6, [.int (nI n), .ref m1, .ref m2, .ref m3, .int (nI k), .ref m4, .ref m5, .int (nI d), .ref m6, .ref m7, .int (nI dp), .ref m8, .ref m9, .ref mA, .ref mB, .ref mC])), (m1, .inl (kI, 40, .inl S)), (m2, .inl (kI, 40, .inl (cA F))), (m3, .inl (kI, 40, .inl (cA E))), (m4, .inl (kI, 24, .inl (cI (wt_u lf k i)))), (m5, .inl (kI, 24, .inl (cI rt))), (mB, .inl (kI, 40, .inl (cI g8)))] := hD
      refine lv_aload_n hx hb dX6_equate_50 rfl (lv_at hl 1 rfl) ?_
      refine va_get (D := (dC, dI)) (ci := 6) (v := .ref m5) (C := RX6) (T := TX6) (N := 16) hx hb hts (tb_c tbX6) hown hK hP 0 rfl rfl 6 (by decide) (hw _ tw_347) (fun _ h9 => h9) rfl dX6_equate_51 ?_
      refine lv_aload_n hx hb dX6_equate_54 rfl (lv_at hl 1 rfl) ?_
      refine va_get (D := (dC, dI)) (ci := 6) (v := .int (nI k)) (C := RX6) (T := TX6) (N := 16) hx hb hts (tb_c tbX6) hown hK hP 0 rfl rfl 4 (by decide) (hw _ tw_345) (fun _ h9 => h9) rfl dX6_equate_55 ?_
      refine lv_iload_n hx hb dX6_equate_58 rfl (lv_at hl 3 rfl) ?_
      refine cx_iast hx hb hK hP hD hS 5 0 rfl rfl (by first | decide | omega) (i := k) (cI_u) (by first | omega | exact hB _ (by omega) | exact Nat.lt_of_lt_of_le (hB _ (by omega)) (by omega)) dX6_equate_59 (fun H locs hP hD hS => ?_)
      have hP : va_P (dC, dI) vwCl [(ma, .inr (6, [.int (nI n), .ref m1, .ref m2, .ref m3, .int (nI k), .ref m4, .ref m5, .int (nI d), .ref m6, .ref m7, .int (nI dp), .ref m8, .ref m9, .ref mA, .ref mB, .ref mC])), (m1, .inl (kI, 40, .inl S)), (m2, .inl (kI, 40, .inl (cA F))), (m3, .inl (kI, 40, .inl (cA E))), (m4, .inl (kI, 24, .inl (cI (wt_u lf k i)))), (m5, .inl (kI, 24, .inl (cI (wt_u rt k j)))), (mB, .inl (kI, 40, .inl (cI g8)))] H := hP
      have hD : va_D AA [(ma, .inr (6, [.int (nI n), .ref m1, .ref m2, .ref m3, .int (nI k), .ref m4, .ref m5, .int (nI d), .ref m6, .ref m7, .int (nI dp), .ref m8, .ref m9, .ref mA, .ref mB, .ref mC])), (m1, .inl (kI, 40, .inl S)), (m2, .inl (kI, 40, .inl (cA F))), (m3, .inl (kI, 40, .inl (cA E))), (m4, .inl (kI, 24, .inl (cI (wt_u lf k i)))), (m5, .inl (kI, 24, .inl (cI (wt_u rt k j)))), (mB, .inl (kI, 40, .inl (cI g8)))] := hD
      refine lv_aload_n hx hb dX6_equate_60 rfl (lv_at hl 1 rfl) ?_
      refine lv_dup hx hb dX6_equate_61 rfl ?_
      refine va_get (D := (dC, dI)) (ci := 6) (v := .int (nI k)) (C := RX6) (T := TX6) (N := 16) hx hb hts (tb_c tbX6) hown hK hP 0 rfl rfl 4 (by decide) (hw _ tw_345) (fun _ h9 => h9) rfl dX6_equate_62 ?_
      refine lv_iconst (v := nI 1) hx hb dX6_equate_65 (by decide) ?_
      refine cx_iadd hx hb dX6_equate_66 ?_
      refine va_put (D := (dC, dI)) (ci := 6) (v := .int (nI (k + 1))) (ty := .int) (C := RX6) (T := TX6) (N := 16) hx hb hts (tb_c tbX6) tyX6 tyX6_ok nmX6 hown hK hP hD hS 0 rfl rfl 4 (by decide) (hw _ tw_345) (fun _ h9 => h9) rfl (by decide +kernel) rfl rfl (Nat.le_of_ble_eq_true rfl) dX6_equate_67 (fun H locs hP hD hS => ?_)
      have hP : va_P (dC, dI) vwCl [(ma, .inr (6, [.int (nI n), .ref m1, .ref m2, .ref m3, .int (nI (k + 1)), .ref m4, .ref m5, .int (nI d), .ref m6, .ref m7, .int (nI dp), .ref m8, .ref m9, .ref mA, .ref mB, .ref mC])), (m1, .inl (kI, 40, .inl S)), (m2, .inl (kI, 40, .inl (cA F))), (m3, .inl (kI, 40, .inl (cA E))), (m4, .inl (kI, 24, .inl (cI (wt_u lf k i)))), (m5, .inl (kI, 24, .inl (cI (wt_u rt k j)))), (mB, .inl (kI, 40, .inl (cI g8)))] H := hP
      have hD : va_D AA [(ma, .inr (6, [.int (nI n), .ref m1, .ref m2, .ref m3, .int (nI (k + 1)), .ref m4, .ref m5, .int (nI d), .ref m6, .ref m7, .int (nI dp), .ref m8, .ref m9, .ref mA, .ref mB, .ref mC])), (m1, .inl (kI, 40, .inl S)), (m2, .inl (kI, 40, .inl (cA F))), (m3, .inl (kI, 40, .inl (cA E))), (m4, .inl (kI, 24, .inl (cI (wt_u lf k i)))), (m5, .inl (kI, 24, .inl (cI (wt_u rt k j)))), (mB, .inl (kI, 40, .inl (cI g8)))] := hD
      refine lv_aload_n hx hb dX6_equate_70 rfl (lv_at hl 1 rfl) ?_
      refine cx_mv (wc := [(ma, .inr (6, [.int (nI n), .ref m1, .ref m2, .ref m3, .int (nI (k + 1)), .ref m4, .ref m5, .int (nI d), .ref m6, .ref m7, .int (nI dp), .ref m8, .ref m9, .ref mA, .ref mB, .ref mC])), (m1, .inl (kI, 40, .inl S)), (m2, .inl (kI, 40, .inl (cA F))), (m3, .inl (kI, 40, .inl (cA E))), (m4, .inl (kI, 24, .inl (cI (wt_u lf k i)))), (m5, .inl (kI, 24, .inl (cI (wt_u rt k j)))), (mB, .inl (kI, 40, .inl (cI g8)))]) (wr := []) hP hD hS hA [0, 1, 2, 3, 4, 5, 6] [] rfl rfl (by decide) (by decide) (va_runV (As := []) (rest := []) ⟨hx, hb, hml, hown, hts⟩ (c_X6_workAll l dC dI kI kL ma m1 m2 m3 m4 m5 m6 m7 m8 m9 mA mB mC n (k + 1) d dp S F E (wt_u lf k i) (wt_u rt k j) g8 (by first | assumption | omega | rfl) (by first | assumption | omega | rfl) (by omega) (by first | exact qe | exact cg_we_add qe hi hj) _) (cwV 0 hts gv_X6_85 rfl rfl rfl hdX6_workAll ⟨Nat.le_of_ble_eq_true rfl, Nat.le_of_ble_eq_true rfl⟩) (cx_mreV (hP.sub (ws' := [(ma, .inr (6, [.int (nI n), .ref m1, .ref m2, .ref m3, .int (nI (k + 1)), .ref m4, .ref m5, .int (nI d), .ref m6, .ref m7, .int (nI dp), .ref m8, .ref m9, .ref mA, .ref mB, .ref mC])), (m1, .inl (kI, 40, .inl S)), (m2, .inl (kI, 40, .inl (cA F))), (m3, .inl (kI, 40, .inl (cA E))), (m4, .inl (kI, 24, .inl (cI (wt_u lf k i)))), (m5, .inl (kI, 24, .inl (cI (wt_u rt k j)))), (mB, .inl (kI, 40, .inl (cI g8)))]) [0, 1, 2, 3, 4, 5, 6] rfl) hK (hD.sub (ws' := [(ma, .inr (6, [.int (nI n), .ref m1, .ref m2, .ref m3, .int (nI (k + 1)), .ref m4, .ref m5, .int (nI d), .ref m6, .ref m7, .int (nI dp), .ref m8, .ref m9, .ref mA, .ref mB, .ref mC])), (m1, .inl (kI, 40, .inl S)), (m2, .inl (kI, 40, .inl (cA F))), (m3, .inl (kI, 40, .inl (cA E))), (m4, .inl (kI, 24, .inl (cI (wt_u lf k i)))), (m5, .inl (kI, 24, .inl (cI (wt_u rt k j)))), (mB, .inl (kI, 40, .inl (cI g8)))]) [0, 1, 2, 3, 4, 5, 6] (by decide) rfl) rfl (q0 := 0) rfl) rfl rfl hl.1 rfl (lv_room (Nat.le_of_ble_eq_true rfl)) dX6_equate_71 ⟨Nat.zero_le _, Nat.zero_le _⟩) (fun g9 H locs hres hP hD hS => ?_)
      have hg9 := hres
      have hP : va_P (dC, dI) vwCl [(ma, .inr (6, [.int (nI n), .ref m1, .ref m2, .ref m3, .int (nI (k + 1)), .ref m4, .ref m5, .int (nI d), .ref m6, .ref m7, .int (nI dp), .ref m8, .ref m9, .ref mA, .ref mB, .ref mC])), (m1, .inl (kI, 40, .inl S)), (m2, .inl (kI, 40, .inl (cA F))), (m3, .inl (kI, 40, .inl (cA E))), (m4, .inl (kI, 24, .inl (cI (wt_u lf k i)))), (m5, .inl (kI, 24, .inl (cI (wt_u rt k j)))), (mB, .inl (kI, 40, .inl (cI g9)))] H := hP.sub (ws' := [(ma, .inr (6, [.int (nI n), .ref m1, .ref m2, .ref m3, .int (nI (k + 1)), .ref m4, .ref m5, .int (nI d), .ref m6, .ref m7, .int (nI dp), .ref m8, .ref m9, .ref mA, .ref mB, .ref mC])), (m1, .inl (kI, 40, .inl S)), (m2, .inl (kI, 40, .inl (cA F))), (m3, .inl (kI, 40, .inl (cA E))), (m4, .inl (kI, 24, .inl (cI (wt_u lf k i)))), (m5, .inl (kI, 24, .inl (cI (wt_u rt k j)))), (mB, .inl (kI, 40, .inl (cI g9)))]) [0, 1, 2, 3, 4, 5, 6] rfl
      have hD : va_D AA [(ma, .inr (6, [.int (nI n), .ref m1, .ref m2, .ref m3, .int (nI (k + 1)), .ref m4, .ref m5, .int (nI d), .ref m6, .ref m7, .int (nI dp), .ref m8, .ref m9, .ref mA, .ref mB, .ref mC])), (m1, .inl (kI, 40, .inl S)), (m2, .inl (kI, 40, .inl (cA F))), (m3, .inl (kI, 40, .inl (cA E))), (m4, .inl (kI, 24, .inl (cI (wt_u lf k i)))), (m5, .inl (kI, 24, .inl (cI (wt_u rt k j)))), (mB, .inl (kI, 40, .inl (cI g9)))] := hD.sub (ws' := [(ma, .inr (6, [.int (nI n), .ref m1, .ref m2, .ref m3, .int (nI (k + 1)), .ref m4, .ref m5, .int (nI d), .ref m6, .ref m7, .int (nI dp), .ref m8, .ref m9, .ref mA, .ref mB, .ref mC])), (m1, .inl (kI, 40, .inl S)), (m2, .inl (kI, 40, .inl (cA F))), (m3, .inl (kI, 40, .inl (cA E))), (m4, .inl (kI, 24, .inl (cI (wt_u lf k i)))), (m5, .inl (kI, 24, .inl (cI (wt_u rt k j)))), (mB, .inl (kI, 40, .inl (cI g9)))]) [0, 1, 2, 3, 4, 5, 6] (by decide) rfl
      have hB9 := cg_ok_B (cg_ok_ag hg9 (cg_lab_ok (cg_we_add qe hi hj)))
      refine lv_iload_n hx hb dX6_equate_74 rfl (lv_at hl 0 rfl) ?_
      refine lv_aload_n hx hb dX6_equate_75 rfl (lv_at hl 1 rfl) ?_
      refine cx_si (va_runV (As := []) (rest := [.int (nI (cg_cn g8 n))]) ⟨hx, hb, hml, hown, hts⟩ (c_X6_kinds l dC dI kI kL ma m1 m2 m3 m4 m5 m6 m7 m8 m9 mA mB mC n (k + 1) d dp g9 (by first | assumption | omega | rfl) (by first | exact hB9 | exact hB8)) (cwV 0 hts gv_X6_88 rfl rfl rfl hdX6_kinds ⟨Nat.le_of_ble_eq_true rfl, Nat.le_of_ble_eq_true rfl⟩) (cx_preV (hP.sub (ws' := [(ma, .inr (6, [.int (nI n), .ref m1, .ref m2, .ref m3, .int (nI (k + 1)), .ref m4, .ref m5, .int (nI d), .ref m6, .ref m7, .int (nI dp), .ref m8, .ref m9, .ref mA, .ref mB, .ref mC])), (mB, .inl (kI, 40, .inl (cI g9)))]) [0, 6] rfl) hK rfl (q0 := 0) rfl) rfl rfl hl.1 rfl (lv_room (Nat.le_of_ble_eq_true rfl)) dX6_equate_76 ⟨Nat.zero_le _, Nat.zero_le _⟩) (fun r hres => ?_)
      subst hres
      refine lv_isub hx hb dX6_equate_79 ?_
      exact W.iret (v := (nI (cg_cn g8 n) - nI (cg_cn g9 n))) hx hb hr (fun t ht hW => ⟨⟨_, ((k + 1, wt_u lf k i, wt_u rt k j), g9), rfl, ⟨an_equate_3 qn hi hj (by omega) hg8 hg9, st_add_3 qn hi hj (by omega)⟩, by rw [ht]; exact hP, hD⟩, hS.F ht⟩) hS.2.2 dX6_equate_80
    refine lv_bipush (v := (-3)) hx hb dX6_equate_28 (by decide) ?_
    exact W.iret (v := (-3)) hx hb hr (fun t ht hW => ⟨⟨_, ((k, lf, rt), f), rfl, ⟨an_equate_2 qn hi hj (by omega), st_add_2 (by omega)⟩, by rw [ht]; exact hP, hD⟩, hS.F ht⟩) hS.2.2 dX6_equate_30
  refine lv_bipush (v := (-2)) hx hb dX6_equate_16 (by decide) ?_
  exact W.iret (v := (-2)) hx hb hr (fun t ht hW => ⟨⟨_, ((k, lf, rt), f), rfl, ⟨an_equate_1 (by first | exact fun h => of_decide_eq_false b0 h.1 | exact fun h => of_decide_eq_false b1 h.2), st_add_1 (by first | exact fun h => of_decide_eq_false b0 h.1 | exact fun h => of_decide_eq_false b1 h.2)⟩, by rw [ht]; exact hP, hD⟩, hS.F ht⟩) hS.2.2 dX6_equate_18

set_option maxHeartbeats 4000000 in
set_option maxRecDepth 100000 in
theorem c_X6_differ (l : Launch) (dC : Nat → ClassId) (dI : Nat → Nat → Nat) (kI kL : ClassId) (ma : Nat) (m1 : Nat) (m2 : Nat) (m3 : Nat) (m4 : Nat) (m5 : Nat) (m6 : Nat) (m7 : Nat) (m8 : Nat) (m9 : Nat) (mA : Nat) (mB : Nat) (mC : Nat) (n : Nat) (k : Nat) (d : Nat) (dp : Nat) (on : Nat → Nat) (ot : Nat → Nat) (x : Int32) (y : Int32) (qn : n ≤ 40) (qd : d ≤ 16) (sz : Nat) : Met l yX6_differ (.code yX6_differ cX6_differ 3 (some .int) :: tbw) { frames := 1, cells := 0, slots := 0, locals := 21 } (va_Pc [.ref ma, .int x, .int y] (cx_M (dC, dI) vwCl [(ma, .inr (6, [.int (nI n), .ref m1, .ref m2, .ref m3, .int (nI k), .ref m4, .ref m5, .int (nI d), .ref m6, .ref m7, .int (nI dp), .ref m8, .ref m9, .ref mA, .ref mB, .ref mC])), (m6, .inl (kI, 16, .inl (cI on))), (m7, .inl (kI, 16, .inl (cI ot)))] [(kI, .int), (kL, .long)] sz)) (va_Qi (fun (r : Int32) (u : cg_ES) => (r = (an_differ n d x y)) ∧ (u = st_add 16 n d on ot x y)) (cx_B (dC, dI) vwCl (va_A [(ma, .inr (6, [.int (nI n), .ref m1, .ref m2, .ref m3, .int (nI k), .ref m4, .ref m5, .int (nI d), .ref m6, .ref m7, .int (nI dp), .ref m8, .ref m9, .ref mA, .ref mB, .ref mC])), (m6, .inl (kI, 16, .inl (cI on))), (m7, .inl (kI, 16, .inl (cI ot)))] sz) (fun u : cg_ES => [(ma, .inr (6, [.int (nI n), .ref m1, .ref m2, .ref m3, .int (nI k), .ref m4, .ref m5, .int (nI u.1), .ref m6, .ref m7, .int (nI dp), .ref m8, .ref m9, .ref mA, .ref mB, .ref mC])), (m6, .inl (kI, 16, .inl (cI u.2.1))), (m7, .inl (kI, 16, .inl (cI u.2.2)))])) (va_A [(ma, .inr (6, [.int (nI n), .ref m1, .ref m2, .ref m3, .int (nI k), .ref m4, .ref m5, .int (nI d), .ref m6, .ref m7, .int (nI dp), .ref m8, .ref m9, .ref mA, .ref mB, .ref mC])), (m6, .inl (kI, 16, .inl (cI on))), (m7, .inl (kI, 16, .inl (cI ot)))] sz)) 0 0 (va_A [(ma, .inr (6, [.int (nI n), .ref m1, .ref m2, .ref m3, .int (nI k), .ref m4, .ref m5, .int (nI d), .ref m6, .ref m7, .int (nI dp), .ref m8, .ref m9, .ref mA, .ref mB, .ref mC])), (m6, .inl (kI, 16, .inl (cI on))), (m7, .inl (kI, 16, .inl (cI ot)))] sz) := by
  refine Met.ofW (cc := cX6_differ) (maxL := 3) (ret := (some .int)) (by decide) rfl ?_
  intro p e s m args below meth c s₁ B hml hv
  obtain ⟨rfl, hsz, hP, hK, hD0⟩ := hv
  have hx := B.exec
  have hb := B.bytes
  have hr := B.returns
  have hts := atoms_spec (ws := .code yX6_differ cX6_differ 3 (some .int) :: tbw) B.pre
  have hw : ∀ w ∈ tbw, w.before _ s = true := fun w h => hts w (List.mem_cons_of_mem _ h)
  have hown : s.vm.findClass RX6 = some m.cls := findClass_of_methodNamed B.named
  subst hsz
  have hD := hD0.self (sz := s.heap.size)
  generalize hAe : va_A [(ma, .inr (6, [.int (nI n), .ref m1, .ref m2, .ref m3, .int (nI k), .ref m4, .ref m5, .int (nI d), .ref m6, .ref m7, .int (nI dp), .ref m8, .ref m9, .ref mA, .ref mB, .ref mC])), (m6, .inl (kI, 16, .inl (cI on))), (m7, .inl (kI, 16, .inl (cI ot)))] s.heap.size = AA at hD ⊢
  have hA : ∀ q : Nat, s.heap.size ≤ q → AA q := fun q h => by rw [← hAe]; exact Or.inr h
  have hS : va_S AA s.heap s.heap [] := va_S.rf
  have hP : va_P (dC, dI) vwCl [(ma, .inr (6, [.int (nI n), .ref m1, .ref m2, .ref m3, .int (nI k), .ref m4, .ref m5, .int (nI d), .ref m6, .ref m7, .int (nI dp), .ref m8, .ref m9, .ref mA, .ref mB, .ref mC])), (m6, .inl (kI, 16, .inl (cI on))), (m7, .inl (kI, 16, .inl (cI ot)))] s.heap := hP
  have hl := lv_entry ([.ref ma, .int x, .int y]) (n := 3) (Nat.le_of_ble_eq_true rfl)
  rw [lg_entry_eq]
  generalize (lg_sl ([.ref ma, .int x, .int y]) ++ List.replicate (3 - (lg_sl ([.ref ma, .int x, .int y])).length) Slot.unset).toArray = ls at hl ⊢
  have hl : lv_has ls 3 [(0, .ref ma), (1, .int x), (2, .int y)] := hl
  refine lv_aload_n hx hb dX6_differ_0 rfl (lv_at hl 0 rfl) ?_
  refine lv_iload_n hx hb dX6_differ_1 rfl (lv_at hl 1 rfl) ?_
  refine cx_si (va_runV (As := [.int x]) (rest := []) ⟨hx, hb, hml, hown, hts⟩ (c_X6_isTerm l dC dI kI kL ma m1 m2 m3 m4 m5 m6 m7 m8 m9 mA mB mC n k d dp x ) (cwV 1 hts gv_X6_77 rfl rfl rfl hdX6_isTerm ⟨Nat.le_of_ble_eq_true rfl, Nat.le_of_ble_eq_true rfl⟩) (cx_preV (hP.sub (ws' := [(ma, .inr (6, [.int (nI n), .ref m1, .ref m2, .ref m3, .int (nI k), .ref m4, .ref m5, .int (nI d), .ref m6, .ref m7, .int (nI dp), .ref m8, .ref m9, .ref mA, .ref mB, .ref mC]))]) [0] rfl) hK rfl (q0 := 0) rfl) rfl rfl hl.1 rfl (lv_room (Nat.le_of_ble_eq_true rfl)) dX6_differ_2 ⟨Nat.zero_le _, Nat.zero_le _⟩) (fun r hres => ?_)
  subst hres
  refine cx_if0 (tgt := 16) hx hb dX6_differ_5 (by decide) (fun b0 => ?_) (fun b0 => ?_)
  · skip
    refine lv_bipush (v := (-2)) hx hb dX6_differ_16 (by decide) ?_
    exact W.iret (v := (-2)) hx hb hr (fun t ht hW => ⟨⟨_, (d, on, ot), rfl, ⟨an_differ_1 (by first | exact fun h => of_decide_eq_false b0 h.1 | exact fun h => of_decide_eq_false b1 h.2), st_add_1 (by first | exact fun h => of_decide_eq_false b0 h.1 | exact fun h => of_decide_eq_false b1 h.2)⟩, by rw [ht]; exact hP, hD⟩, hS.F ht⟩) hS.2.2 dX6_differ_18
  refine lv_aload_n hx hb dX6_differ_8 rfl (lv_at hl 0 rfl) ?_
  refine lv_iload_n hx hb dX6_differ_9 rfl (lv_at hl 2 rfl) ?_
  refine cx_si (va_runV (As := [.int y]) (rest := []) ⟨hx, hb, hml, hown, hts⟩ (c_X6_isTerm l dC dI kI kL ma m1 m2 m3 m4 m5 m6 m7 m8 m9 mA mB mC n k d dp y ) (cwV 1 hts gv_X6_77 rfl rfl rfl hdX6_isTerm ⟨Nat.le_of_ble_eq_true rfl, Nat.le_of_ble_eq_true rfl⟩) (cx_preV (hP.sub (ws' := [(ma, .inr (6, [.int (nI n), .ref m1, .ref m2, .ref m3, .int (nI k), .ref m4, .ref m5, .int (nI d), .ref m6, .ref m7, .int (nI dp), .ref m8, .ref m9, .ref mA, .ref mB, .ref mC]))]) [0] rfl) hK rfl (q0 := 0) rfl) rfl rfl hl.1 rfl (lv_room (Nat.le_of_ble_eq_true rfl)) dX6_differ_10 ⟨Nat.zero_le _, Nat.zero_le _⟩) (fun r hres => ?_)
  subst hres
  refine cx_if1 (tgt := 19) hx hb dX6_differ_13 (by decide) (fun b1 => ?_) (fun b1 => ?_)
  · skip
    have hT := And.intro (of_decide_eq_true b0) (of_decide_eq_true b1)
    obtain ⟨i, hi, rfl⟩ := cx_T_x qn hT.1
    obtain ⟨j, hj, rfl⟩ := cx_T_x qn hT.2
    refine lv_aload_n hx hb dX6_differ_19 rfl (lv_at hl 0 rfl) ?_
    refine va_get (D := (dC, dI)) (ci := 6) (v := .int (nI d)) (C := RX6) (T := TX6) (N := 16) hx hb hts (tb_c tbX6) hown hK hP 0 rfl rfl 7 (by decide) (hw _ tw_348) (fun _ h9 => h9) rfl dX6_differ_20 ?_
    refine lv_bipush (v := nI 16) hx hb dX6_differ_23 (by decide) ?_
    refine cx_ne (x := d) (y := 16) (tgt := 31) hx hb dX6_differ_25 (by decide) (by first | omega | exact hB _ (by omega) | exact Nat.lt_of_lt_of_le (hB _ (by omega)) (by omega)) (by first | omega | exact hB _ (by omega) | exact Nat.lt_of_lt_of_le (hB _ (by omega)) (by omega)) (fun b2 => ?_) (fun b2 => ?_)
    · skip
      refine lv_aload_n hx hb dX6_differ_31 rfl (lv_at hl 0 rfl) ?_
      refine va_get (D := (dC, dI)) (ci := 6) (v := .ref m6) (C := RX6) (T := TX6) (N := 16) hx hb hts (tb_c tbX6) hown hK hP 0 rfl rfl 8 (by decide) (hw _ tw_349) (fun _ h9 => h9) rfl dX6_differ_32 ?_
      refine lv_aload_n hx hb dX6_differ_35 rfl (lv_at hl 0 rfl) ?_
      refine va_get (D := (dC, dI)) (ci := 6) (v := .int (nI d)) (C := RX6) (T := TX6) (N := 16) hx hb hts (tb_c tbX6) hown hK hP 0 rfl rfl 7 (by decide) (hw _ tw_348) (fun _ h9 => h9) rfl dX6_differ_36 ?_
      refine lv_iload_n hx hb dX6_differ_39 rfl (lv_at hl 1 rfl) ?_
      refine cx_iast hx hb hK hP hD hS 1 0 rfl rfl (by first | decide | omega) (i := d) (cI_u) (by first | omega | exact hB _ (by omega) | exact Nat.lt_of_lt_of_le (hB _ (by omega)) (by omega)) dX6_differ_40 (fun H locs hP hD hS => ?_)
      have hP : va_P (dC, dI) vwCl [(ma, .inr (6, [.int (nI n), .ref m1, .ref m2, .ref m3, .int (nI k), .ref m4, .ref m5, .int (nI d), .ref m6, .ref m7, .int (nI dp), .ref m8, .ref m9, .ref mA, .ref mB, .ref mC])), (m6, .inl (kI, 16, .inl (cI (wt_u on d i)))), (m7, .inl (kI, 16, .inl (cI ot)))] H := hP
      have hD : va_D AA [(ma, .inr (6, [.int (nI n), .ref m1, .ref m2, .ref m3, .int (nI k), .ref m4, .ref m5, .int (nI d), .ref m6, .ref m7, .int (nI dp), .ref m8, .ref m9, .ref mA, .ref mB, .ref mC])), (m6, .inl (kI, 16, .inl (cI (wt_u on d i)))), (m7, .inl (kI, 16, .inl (cI ot)))] := hD
      refine lv_aload_n hx hb dX6_differ_41 rfl (lv_at hl 0 rfl) ?_
      refine va_get (D := (dC, dI)) (ci := 6) (v := .ref m7) (C := RX6) (T := TX6) (N := 16) hx hb hts (tb_c tbX6) hown hK hP 0 rfl rfl 9 (by decide) (hw _ tw_350) (fun _ h9 => h9) rfl dX6_differ_42 ?_
      refine lv_aload_n hx hb dX6_differ_45 rfl (lv_at hl 0 rfl) ?_
      refine va_get (D := (dC, dI)) (ci := 6) (v := .int (nI d)) (C := RX6) (T := TX6) (N := 16) hx hb hts (tb_c tbX6) hown hK hP 0 rfl rfl 7 (by decide) (hw _ tw_348) (fun _ h9 => h9) rfl dX6_differ_46 ?_
      refine lv_iload_n hx hb dX6_differ_49 rfl (lv_at hl 2 rfl) ?_
      refine cx_iast hx hb hK hP hD hS 2 0 rfl rfl (by first | decide | omega) (i := d) (cI_u) (by first | omega | exact hB _ (by omega) | exact Nat.lt_of_lt_of_le (hB _ (by omega)) (by omega)) dX6_differ_50 (fun H locs hP hD hS => ?_)
      have hP : va_P (dC, dI) vwCl [(ma, .inr (6, [.int (nI n), .ref m1, .ref m2, .ref m3, .int (nI k), .ref m4, .ref m5, .int (nI d), .ref m6, .ref m7, .int (nI dp), .ref m8, .ref m9, .ref mA, .ref mB, .ref mC])), (m6, .inl (kI, 16, .inl (cI (wt_u on d i)))), (m7, .inl (kI, 16, .inl (cI (wt_u ot d j))))] H := hP
      have hD : va_D AA [(ma, .inr (6, [.int (nI n), .ref m1, .ref m2, .ref m3, .int (nI k), .ref m4, .ref m5, .int (nI d), .ref m6, .ref m7, .int (nI dp), .ref m8, .ref m9, .ref mA, .ref mB, .ref mC])), (m6, .inl (kI, 16, .inl (cI (wt_u on d i)))), (m7, .inl (kI, 16, .inl (cI (wt_u ot d j))))] := hD
      refine lv_aload_n hx hb dX6_differ_51 rfl (lv_at hl 0 rfl) ?_
      refine lv_dup hx hb dX6_differ_52 rfl ?_
      refine va_get (D := (dC, dI)) (ci := 6) (v := .int (nI d)) (C := RX6) (T := TX6) (N := 16) hx hb hts (tb_c tbX6) hown hK hP 0 rfl rfl 7 (by decide) (hw _ tw_348) (fun _ h9 => h9) rfl dX6_differ_53 ?_
      refine lv_iconst (v := nI 1) hx hb dX6_differ_56 (by decide) ?_
      refine cx_iadd hx hb dX6_differ_57 ?_
      refine va_put (D := (dC, dI)) (ci := 6) (v := .int (nI (d + 1))) (ty := .int) (C := RX6) (T := TX6) (N := 16) hx hb hts (tb_c tbX6) tyX6 tyX6_ok nmX6 hown hK hP hD hS 0 rfl rfl 7 (by decide) (hw _ tw_348) (fun _ h9 => h9) rfl (by decide +kernel) rfl rfl (Nat.le_of_ble_eq_true rfl) dX6_differ_58 (fun H locs hP hD hS => ?_)
      have hP : va_P (dC, dI) vwCl [(ma, .inr (6, [.int (nI n), .ref m1, .ref m2, .ref m3, .int (nI k), .ref m4, .ref m5, .int (nI (d + 1)), .ref m6, .ref m7, .int (nI dp), .ref m8, .ref m9, .ref mA, .ref mB, .ref mC])), (m6, .inl (kI, 16, .inl (cI (wt_u on d i)))), (m7, .inl (kI, 16, .inl (cI (wt_u ot d j))))] H := hP
      have hD : va_D AA [(ma, .inr (6, [.int (nI n), .ref m1, .ref m2, .ref m3, .int (nI k), .ref m4, .ref m5, .int (nI (d + 1)), .ref m6, .ref m7, .int (nI dp), .ref m8, .ref m9, .ref mA, .ref mB, .ref mC])), (m6, .inl (kI, 16, .inl (cI (wt_u on d i)))), (m7, .inl (kI, 16, .inl (cI (wt_u ot d j))))] := hD
      refine lv_aload_n hx hb dX6_differ_61 rfl (lv_at hl 0 rfl) ?_
      refine va_get (D := (dC, dI)) (ci := 6) (v := .int (nI (d + 1))) (C := RX6) (T := TX6) (N := 16) hx hb hts (tb_c tbX6) hown hK hP 0 rfl rfl 7 (by decide) (hw _ tw_348) (fun _ h9 => h9) rfl dX6_differ_62 ?_
      refine lv_iconst (v := nI 1) hx hb dX6_differ_65 (by decide) ?_
      refine cx_isub hx hb dX6_differ_66 (by omega) ?_
      exact W.iret (v := nI ((d + 1) - 1)) hx hb hr (fun t ht hW => ⟨⟨_, (d + 1, wt_u on d i, wt_u ot d j), rfl, ⟨an_differ_3 qn hi hj (by omega), st_add_3 qn hi hj (by omega)⟩, by rw [ht]; exact hP, hD⟩, hS.F ht⟩) hS.2.2 dX6_differ_67
    refine lv_bipush (v := (-3)) hx hb dX6_differ_28 (by decide) ?_
    exact W.iret (v := (-3)) hx hb hr (fun t ht hW => ⟨⟨_, (d, on, ot), rfl, ⟨an_differ_2 qn hi hj (by omega), st_add_2 (by omega)⟩, by rw [ht]; exact hP, hD⟩, hS.F ht⟩) hS.2.2 dX6_differ_30
  refine lv_bipush (v := (-2)) hx hb dX6_differ_16 (by decide) ?_
  exact W.iret (v := (-2)) hx hb hr (fun t ht hW => ⟨⟨_, (d, on, ot), rfl, ⟨an_differ_1 (by first | exact fun h => of_decide_eq_false b0 h.1 | exact fun h => of_decide_eq_false b1 h.2), st_add_1 (by first | exact fun h => of_decide_eq_false b0 h.1 | exact fun h => of_decide_eq_false b1 h.2)⟩, by rw [ht]; exact hP, hD⟩, hS.F ht⟩) hS.2.2 dX6_differ_18

set_option maxHeartbeats 4000000 in
set_option maxRecDepth 100000 in
theorem c_X6_open (l : Launch) (dC : Nat → ClassId) (dI : Nat → Nat → Nat) (kI kL : ClassId) (ma : Nat) (m1 : Nat) (m2 : Nat) (m3 : Nat) (m4 : Nat) (m5 : Nat) (m6 : Nat) (m7 : Nat) (m8 : Nat) (m9 : Nat) (mA : Nat) (mB : Nat) (mC : Nat) (n : Nat) (k : Nat) (d : Nat) (dp : Nat) (ct : Nat → Nat) (st : Nat → Nat) (dt : Nat → Nat) (qd : dp ≤ 6) (sz : Nat) : Met l yX6_open (.code yX6_open cX6_open 1 (some .int) :: tbw) { frames := 0, cells := 0, slots := 0, locals := 0 } (va_Pc [.ref ma] (cx_M (dC, dI) vwCl [(ma, .inr (6, [.int (nI n), .ref m1, .ref m2, .ref m3, .int (nI k), .ref m4, .ref m5, .int (nI d), .ref m6, .ref m7, .int (nI dp), .ref m8, .ref m9, .ref mA, .ref mB, .ref mC])), (m8, .inl (kI, 6, .inl (cI ct))), (m9, .inl (kI, 6, .inl (cI st))), (mA, .inl (kI, 6, .inl (cI dt)))] [(kI, .int), (kL, .long)] sz)) (va_Qi (fun (r : Int32) (u : cg_LS) => (r = (an_open dp)) ∧ (u = st_open n k d dp ct st dt)) (cx_B (dC, dI) vwCl (va_A [(ma, .inr (6, [.int (nI n), .ref m1, .ref m2, .ref m3, .int (nI k), .ref m4, .ref m5, .int (nI d), .ref m6, .ref m7, .int (nI dp), .ref m8, .ref m9, .ref mA, .ref mB, .ref mC])), (m8, .inl (kI, 6, .inl (cI ct))), (m9, .inl (kI, 6, .inl (cI st))), (mA, .inl (kI, 6, .inl (cI dt)))] sz) (fun u : cg_LS => [(ma, .inr (6, [.int (nI n), .ref m1, .ref m2, .ref m3, .int (nI k), .ref m4, .ref m5, .int (nI d), .ref m6, .ref m7, .int (nI u.1), .ref m8, .ref m9, .ref mA, .ref mB, .ref mC])), (m8, .inl (kI, 6, .inl (cI u.2.1))), (m9, .inl (kI, 6, .inl (cI u.2.2.1))), (mA, .inl (kI, 6, .inl (cI u.2.2.2)))])) (va_A [(ma, .inr (6, [.int (nI n), .ref m1, .ref m2, .ref m3, .int (nI k), .ref m4, .ref m5, .int (nI d), .ref m6, .ref m7, .int (nI dp), .ref m8, .ref m9, .ref mA, .ref mB, .ref mC])), (m8, .inl (kI, 6, .inl (cI ct))), (m9, .inl (kI, 6, .inl (cI st))), (mA, .inl (kI, 6, .inl (cI dt)))] sz)) 0 0 (va_A [(ma, .inr (6, [.int (nI n), .ref m1, .ref m2, .ref m3, .int (nI k), .ref m4, .ref m5, .int (nI d), .ref m6, .ref m7, .int (nI dp), .ref m8, .ref m9, .ref mA, .ref mB, .ref mC])), (m8, .inl (kI, 6, .inl (cI ct))), (m9, .inl (kI, 6, .inl (cI st))), (mA, .inl (kI, 6, .inl (cI dt)))] sz) := by
  refine Met.ofW (cc := cX6_open) (maxL := 1) (ret := (some .int)) (by decide) rfl ?_
  intro p e s m args below meth c s₁ B hml hv
  obtain ⟨rfl, hsz, hP, hK, hD0⟩ := hv
  have hx := B.exec
  have hb := B.bytes
  have hr := B.returns
  have hts := atoms_spec (ws := .code yX6_open cX6_open 1 (some .int) :: tbw) B.pre
  have hw : ∀ w ∈ tbw, w.before _ s = true := fun w h => hts w (List.mem_cons_of_mem _ h)
  have hown : s.vm.findClass RX6 = some m.cls := findClass_of_methodNamed B.named
  subst hsz
  have hD := hD0.self (sz := s.heap.size)
  generalize hAe : va_A [(ma, .inr (6, [.int (nI n), .ref m1, .ref m2, .ref m3, .int (nI k), .ref m4, .ref m5, .int (nI d), .ref m6, .ref m7, .int (nI dp), .ref m8, .ref m9, .ref mA, .ref mB, .ref mC])), (m8, .inl (kI, 6, .inl (cI ct))), (m9, .inl (kI, 6, .inl (cI st))), (mA, .inl (kI, 6, .inl (cI dt)))] s.heap.size = AA at hD ⊢
  have hA : ∀ q : Nat, s.heap.size ≤ q → AA q := fun q h => by rw [← hAe]; exact Or.inr h
  have hS : va_S AA s.heap s.heap [] := va_S.rf
  have hP : va_P (dC, dI) vwCl [(ma, .inr (6, [.int (nI n), .ref m1, .ref m2, .ref m3, .int (nI k), .ref m4, .ref m5, .int (nI d), .ref m6, .ref m7, .int (nI dp), .ref m8, .ref m9, .ref mA, .ref mB, .ref mC])), (m8, .inl (kI, 6, .inl (cI ct))), (m9, .inl (kI, 6, .inl (cI st))), (mA, .inl (kI, 6, .inl (cI dt)))] s.heap := hP
  have hl := lv_entry ([.ref ma]) (n := 1) (Nat.le_of_ble_eq_true rfl)
  rw [lg_entry_eq]
  generalize (lg_sl ([.ref ma]) ++ List.replicate (1 - (lg_sl ([.ref ma])).length) Slot.unset).toArray = ls at hl ⊢
  have hl : lv_has ls 1 [(0, .ref ma)] := hl
  refine lv_aload_n hx hb dX6_open_0 rfl (lv_at hl 0 rfl) ?_
  refine va_get (D := (dC, dI)) (ci := 6) (v := .int (nI dp)) (C := RX6) (T := TX6) (N := 16) hx hb hts (tb_c tbX6) hown hK hP 0 rfl rfl 10 (by decide) (hw _ tw_351) (fun _ h9 => h9) rfl dX6_open_1 ?_
  refine lv_bipush (v := nI 6) hx hb dX6_open_4 (by decide) ?_
  refine cx_ne (x := dp) (y := 6) (tgt := 12) hx hb dX6_open_6 (by decide) (by first | omega | exact hB _ (by omega) | exact Nat.lt_of_lt_of_le (hB _ (by omega)) (by omega)) (by first | omega | exact hB _ (by omega) | exact Nat.lt_of_lt_of_le (hB _ (by omega)) (by omega)) (fun b0 => ?_) (fun b0 => ?_)
  · skip
    refine lv_aload_n hx hb dX6_open_12 rfl (lv_at hl 0 rfl) ?_
    refine va_get (D := (dC, dI)) (ci := 6) (v := .ref m8) (C := RX6) (T := TX6) (N := 16) hx hb hts (tb_c tbX6) hown hK hP 0 rfl rfl 11 (by decide) (hw _ tw_352) (fun _ h9 => h9) rfl dX6_open_13 ?_
    refine lv_aload_n hx hb dX6_open_16 rfl (lv_at hl 0 rfl) ?_
    refine va_get (D := (dC, dI)) (ci := 6) (v := .int (nI dp)) (C := RX6) (T := TX6) (N := 16) hx hb hts (tb_c tbX6) hown hK hP 0 rfl rfl 10 (by decide) (hw _ tw_351) (fun _ h9 => h9) rfl dX6_open_17 ?_
    refine lv_aload_n hx hb dX6_open_20 rfl (lv_at hl 0 rfl) ?_
    refine va_get (D := (dC, dI)) (ci := 6) (v := .int (nI n)) (C := RX6) (T := TX6) (N := 16) hx hb hts (tb_c tbX6) hown hK hP 0 rfl rfl 0 (by decide) (hw _ tw_341) (fun _ h9 => h9) rfl dX6_open_21 ?_
    refine cx_iast hx hb hK hP hD hS 1 0 rfl rfl (by first | decide | omega) (i := dp) (cI_u) (by first | omega | exact hB _ (by omega) | exact Nat.lt_of_lt_of_le (hB _ (by omega)) (by omega)) dX6_open_24 (fun H locs hP hD hS => ?_)
    have hP : va_P (dC, dI) vwCl [(ma, .inr (6, [.int (nI n), .ref m1, .ref m2, .ref m3, .int (nI k), .ref m4, .ref m5, .int (nI d), .ref m6, .ref m7, .int (nI dp), .ref m8, .ref m9, .ref mA, .ref mB, .ref mC])), (m8, .inl (kI, 6, .inl (cI (wt_u ct dp n)))), (m9, .inl (kI, 6, .inl (cI st))), (mA, .inl (kI, 6, .inl (cI dt)))] H := hP
    have hD : va_D AA [(ma, .inr (6, [.int (nI n), .ref m1, .ref m2, .ref m3, .int (nI k), .ref m4, .ref m5, .int (nI d), .ref m6, .ref m7, .int (nI dp), .ref m8, .ref m9, .ref mA, .ref mB, .ref mC])), (m8, .inl (kI, 6, .inl (cI (wt_u ct dp n)))), (m9, .inl (kI, 6, .inl (cI st))), (mA, .inl (kI, 6, .inl (cI dt)))] := hD
    refine lv_aload_n hx hb dX6_open_25 rfl (lv_at hl 0 rfl) ?_
    refine va_get (D := (dC, dI)) (ci := 6) (v := .ref m9) (C := RX6) (T := TX6) (N := 16) hx hb hts (tb_c tbX6) hown hK hP 0 rfl rfl 12 (by decide) (hw _ tw_353) (fun _ h9 => h9) rfl dX6_open_26 ?_
    refine lv_aload_n hx hb dX6_open_29 rfl (lv_at hl 0 rfl) ?_
    refine va_get (D := (dC, dI)) (ci := 6) (v := .int (nI dp)) (C := RX6) (T := TX6) (N := 16) hx hb hts (tb_c tbX6) hown hK hP 0 rfl rfl 10 (by decide) (hw _ tw_351) (fun _ h9 => h9) rfl dX6_open_30 ?_
    refine lv_aload_n hx hb dX6_open_33 rfl (lv_at hl 0 rfl) ?_
    refine va_get (D := (dC, dI)) (ci := 6) (v := .int (nI k)) (C := RX6) (T := TX6) (N := 16) hx hb hts (tb_c tbX6) hown hK hP 0 rfl rfl 4 (by decide) (hw _ tw_345) (fun _ h9 => h9) rfl dX6_open_34 ?_
    refine cx_iast hx hb hK hP hD hS 2 0 rfl rfl (by first | decide | omega) (i := dp) (cI_u) (by first | omega | exact hB _ (by omega) | exact Nat.lt_of_lt_of_le (hB _ (by omega)) (by omega)) dX6_open_37 (fun H locs hP hD hS => ?_)
    have hP : va_P (dC, dI) vwCl [(ma, .inr (6, [.int (nI n), .ref m1, .ref m2, .ref m3, .int (nI k), .ref m4, .ref m5, .int (nI d), .ref m6, .ref m7, .int (nI dp), .ref m8, .ref m9, .ref mA, .ref mB, .ref mC])), (m8, .inl (kI, 6, .inl (cI (wt_u ct dp n)))), (m9, .inl (kI, 6, .inl (cI (wt_u st dp k)))), (mA, .inl (kI, 6, .inl (cI dt)))] H := hP
    have hD : va_D AA [(ma, .inr (6, [.int (nI n), .ref m1, .ref m2, .ref m3, .int (nI k), .ref m4, .ref m5, .int (nI d), .ref m6, .ref m7, .int (nI dp), .ref m8, .ref m9, .ref mA, .ref mB, .ref mC])), (m8, .inl (kI, 6, .inl (cI (wt_u ct dp n)))), (m9, .inl (kI, 6, .inl (cI (wt_u st dp k)))), (mA, .inl (kI, 6, .inl (cI dt)))] := hD
    refine lv_aload_n hx hb dX6_open_38 rfl (lv_at hl 0 rfl) ?_
    refine va_get (D := (dC, dI)) (ci := 6) (v := .ref mA) (C := RX6) (T := TX6) (N := 16) hx hb hts (tb_c tbX6) hown hK hP 0 rfl rfl 13 (by decide) (hw _ tw_354) (fun _ h9 => h9) rfl dX6_open_39 ?_
    refine lv_aload_n hx hb dX6_open_42 rfl (lv_at hl 0 rfl) ?_
    refine va_get (D := (dC, dI)) (ci := 6) (v := .int (nI dp)) (C := RX6) (T := TX6) (N := 16) hx hb hts (tb_c tbX6) hown hK hP 0 rfl rfl 10 (by decide) (hw _ tw_351) (fun _ h9 => h9) rfl dX6_open_43 ?_
    refine lv_aload_n hx hb dX6_open_46 rfl (lv_at hl 0 rfl) ?_
    refine va_get (D := (dC, dI)) (ci := 6) (v := .int (nI d)) (C := RX6) (T := TX6) (N := 16) hx hb hts (tb_c tbX6) hown hK hP 0 rfl rfl 7 (by decide) (hw _ tw_348) (fun _ h9 => h9) rfl dX6_open_47 ?_
    refine cx_iast hx hb hK hP hD hS 3 0 rfl rfl (by first | decide | omega) (i := dp) (cI_u) (by first | omega | exact hB _ (by omega) | exact Nat.lt_of_lt_of_le (hB _ (by omega)) (by omega)) dX6_open_50 (fun H locs hP hD hS => ?_)
    have hP : va_P (dC, dI) vwCl [(ma, .inr (6, [.int (nI n), .ref m1, .ref m2, .ref m3, .int (nI k), .ref m4, .ref m5, .int (nI d), .ref m6, .ref m7, .int (nI dp), .ref m8, .ref m9, .ref mA, .ref mB, .ref mC])), (m8, .inl (kI, 6, .inl (cI (wt_u ct dp n)))), (m9, .inl (kI, 6, .inl (cI (wt_u st dp k)))), (mA, .inl (kI, 6, .inl (cI (wt_u dt dp d))))] H := hP
    have hD : va_D AA [(ma, .inr (6, [.int (nI n), .ref m1, .ref m2, .ref m3, .int (nI k), .ref m4, .ref m5, .int (nI d), .ref m6, .ref m7, .int (nI dp), .ref m8, .ref m9, .ref mA, .ref mB, .ref mC])), (m8, .inl (kI, 6, .inl (cI (wt_u ct dp n)))), (m9, .inl (kI, 6, .inl (cI (wt_u st dp k)))), (mA, .inl (kI, 6, .inl (cI (wt_u dt dp d))))] := hD
    refine lv_aload_n hx hb dX6_open_51 rfl (lv_at hl 0 rfl) ?_
    refine lv_dup hx hb dX6_open_52 rfl ?_
    refine va_get (D := (dC, dI)) (ci := 6) (v := .int (nI dp)) (C := RX6) (T := TX6) (N := 16) hx hb hts (tb_c tbX6) hown hK hP 0 rfl rfl 10 (by decide) (hw _ tw_351) (fun _ h9 => h9) rfl dX6_open_53 ?_
    refine lv_iconst (v := nI 1) hx hb dX6_open_56 (by decide) ?_
    refine cx_iadd hx hb dX6_open_57 ?_
    refine va_put (D := (dC, dI)) (ci := 6) (v := .int (nI (dp + 1))) (ty := .int) (C := RX6) (T := TX6) (N := 16) hx hb hts (tb_c tbX6) tyX6 tyX6_ok nmX6 hown hK hP hD hS 0 rfl rfl 10 (by decide) (hw _ tw_351) (fun _ h9 => h9) rfl (by decide +kernel) rfl rfl (Nat.le_of_ble_eq_true rfl) dX6_open_58 (fun H locs hP hD hS => ?_)
    have hP : va_P (dC, dI) vwCl [(ma, .inr (6, [.int (nI n), .ref m1, .ref m2, .ref m3, .int (nI k), .ref m4, .ref m5, .int (nI d), .ref m6, .ref m7, .int (nI (dp + 1)), .ref m8, .ref m9, .ref mA, .ref mB, .ref mC])), (m8, .inl (kI, 6, .inl (cI (wt_u ct dp n)))), (m9, .inl (kI, 6, .inl (cI (wt_u st dp k)))), (mA, .inl (kI, 6, .inl (cI (wt_u dt dp d))))] H := hP
    have hD : va_D AA [(ma, .inr (6, [.int (nI n), .ref m1, .ref m2, .ref m3, .int (nI k), .ref m4, .ref m5, .int (nI d), .ref m6, .ref m7, .int (nI (dp + 1)), .ref m8, .ref m9, .ref mA, .ref mB, .ref mC])), (m8, .inl (kI, 6, .inl (cI (wt_u ct dp n)))), (m9, .inl (kI, 6, .inl (cI (wt_u st dp k)))), (mA, .inl (kI, 6, .inl (cI (wt_u dt dp d))))] := hD
    refine lv_aload_n hx hb dX6_open_61 rfl (lv_at hl 0 rfl) ?_
    refine va_get (D := (dC, dI)) (ci := 6) (v := .int (nI (dp + 1))) (C := RX6) (T := TX6) (N := 16) hx hb hts (tb_c tbX6) hown hK hP 0 rfl rfl 10 (by decide) (hw _ tw_351) (fun _ h9 => h9) rfl dX6_open_62 ?_
    exact W.iret (v := nI (dp + 1)) hx hb hr (fun t ht hW => ⟨⟨_, (dp + 1, wt_u ct dp n, wt_u st dp k, wt_u dt dp d), rfl, ⟨an_open_2 (by omega), st_open_2 (by omega)⟩, by rw [ht]; exact hP, hD⟩, hS.F ht⟩) hS.2.2 dX6_open_65
  refine lv_bipush (v := (-3)) hx hb dX6_open_9 (by decide) ?_
  exact W.iret (v := (-3)) hx hb hr (fun t ht hW => ⟨⟨_, (dp, ct, st, dt), rfl, ⟨an_open_1 (by omega), st_open_1 (by omega)⟩, by rw [ht]; exact hP, hD⟩, hS.F ht⟩) hS.2.2 dX6_open_11
