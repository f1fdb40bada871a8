set_option maxHeartbeats 4000000 in
set_option maxRecDepth 100000 in
theorem c_X6_written (l : Launch) (dC : Nat → ClassId) (dI : Nat → Nat → Nat) (kI kL : ClassId) (ma : Nat) (m1 : Nat) (m2 : Nat) (m3 : Nat) (m4 : Nat) (m5 : Nat) (m6 : Nat) (m7 : Nat) (m8 : Nat) (m9 : Nat) (mA : Nat) (mB : Nat) (mC : Nat) (n : Nat) (k : Nat) (d : Nat) (dp : Nat) (S : Nat → Int32) (F : Nat → Nat) (E : Nat → Nat) (lf : Nat → Nat) (rt : Nat → Nat) (f : Nat → Nat) (w : Nat → Nat) (x0 : Int32) (z : Int32) (qn : n ≤ 40) (qw : cg_wf (S, F, E) n) (qk : k ≤ 24) (qe : cg_we n lf rt k) (sz : Nat) : Met l yX6_written (.code yX6_written cX6_written 9 (some .int) :: tbw) { frames := 6, cells := 0, slots := 0, locals := 137 } (va_Pc [.ref ma, .int x0, .int z] (cx_M (dC, dI) vwCl [(ma, .inr (6, [.int (nI n), .ref m1, .ref m2, .ref m3, .int (nI k), .ref m4, .ref m5, .int (nI d), .ref m6, .ref m7, .int (nI dp), .ref m8, .ref m9, .ref mA, .ref mB, .ref mC])), (m1, .inl (kI, 40, .inl S)), (m2, .inl (kI, 40, .inl (cA F))), (m3, .inl (kI, 40, .inl (cA E))), (m4, .inl (kI, 24, .inl (cI lf))), (m5, .inl (kI, 24, .inl (cI rt))), (mB, .inl (kI, 40, .inl (cI f))), (mC, .inl (kL, 40, .inr (.inl (cL w))))] [(kI, .int), (kL, .long)] sz)) (va_Qi (fun (r : Int32) (u : (Nat → Nat) × (Nat → Nat)) => r = (an_written n (S, F, E) (cg_LA S F E n lf rt k) x0 z)) (cx_B (dC, dI) vwCl (va_A [(ma, .inr (6, [.int (nI n), .ref m1, .ref m2, .ref m3, .int (nI k), .ref m4, .ref m5, .int (nI d), .ref m6, .ref m7, .int (nI dp), .ref m8, .ref m9, .ref mA, .ref mB, .ref mC])), (m1, .inl (kI, 40, .inl S)), (m2, .inl (kI, 40, .inl (cA F))), (m3, .inl (kI, 40, .inl (cA E))), (m4, .inl (kI, 24, .inl (cI lf))), (m5, .inl (kI, 24, .inl (cI rt))), (mB, .inl (kI, 40, .inl (cI f))), (mC, .inl (kL, 40, .inr (.inl (cL w))))] sz) (fun u : (Nat → Nat) × (Nat → Nat) => [(ma, .inr (6, [.int (nI n), .ref m1, .ref m2, .ref m3, .int (nI k), .ref m4, .ref m5, .int (nI d), .ref m6, .ref m7, .int (nI dp), .ref m8, .ref m9, .ref mA, .ref mB, .ref mC])), (m1, .inl (kI, 40, .inl S)), (m2, .inl (kI, 40, .inl (cA F))), (m3, .inl (kI, 40, .inl (cA E))), (m4, .inl (kI, 24, .inl (cI lf))), (m5, .inl (kI, 24, .inl (cI rt))), (mB, .inl (kI, 40, .inl (cI u.1))), (mC, .inl (kL, 40, .inr (.inl (cL u.2))))])) (va_A [(ma, .inr (6, [.int (nI n), .ref m1, .ref m2, .ref m3, .int (nI k), .ref m4, .ref m5, .int (nI d), .ref m6, .ref m7, .int (nI dp), .ref m8, .ref m9, .ref mA, .ref mB, .ref mC])), (m1, .inl (kI, 40, .inl S)), (m2, .inl (kI, 40, .inl (cA F))), (m3, .inl (kI, 40, .inl (cA E))), (m4, .inl (kI, 24, .inl (cI lf))), (m5, .inl (kI, 24, .inl (cI rt))), (mB, .inl (kI, 40, .inl (cI f))), (mC, .inl (kL, 40, .inr (.inl (cL w))))] sz)) 0 0 (va_A [(ma, .inr (6, [.int (nI n), .ref m1, .ref m2, .ref m3, .int (nI k), .ref m4, .ref m5, .int (nI d), .ref m6, .ref m7, .int (nI dp), .ref m8, .ref m9, .ref mA, .ref mB, .ref mC])), (m1, .inl (kI, 40, .inl S)), (m2, .inl (kI, 40, .inl (cA F))), (m3, .inl (kI, 40, .inl (cA E))), (m4, .inl (kI, 24, .inl (cI lf))), (m5, .inl (kI, 24, .inl (cI rt))), (mB, .inl (kI, 40, .inl (cI f))), (mC, .inl (kL, 40, .inr (.inl (cL w))))] sz) := by
  refine Met.ofW (cc := cX6_written) (maxL := 9) (ret := (some .int)) (by decide) rfl ?_
  intro p e s m args below meth c s₁ B hml hv
  obtain ⟨rfl, hsz, hP, hK, hD0⟩ := hv
  have hx := B.exec
  have hb := B.bytes
  have hr := B.returns
  have hts := atoms_spec (ws := .code yX6_written cX6_written 9 (some .int) :: tbw) B.pre
  have hw : ∀ w ∈ tbw, w.before _ s = true := fun w h => hts w (List.mem_cons_of_mem _ h)
  have hown : s.vm.findClass RX6 = some m.cls := findClass_of_methodNamed B.named
  subst hsz
  have hD := hD0.self (sz := s.heap.size)
  generalize hAe : va_A [(ma, .inr (6, [.int (nI n), .ref m1, .ref m2, .ref m3, .int (nI k), .ref m4, .ref m5, .int (nI d), .ref m6, .ref m7, .int (nI dp), .ref m8, .ref m9, .ref mA, .ref mB, .ref mC])), (m1, .inl (kI, 40, .inl S)), (m2, .inl (kI, 40, .inl (cA F))), (m3, .inl (kI, 40, .inl (cA E))), (m4, .inl (kI, 24, .inl (cI lf))), (m5, .inl (kI, 24, .inl (cI rt))), (mB, .inl (kI, 40, .inl (cI f))), (mC, .inl (kL, 40, .inr (.inl (cL w))))] s.heap.size = AA at hD ⊢
  have hA : ∀ q : Nat, s.heap.size ≤ q → AA q := fun q h => by rw [← hAe]; exact Or.inr h
  have hS : va_S AA s.heap s.heap [] := va_S.rf
  have hP : va_P (dC, dI) vwCl [(ma, .inr (6, [.int (nI n), .ref m1, .ref m2, .ref m3, .int (nI k), .ref m4, .ref m5, .int (nI d), .ref m6, .ref m7, .int (nI dp), .ref m8, .ref m9, .ref mA, .ref mB, .ref mC])), (m1, .inl (kI, 40, .inl S)), (m2, .inl (kI, 40, .inl (cA F))), (m3, .inl (kI, 40, .inl (cA E))), (m4, .inl (kI, 24, .inl (cI lf))), (m5, .inl (kI, 24, .inl (cI rt))), (mB, .inl (kI, 40, .inl (cI f))), (mC, .inl (kL, 40, .inr (.inl (cL w))))] s.heap := hP
  have hl := lv_entry ([.ref ma, .int x0, .int z]) (n := 9) (Nat.le_of_ble_eq_true rfl)
  rw [lg_entry_eq]
  generalize (lg_sl ([.ref ma, .int x0, .int z]) ++ List.replicate (9 - (lg_sl ([.ref ma, .int x0, .int z])).length) Slot.unset).toArray = ls at hl ⊢
  have hl : lv_has ls 9 [(0, .ref ma), (1, .int x0), (2, .int z)] := hl
  refine lv_aload_n hx hb dX6_written_0 rfl (lv_at hl 0 rfl) ?_
  refine lv_iload_n hx hb dX6_written_1 rfl (lv_at hl 1 rfl) ?_
  refine cx_si (va_runV (As := [.int x0]) (rest := []) ⟨hx, hb, hml, hown, hts⟩ (c_X6_isTerm l dC dI kI kL ma m1 m2 m3 m4 m5 m6 m7 m8 m9 mA mB mC n k d dp x0 ) (cwV 1 hts gv_X6_77 rfl rfl rfl hdX6_isTerm ⟨Nat.le_of_ble_eq_true rfl, Nat.le_of_ble_eq_true rfl⟩) (cx_preV (hP.sub (ws' := [(ma, .inr (6, [.int (nI n), .ref m1, .ref m2, .ref m3, .int (nI k), .ref m4, .ref m5, .int (nI d), .ref m6, .ref m7, .int (nI dp), .ref m8, .ref m9, .ref mA, .ref mB, .ref mC]))]) [0] rfl) hK rfl (q0 := 0) rfl) rfl rfl hl.1 rfl (lv_room (Nat.le_of_ble_eq_true rfl)) dX6_written_2 ⟨Nat.zero_le _, Nat.zero_le _⟩) (fun r hres => ?_)
  subst hres
  refine cx_if1 (tgt := 11) hx hb dX6_written_5 (by decide) (fun b0 => ?_) (fun b0 => ?_)
  · skip
    have hT := of_decide_eq_true b0
    obtain ⟨i, hi, rfl⟩ := cx_T_x qn hT
    refine lv_aload_n hx hb dX6_written_11 rfl (lv_at hl 0 rfl) ?_
    refine cx_mv (wc := [(ma, .inr (6, [.int (nI n), .ref m1, .ref m2, .ref m3, .int (nI k), .ref m4, .ref m5, .int (nI d), .ref m6, .ref m7, .int (nI dp), .ref m8, .ref m9, .ref mA, .ref mB, .ref mC])), (m1, .inl (kI, 40, .inl S)), (m2, .inl (kI, 40, .inl (cA F))), (m3, .inl (kI, 40, .inl (cA E))), (m4, .inl (kI, 24, .inl (cI lf))), (m5, .inl (kI, 24, .inl (cI rt))), (mB, .inl (kI, 40, .inl (cI f))), (mC, .inl (kL, 40, .inr (.inl (cL w))))]) (wr := []) hP hD hS hA [0, 1, 2, 3, 4, 5, 6, 7] [] rfl rfl (by decide) (by decide) (va_runV (As := []) (rest := []) ⟨hx, hb, hml, hown, hts⟩ (c_X6_weigh l dC dI kI kL ma m1 m2 m3 m4 m5 m6 m7 m8 m9 mA mB mC n k d dp S F E lf rt f w (by first | assumption | omega | rfl) (by first | assumption | omega | rfl) (by first | assumption | omega | rfl) (by first | assumption | omega | rfl) _) (cwV 0 hts gv_X6_109 rfl rfl rfl hdX6_weigh ⟨Nat.le_of_ble_eq_true rfl, Nat.le_of_ble_eq_true rfl⟩) (cx_mreV (hP.sub (ws' := [(ma, .inr (6, [.int (nI n), .ref m1, .ref m2, .ref m3, .int (nI k), .ref m4, .ref m5, .int (nI d), .ref m6, .ref m7, .int (nI dp), .ref m8, .ref m9, .ref mA, .ref mB, .ref mC])), (m1, .inl (kI, 40, .inl S)), (m2, .inl (kI, 40, .inl (cA F))), (m3, .inl (kI, 40, .inl (cA E))), (m4, .inl (kI, 24, .inl (cI lf))), (m5, .inl (kI, 24, .inl (cI rt))), (mB, .inl (kI, 40, .inl (cI f))), (mC, .inl (kL, 40, .inr (.inl (cL w))))]) [0, 1, 2, 3, 4, 5, 6, 7] rfl) hK (hD.sub (ws' := [(ma, .inr (6, [.int (nI n), .ref m1, .ref m2, .ref m3, .int (nI k), .ref m4, .ref m5, .int (nI d), .ref m6, .ref m7, .int (nI dp), .ref m8, .ref m9, .ref mA, .ref mB, .ref mC])), (m1, .inl (kI, 40, .inl S)), (m2, .inl (kI, 40, .inl (cA F))), (m3, .inl (kI, 40, .inl (cA E))), (m4, .inl (kI, 24, .inl (cI lf))), (m5, .inl (kI, 24, .inl (cI rt))), (mB, .inl (kI, 40, .inl (cI f))), (mC, .inl (kL, 40, .inr (.inl (cL w))))]) [0, 1, 2, 3, 4, 5, 6, 7] (by decide) rfl) rfl (q0 := 0) rfl) rfl rfl hl.1 rfl (lv_room (Nat.le_of_ble_eq_true rfl)) dX6_written_12 ⟨Nat.zero_le _, Nat.zero_le _⟩) (fun p9 H locs hres hP hD hS => ?_)
    have hp9 := hres
    have hP : va_P (dC, dI) vwCl [(ma, .inr (6, [.int (nI n), .ref m1, .ref m2, .ref m3, .int (nI k), .ref m4, .ref m5, .int (nI d), .ref m6, .ref m7, .int (nI dp), .ref m8, .ref m9, .ref mA, .ref mB, .ref mC])), (m1, .inl (kI, 40, .inl S)), (m2, .inl (kI, 40, .inl (cA F))), (m3, .inl (kI, 40, .inl (cA E))), (m4, .inl (kI, 24, .inl (cI lf))), (m5, .inl (kI, 24, .inl (cI rt))), (mB, .inl (kI, 40, .inl (cI p9.1))), (mC, .inl (kL, 40, .inr (.inl (cL p9.2))))] H := hP.sub (ws' := [(ma, .inr (6, [.int (nI n), .ref m1, .ref m2, .ref m3, .int (nI k), .ref m4, .ref m5, .int (nI d), .ref m6, .ref m7, .int (nI dp), .ref m8, .ref m9, .ref mA, .ref mB, .ref mC])), (m1, .inl (kI, 40, .inl S)), (m2, .inl (kI, 40, .inl (cA F))), (m3, .inl (kI, 40, .inl (cA E))), (m4, .inl (kI, 24, .inl (cI lf))), (m5, .inl (kI, 24, .inl (cI rt))), (mB, .inl (kI, 40, .inl (cI p9.1))), (mC, .inl (kL, 40, .inr (.inl (cL p9.2))))]) [0, 1, 2, 3, 4, 5, 6, 7] rfl
    have hD : va_D AA [(ma, .inr (6, [.int (nI n), .ref m1, .ref m2, .ref m3, .int (nI k), .ref m4, .ref m5, .int (nI d), .ref m6, .ref m7, .int (nI dp), .ref m8, .ref m9, .ref mA, .ref mB, .ref mC])), (m1, .inl (kI, 40, .inl S)), (m2, .inl (kI, 40, .inl (cA F))), (m3, .inl (kI, 40, .inl (cA E))), (m4, .inl (kI, 24, .inl (cI lf))), (m5, .inl (kI, 24, .inl (cI rt))), (mB, .inl (kI, 40, .inl (cI p9.1))), (mC, .inl (kL, 40, .inr (.inl (cL p9.2))))] := hD.sub (ws' := [(ma, .inr (6, [.int (nI n), .ref m1, .ref m2, .ref m3, .int (nI k), .ref m4, .ref m5, .int (nI d), .ref m6, .ref m7, .int (nI dp), .ref m8, .ref m9, .ref mA, .ref mB, .ref mC])), (m1, .inl (kI, 40, .inl S)), (m2, .inl (kI, 40, .inl (cA F))), (m3, .inl (kI, 40, .inl (cA E))), (m4, .inl (kI, 24, .inl (cI lf))), (m5, .inl (kI, 24, .inl (cI rt))), (mB, .inl (kI, 40, .inl (cI p9.1))), (mC, .inl (kL, 40, .inr (.inl (cL p9.2))))]) [0, 1, 2, 3, 4, 5, 6, 7] (by decide) rfl
    obtain ⟨g9, h9⟩ := p9
    obtain ⟨hg9, qR⟩ := hp9
    simp only at hg9 qR
    have hB := cg_ok_B (cg_ok_ag hg9 (cg_lab_ok qe))
    have hkn := wt_f_h qw hB qn qR
    have hP : va_P (dC, dI) vwCl [(ma, .inr (6, [.int (nI n), .ref m1, .ref m2, .ref m3, .int (nI k), .ref m4, .ref m5, .int (nI d), .ref m6, .ref m7, .int (nI dp), .ref m8, .ref m9, .ref mA, .ref mB, .ref mC])), (m1, .inl (kI, 40, .inl S)), (m2, .inl (kI, 40, .inl (cA F))), (m3, .inl (kI, 40, .inl (cA E))), (m4, .inl (kI, 24, .inl (cI lf))), (m5, .inl (kI, 24, .inl (cI rt))), (mB, .inl (kI, 40, .inl (cI g9))), (mC, .inl (kL, 40, .inr (.inl (cL h9))))] H := hP
    have hD : va_D AA [(ma, .inr (6, [.int (nI n), .ref m1, .ref m2, .ref m3, .int (nI k), .ref m4, .ref m5, .int (nI d), .ref m6, .ref m7, .int (nI dp), .ref m8, .ref m9, .ref mA, .ref mB, .ref mC])), (m1, .inl (kI, 40, .inl S)), (m2, .inl (kI, 40, .inl (cA F))), (m3, .inl (kI, 40, .inl (cA E))), (m4, .inl (kI, 24, .inl (cI lf))), (m5, .inl (kI, 24, .inl (cI rt))), (mB, .inl (kI, 40, .inl (cI g9))), (mC, .inl (kL, 40, .inr (.inl (cL h9))))] := hD
    refine lv_iload_n hx hb dX6_written_15 rfl (lv_at hl 2 rfl) ?_
    refine lv_if_lt (tgt := 36) hx hb dX6_written_16 (by decide) (fun b1 => ?_) (fun b1 => ?_)
    · skip
      refine lv_iconst (v := (-1)) hx hb dX6_written_36 (by decide) ?_
      exact W.iret (v := (-1)) hx hb hr (fun t ht hW => ⟨⟨_, (g9, h9), rfl, (by first | exact (an_written_m qn hi b1).trans (an_written_ag qn qw hB hg9) | exact (an_written_n qn hi hz1 (by rw [← hkn i hi]; exact b2)).trans (an_written_ag qn qw hB hg9)), by rw [ht]; exact hP, hD⟩, hS.F ht⟩) hS.2.2 dX6_written_37
    obtain ⟨z1, hz1, rfl⟩ := cx_pos_x b1
    have e1 := wt_f_u (T := (S, F, E)) (L := g9) (n := n) (g9 i)
    have e2 := hkn i hi
    refine lv_iload_n hx hb dX6_written_19 rfl (lv_at hl 2 rfl) ?_
    refine lv_i2l (v := lN z1) hx hb dX6_written_20 (nI_l (by first | omega | exact hB _ (by omega) | exact Nat.lt_of_lt_of_le (hB _ (by omega)) (by omega))) ?_
    refine lv_aload_n hx hb dX6_written_21 rfl (lv_at hl 0 rfl) ?_
    refine va_get (D := (dC, dI)) (ci := 6) (v := .ref mC) (C := RX6) (T := TX6) (N := 16) hx hb hts (tb_c tbX6) hown hK hP 0 rfl rfl 15 (by decide) (hw _ tw_356) (fun _ h9 => h9) rfl dX6_written_22 ?_
    refine lv_aload_n hx hb dX6_written_25 rfl (lv_at hl 0 rfl) ?_
    refine va_get (D := (dC, dI)) (ci := 6) (v := .ref mB) (C := RX6) (T := TX6) (N := 16) hx hb hts (tb_c tbX6) hown hK hP 0 rfl rfl 14 (by decide) (hw _ tw_355) (fun _ h9 => h9) rfl dX6_written_26 ?_
    refine lv_iload_n hx hb dX6_written_29 rfl (lv_at hl 1 rfl) ?_
    refine cx_iald hx hb hK hP 6 0 rfl rfl (by first | decide | omega) (v := nI (g9 i)) (i := i) rfl (by first | omega | exact hB _ (by omega) | exact Nat.lt_of_lt_of_le (hB _ (by omega)) (by omega)) dX6_written_30 ?_
    refine cx_lald hx hb hK hP 7 1 rfl rfl (by first | decide | omega) (v := lN (h9 (g9 i))) (i := (g9 i)) rfl (by first | omega | exact hB _ (by omega) | exact Nat.lt_of_lt_of_le (hB _ (by omega)) (by omega)) dX6_written_31 ?_
    refine cx_llt (x := z1) (y := (h9 (g9 i))) (tgt := 38) hx hb dX6_written_32 dX6_written_33 (by decide) (by first | omega | exact hB _ (by omega) | exact Nat.lt_of_lt_of_le (hB _ (by omega)) (by omega)) (by first | omega | exact hB _ (by omega) | exact Nat.lt_of_lt_of_le (hB _ (by omega)) (by omega)) (fun b2 => ?_) (fun b2 => ?_)
    · skip
      have hzw : z1 < wt_f (S, F, E) g9 n (g9 i) := by rw [← hkn i hi]; exact b2
      have g0 := wt_g_b (T := (S, F, E)) qw hB qn hi hzw
      refine lv_aload_n hx hb dX6_written_38 rfl (lv_at hl 0 rfl) ?_
      refine lv_iload_n hx hb dX6_written_39 rfl (lv_at hl 1 rfl) ?_
      refine cx_si (va_runV (As := [.int (nI i)]) (rest := []) ⟨hx, hb, hml, hown, hts⟩ (c_X6_bestOf l dC dI kI kL ma m1 m2 m3 m4 m5 m6 m7 m8 m9 mA mB mC n k d dp S F E g9 h9 i (by first | assumption | omega | rfl) (by first | assumption | omega | rfl) (by first | assumption | omega | rfl) (by first | assumption | omega | rfl) (by first | assumption | omega | rfl)) (cwV 1 hts gv_X6_112 rfl rfl rfl hdX6_bestOf ⟨Nat.le_of_ble_eq_true rfl, Nat.le_of_ble_eq_true rfl⟩) (cx_preV (hP.sub (ws' := [(ma, .inr (6, [.int (nI n), .ref m1, .ref m2, .ref m3, .int (nI k), .ref m4, .ref m5, .int (nI d), .ref m6, .ref m7, .int (nI dp), .ref m8, .ref m9, .ref mA, .ref mB, .ref mC])), (m1, .inl (kI, 40, .inl S)), (m2, .inl (kI, 40, .inl (cA F))), (m3, .inl (kI, 40, .inl (cA E))), (mB, .inl (kI, 40, .inl (cI g9))), (mC, .inl (kL, 40, .inr (.inl (cL h9))))]) [0, 1, 2, 3, 6, 7] rfl) hK rfl (q0 := 0) rfl) rfl rfl hl.1 rfl (lv_room (Nat.le_of_ble_eq_true rfl)) dX6_written_40 ⟨Nat.zero_le _, Nat.zero_le _⟩) (fun r hres => ?_)
      subst hres
      refine lv_istore_n hx hb dX6_written_43 rfl hl (by decide) rfl (fun ls hl => ?_)
      have hl : lv_has ls 9 [(3, .int (nI (wt_b (S, F, E) g9 n i))), (0, .ref ma), (1, .int (nI i)), (2, .int (nI z1))] := hl
      refine lv_iload_n hx hb dX6_written_44 rfl (lv_at hl 3 rfl) ?_
      refine lv_i2l (v := lN z1) hx hb dX6_written_45 (nI_l (by first | omega | exact hB _ (by omega) | exact Nat.lt_of_lt_of_le (hB _ (by omega)) (by omega))) ?_
      refine lv_lstore hx hb dX6_written_46 hl (by decide) rfl (fun ls hl => ?_)
      have hl : lv_has ls 9 [(4, .long (lN z1)), (3, .int (nI (wt_b (S, F, E) g9 n i))), (0, .ref ma), (1, .int (nI i)), (2, .int (nI z1))] := hl
      refine cx_loop3 (fun (x : Nat) (y : Nat) (r9 : Nat) (H : Heap) (locs : List Loc) (ls : Array Slot) => lv_has ls 9 [(3, .int (nI x)), (4, .long (lN y)), (0, .ref ma), (1, .int (nI i)), (2, .int (nI z1))] ∧ va_P (dC, dI) vwCl [(ma, .inr (6, [.int (nI n), .ref m1, .ref m2, .ref m3, .int (nI k), .ref m4, .ref m5, .int (nI d), .ref m6, .ref m7, .int (nI dp), .ref m8, .ref m9, .ref mA, .ref mB, .ref mC])), (m1, .inl (kI, 40, .inl S)), (m2, .inl (kI, 40, .inl (cA F))), (m3, .inl (kI, 40, .inl (cA E))), (m4, .inl (kI, 24, .inl (cI lf))), (m5, .inl (kI, 24, .inl (cI rt))), (mB, .inl (kI, 40, .inl (cI g9))), (mC, .inl (kL, 40, .inr (.inl (cL h9))))] H ∧ va_D AA [(ma, .inr (6, [.int (nI n), .ref m1, .ref m2, .ref m3, .int (nI k), .ref m4, .ref m5, .int (nI d), .ref m6, .ref m7, .int (nI dp), .ref m8, .ref m9, .ref mA, .ref mB, .ref mC])), (m1, .inl (kI, 40, .inl S)), (m2, .inl (kI, 40, .inl (cA F))), (m3, .inl (kI, 40, .inl (cA E))), (m4, .inl (kI, 24, .inl (cI lf))), (m5, .inl (kI, 24, .inl (cI rt))), (mB, .inl (kI, 40, .inl (cI g9))), (mC, .inl (kL, 40, .inr (.inl (cL h9))))] ∧ va_S AA s.heap H locs ∧ ((x, y) = wt_w (S, F, E) g9 n (wt_b (S, F, E) g9 n i, z1) r9)) (fun x y r9 => y) (fun x y r9 H locs ls hI ih1 => ?_) (wt_b (S, F, E) g9 n i) z1 0 ⟨lv_sub hl [1, 0, 2, 3, 4] rfl, hP, hD, hS, (rfl)⟩
      obtain ⟨hl, hP, hD, hS, hxy⟩ := hI
      have gx := (wt_w_g qw hB qn g0 r9).1
      rw [← hxy] at gx
      have gx1 : x < n := gx.1
      have gx2 : y < wt_f (S, F, E) g9 n (g9 x) := gx.2.2
      have gx3 := wt_f_u (T := (S, F, E)) (L := g9) (n := n) (g9 x)
      have gx4 : F x ≤ x ∧ E x ≤ x := qw x gx1
      have gx5 := wt_a_b (L := g9) (wt_f_u (T := (S, F, E)) (L := g9) (n := n)) (F x)
      refine lv_lload hx hb dX6_written_48 (lv_at hl 1 rfl) ?_
      refine lv_lconst (v := lN 0) hx hb dX6_written_50 (by decide) ?_
      refine cx_lle (x := y) (y := 0) (tgt := 133) hx hb dX6_written_51 dX6_written_52 (by decide) (by first | omega | exact hB _ (by omega) | exact Nat.lt_of_lt_of_le (hB _ (by omega)) (by omega)) (by first | omega | exact hB _ (by omega) | exact Nat.lt_of_lt_of_le (hB _ (by omega)) (by omega)) (fun b3 => ?_) (fun b3 => ?_)
      · skip
        refine lv_aload_n hx hb dX6_written_133 rfl (lv_at hl 2 rfl) ?_
        refine va_get (D := (dC, dI)) (ci := 6) (v := .ref m1) (C := RX6) (T := TX6) (N := 16) hx hb hts (tb_c tbX6) hown hK hP 0 rfl rfl 1 (by decide) (hw _ tw_342) (fun _ h9 => h9) rfl dX6_written_134 ?_
        refine lv_iload_n hx hb dX6_written_137 rfl (lv_at hl 0 rfl) ?_
        refine cx_iald hx hb hK hP 1 0 rfl rfl (by first | decide | omega) (v := (S x)) (i := x) rfl (by first | omega | exact hB _ (by omega) | exact Nat.lt_of_lt_of_le (hB _ (by omega)) (by omega)) dX6_written_138 ?_
        exact W.iret (v := (S x)) hx hb hr (fun t ht hW => ⟨⟨_, (g9, h9), rfl, (wt_y4_e qw hB qn g0 hxy (Or.inl (Nat.le_zero.mp b3))).trans ((an_written_y qn hi hz1 hzw).trans (an_written_ag qn qw hB hg9)), by rw [ht]; exact hP, hD⟩, hS.F ht⟩) hS.2.2 dX6_written_139
      have gn := wt_n_g qw hB qn gx (by show ¬ y = 0; omega)
      refine lv_lload hx hb dX6_written_55 (lv_at hl 1 rfl) ?_
      refine lv_lconst (v := lN 1) hx hb dX6_written_57 (by decide) ?_
      refine cx_lsub hx hb dX6_written_58 (by omega) ?_
      refine lv_lstore hx hb dX6_written_59 hl (by decide) rfl (fun ls hl => ?_)
      have hl : lv_has ls 9 [(4, .long (lN (y - 1))), (3, .int (nI x)), (0, .ref ma), (1, .int (nI i)), (2, .int (nI z1))] := hl
      refine lv_aload_n hx hb dX6_written_61 rfl (lv_at hl 2 rfl) ?_
      refine lv_aload_n hx hb dX6_written_62 rfl (lv_at hl 2 rfl) ?_
      refine va_get (D := (dC, dI)) (ci := 6) (v := .ref m2) (C := RX6) (T := TX6) (N := 16) hx hb hts (tb_c tbX6) hown hK hP 0 rfl rfl 2 (by decide) (hw _ tw_343) (fun _ h9 => h9) rfl dX6_written_63 ?_
      refine lv_iload_n hx hb dX6_written_66 rfl (lv_at hl 1 rfl) ?_
      refine cx_iald hx hb hK hP 2 0 rfl rfl (by first | decide | omega) (v := aI (F x)) (i := x) rfl (by first | omega | exact hB _ (by omega) | exact Nat.lt_of_lt_of_le (hB _ (by omega)) (by omega)) dX6_written_67 ?_
      refine cx_sl (va_runV (As := [.int (aI (F x))]) (rest := []) ⟨hx, hb, hml, hown, hts⟩ (c_X6_argument l dC dI kI kL ma m1 m2 m3 m4 m5 m6 m7 m8 m9 mA mB mC n k d dp g9 h9 (F x) (by first | assumption | omega | rfl) (by first | assumption | omega | rfl) (by first | assumption | omega | rfl)) (cwV 1 hts gv_X6_102 rfl rfl rfl hdX6_argument ⟨Nat.le_of_ble_eq_true rfl, Nat.le_of_ble_eq_true rfl⟩) (cx_preV (hP.sub (ws' := [(ma, .inr (6, [.int (nI n), .ref m1, .ref m2, .ref m3, .int (nI k), .ref m4, .ref m5, .int (nI d), .ref m6, .ref m7, .int (nI dp), .ref m8, .ref m9, .ref mA, .ref mB, .ref mC])), (mB, .inl (kI, 40, .inl (cI g9))), (mC, .inl (kL, 40, .inr (.inl (cL h9))))]) [0, 6, 7] rfl) hK rfl (q0 := 0) rfl) rfl rfl hl.1 rfl (lv_room (Nat.le_of_ble_eq_true rfl)) dX6_written_68 ⟨Nat.zero_le _, Nat.zero_le _⟩) (fun r hres => ?_)
      subst hres
      refine cx_topl (congrArg lN (wt_a_k (x := F x) qw hB qn qR (by omega))) ?_
      refine lv_lstore hx hb dX6_written_71 hl (by decide) rfl (fun ls hl => ?_)
      have hl : lv_has ls 9 [(6, .long (lN (wt_a g9 (wt_f (S, F, E) g9 n) (F x)))), (4, .long (lN (y - 1))), (3, .int (nI x)), (0, .ref ma), (1, .int (nI i)), (2, .int (nI z1))] := hl
      refine lv_lload hx hb dX6_written_73 (lv_at hl 1 rfl) ?_
      refine lv_lload hx hb dX6_written_75 (lv_at hl 0 rfl) ?_
      refine cx_llt (x := (y - 1)) (y := (wt_a g9 (wt_f (S, F, E) g9 n) (F x))) (tgt := 85) hx hb dX6_written_77 dX6_written_78 (by decide) (by first | omega | exact hB _ (by omega) | exact Nat.lt_of_lt_of_le (hB _ (by omega)) (by omega)) (by first | omega | exact hB _ (by omega) | exact Nat.lt_of_lt_of_le (hB _ (by omega)) (by omega)) (fun b4 => ?_) (fun b4 => ?_)
      · skip
        refine lv_iconst (v := nI 0) hx hb dX6_written_85 (by decide) ?_
        refine lv_istore hx hb dX6_written_86 hl (by decide) rfl (fun ls hl => ?_)
        have hl : lv_has ls 9 [(8, .int (nI 0)), (6, .long (lN (wt_a g9 (wt_f (S, F, E) g9 n) (F x)))), (4, .long (lN (y - 1))), (3, .int (nI x)), (0, .ref ma), (1, .int (nI i)), (2, .int (nI z1))] := hl
        refine lv_iload hx hb dX6_written_88 (lv_at hl 0 rfl) ?_
        refine cx_neq (x := 0) (tgt := 101) hx hb dX6_written_90 (by decide) (by decide) (fun _ => ?_) (fun h9 => absurd h9 (by decide))
        refine lv_lload hx hb dX6_written_101 (lv_at hl 2 rfl) ?_
        refine lv_lstore hx hb dX6_written_103 hl (by decide) rfl (fun ls hl => ?_)
        have hl : lv_has ls 9 [(4, .long (lN (y - 1))), (8, .int (nI 0)), (6, .long (lN (wt_a g9 (wt_f (S, F, E) g9 n) (F x)))), (3, .int (nI x)), (0, .ref ma), (1, .int (nI i)), (2, .int (nI z1))] := hl
        refine lv_aload_n hx hb dX6_written_105 rfl (lv_at hl 4 rfl) ?_
        refine lv_iload hx hb dX6_written_106 (lv_at hl 1 rfl) ?_
        refine cx_neq (x := 0) (tgt := 120) hx hb dX6_written_108 (by decide) (by decide) (fun _ => ?_) (fun h9 => absurd h9 (by decide))
        refine lv_aload_n hx hb dX6_written_120 rfl (lv_at hl 4 rfl) ?_
        refine va_get (D := (dC, dI)) (ci := 6) (v := .ref m2) (C := RX6) (T := TX6) (N := 16) hx hb hts (tb_c tbX6) hown hK hP 0 rfl rfl 2 (by decide) (hw _ tw_343) (fun _ h9 => h9) rfl dX6_written_121 ?_
        refine lv_iload_n hx hb dX6_written_124 rfl (lv_at hl 3 rfl) ?_
        refine cx_iald hx hb hK hP 2 0 rfl rfl (by first | decide | omega) (v := aI (F x)) (i := x) rfl (by first | omega | exact hB _ (by omega) | exact Nat.lt_of_lt_of_le (hB _ (by omega)) (by omega)) dX6_written_125 ?_
        have hne : ¬ F x = 0 := by first | exact gn.1 b4 | exact gn.2.1 (Nat.not_le_of_lt b4)
        refine cx_topi (aI_p hne) ?_
        refine cx_si (va_runV (As := [.int (nI (F x - 1))]) (rest := []) ⟨hx, hb, hml, hown, hts⟩ (c_X6_bestOf l dC dI kI kL ma m1 m2 m3 m4 m5 m6 m7 m8 m9 mA mB mC n k d dp S F E g9 h9 (F x - 1) (by first | assumption | omega | rfl) (by first | assumption | omega | rfl) (by first | assumption | omega | rfl) (by first | assumption | omega | rfl) (by first | assumption | omega | rfl)) (cwV 1 hts gv_X6_112 rfl rfl rfl hdX6_bestOf ⟨Nat.le_of_ble_eq_true rfl, Nat.le_of_ble_eq_true rfl⟩) (cx_preV (hP.sub (ws' := [(ma, .inr (6, [.int (nI n), .ref m1, .ref m2, .ref m3, .int (nI k), .ref m4, .ref m5, .int (nI d), .ref m6, .ref m7, .int (nI dp), .ref m8, .ref m9, .ref mA, .ref mB, .ref mC])), (m1, .inl (kI, 40, .inl S)), (m2, .inl (kI, 40, .inl (cA F))), (m3, .inl (kI, 40, .inl (cA E))), (mB, .inl (kI, 40, .inl (cI g9))), (mC, .inl (kL, 40, .inr (.inl (cL h9))))]) [0, 1, 2, 3, 6, 7] rfl) hK rfl (q0 := 0) rfl) rfl rfl hl.1 rfl (lv_room (Nat.le_of_ble_eq_true rfl)) dX6_written_126 ⟨Nat.zero_le _, Nat.zero_le _⟩) (fun r hres => ?_)
        subst hres
        refine lv_istore_n hx hb dX6_written_129 rfl hl (by decide) rfl (fun ls hl => ?_)
        have hl : lv_has ls 9 [(3, .int (nI (wt_b (S, F, E) g9 n (F x - 1)))), (4, .long (lN (y - 1))), (8, .int (nI 0)), (6, .long (lN (wt_a g9 (wt_f (S, F, E) g9 n) (F x)))), (0, .ref ma), (1, .int (nI i)), (2, .int (nI z1))] := hl
        refine lv_goto (tgt := 48) hx hb dX6_written_130 (by decide) ?_
        exact ih1 (wt_b (S, F, E) g9 n (F x - 1)) (y - 1) (r9 + 1) _ _ _ ⟨lv_sub hl [0, 1, 4, 5, 6] rfl, hP, hD, hS, (by rw [← wt_w_s hxy]; first | exact (wt_n_r b3 b4).symm | exact (wt_n_l b3 (Nat.not_le_of_lt b4)).symm)⟩ (by show (y - 1) < y; omega)
      refine lv_iconst (v := nI 1) hx hb dX6_written_81 (by decide) ?_
      refine lv_goto (tgt := 86) hx hb dX6_written_82 (by decide) ?_
      refine lv_istore hx hb dX6_written_86 hl (by decide) rfl (fun ls hl => ?_)
      have hl : lv_has ls 9 [(8, .int (nI 1)), (6, .long (lN (wt_a g9 (wt_f (S, F, E) g9 n) (F x)))), (4, .long (lN (y - 1))), (3, .int (nI x)), (0, .ref ma), (1, .int (nI i)), (2, .int (nI z1))] := hl
      refine lv_iload hx hb dX6_written_88 (lv_at hl 0 rfl) ?_
      refine cx_neq (x := 1) (tgt := 101) hx hb dX6_written_90 (by decide) (by decide) (fun h9 => absurd h9 (by decide)) (fun _ => ?_)
      refine lv_lload hx hb dX6_written_93 (lv_at hl 2 rfl) ?_
      refine lv_lload hx hb dX6_written_95 (lv_at hl 1 rfl) ?_
      refine cx_lsub hx hb dX6_written_97 (by omega) ?_
      refine lv_goto (tgt := 103) hx hb dX6_written_98 (by decide) ?_
      refine lv_lstore hx hb dX6_written_103 hl (by decide) rfl (fun ls hl => ?_)
      have hl : lv_has ls 9 [(4, .long (lN ((y - 1) - (wt_a g9 (wt_f (S, F, E) g9 n) (F x))))), (8, .int (nI 1)), (6, .long (lN (wt_a g9 (wt_f (S, F, E) g9 n) (F x)))), (3, .int (nI x)), (0, .ref ma), (1, .int (nI i)), (2, .int (nI z1))] := hl
      refine lv_aload_n hx hb dX6_written_105 rfl (lv_at hl 4 rfl) ?_
      refine lv_iload hx hb dX6_written_106 (lv_at hl 1 rfl) ?_
      refine cx_neq (x := 1) (tgt := 120) hx hb dX6_written_108 (by decide) (by decide) (fun h9 => absurd h9 (by decide)) (fun _ => ?_)
      refine lv_aload_n hx hb dX6_written_111 rfl (lv_at hl 4 rfl) ?_
      refine va_get (D := (dC, dI)) (ci := 6) (v := .ref m3) (C := RX6) (T := TX6) (N := 16) hx hb hts (tb_c tbX6) hown hK hP 0 rfl rfl 3 (by decide) (hw _ tw_344) (fun _ h9 => h9) rfl dX6_written_112 ?_
      refine lv_iload_n hx hb dX6_written_115 rfl (lv_at hl 3 rfl) ?_
      refine cx_iald hx hb hK hP 3 0 rfl rfl (by first | decide | omega) (v := aI (E x)) (i := x) rfl (by first | omega | exact hB _ (by omega) | exact Nat.lt_of_lt_of_le (hB _ (by omega)) (by omega)) dX6_written_116 ?_
      refine lv_goto (tgt := 126) hx hb dX6_written_117 (by decide) ?_
      have hne : ¬ E x = 0 := by first | exact gn.1 b4 | exact gn.2.1 (Nat.not_le_of_lt b4)
      refine cx_topi (aI_p hne) ?_
      refine cx_si (va_runV (As := [.int (nI (E x - 1))]) (rest := []) ⟨hx, hb, hml, hown, hts⟩ (c_X6_bestOf l dC dI kI kL ma m1 m2 m3 m4 m5 m6 m7 m8 m9 mA mB mC n k d dp S F E g9 h9 (E x - 1) (by first | assumption | omega | rfl) (by first | assumption | omega | rfl) (by first | assumption | omega | rfl) (by first | assumption | omega | rfl) (by first | assumption | omega | rfl)) (cwV 1 hts gv_X6_112 rfl rfl rfl hdX6_bestOf ⟨Nat.le_of_ble_eq_true rfl, Nat.le_of_ble_eq_true rfl⟩) (cx_preV (hP.sub (ws' := [(ma, .inr (6, [.int (nI n), .ref m1, .ref m2, .ref m3, .int (nI k), .ref m4, .ref m5, .int (nI d), .ref m6, .ref m7, .int (nI dp), .ref m8, .ref m9, .ref mA, .ref mB, .ref mC])), (m1, .inl (kI, 40, .inl S)), (m2, .inl (kI, 40, .inl (cA F))), (m3, .inl (kI, 40, .inl (cA E))), (mB, .inl (kI, 40, .inl (cI g9))), (mC, .inl (kL, 40, .inr (.inl (cL h9))))]) [0, 1, 2, 3, 6, 7] rfl) hK rfl (q0 := 0) rfl) rfl rfl hl.1 rfl (lv_room (Nat.le_of_ble_eq_true rfl)) dX6_written_126 ⟨Nat.zero_le _, Nat.zero_le _⟩) (fun r hres => ?_)
      subst hres
      refine lv_istore_n hx hb dX6_written_129 rfl hl (by decide) rfl (fun ls hl => ?_)
      have hl : lv_has ls 9 [(3, .int (nI (wt_b (S, F, E) g9 n (E x - 1)))), (4, .long (lN ((y - 1) - (wt_a g9 (wt_f (S, F, E) g9 n) (F x))))), (8, .int (nI 1)), (6, .long (lN (wt_a g9 (wt_f (S, F, E) g9 n) (F x)))), (0, .ref ma), (1, .int (nI i)), (2, .int (nI z1))] := hl
      refine lv_goto (tgt := 48) hx hb dX6_written_130 (by decide) ?_
      exact ih1 (wt_b (S, F, E) g9 n (E x - 1)) ((y - 1) - (wt_a g9 (wt_f (S, F, E) g9 n) (F x))) (r9 + 1) _ _ _ ⟨lv_sub hl [0, 1, 4, 5, 6] rfl, hP, hD, hS, (by rw [← wt_w_s hxy]; first | exact (wt_n_r b3 b4).symm | exact (wt_n_l b3 (Nat.not_le_of_lt b4)).symm)⟩ (by show ((y - 1) - (wt_a g9 (wt_f (S, F, E) g9 n) (F x))) < y; omega)
    refine lv_iconst (v := (-1)) hx hb dX6_written_36 (by decide) ?_
    exact W.iret (v := (-1)) hx hb hr (fun t ht hW => ⟨⟨_, (g9, h9), rfl, (by first | exact (an_written_m qn hi b1).trans (an_written_ag qn qw hB hg9) | exact (an_written_n qn hi hz1 (by rw [← hkn i hi]; exact b2)).trans (an_written_ag qn qw hB hg9)), by rw [ht]; exact hP, hD⟩, hS.F ht⟩) hS.2.2 dX6_written_37
  refine lv_bipush (v := (-2)) hx hb dX6_written_8 (by decide) ?_
  exact W.iret (v := (-2)) hx hb hr (fun t ht hW => ⟨⟨_, (f, w), rfl, an_written_b (of_decide_eq_false b0), by rw [ht]; exact hP, hD⟩, hS.F ht⟩) hS.2.2 dX6_written_10
