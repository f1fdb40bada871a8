set_option maxHeartbeats 4000000 in
set_option maxRecDepth 100000 in
theorem c_X6_joined (l : Launch) (dC : Nat → ClassId) (dI : Nat → Nat → Nat) (kI kL : ClassId) (ma : Nat) (m1 : Nat) (m2 : Nat) (m3 : Nat) (m4 : Nat) (m5 : Nat) (m6 : Nat) (m7 : Nat) (m8 : Nat) (m9 : Nat) (mA : Nat) (mB : Nat) (mC : Nat) (n : Nat) (k : Nat) (d : Nat) (dp : Nat) (f : Nat → Nat) (i : Nat) (j : Nat) (qn : n ≤ 40) (hB : ∀ u, u < n → f u < n) (qi : i < n) (qj : j < n) : Met l yX6_joined (.code yX6_joined cX6_joined 3 (some .boolean) :: tbw) { frames := 0, cells := 0, slots := 0, locals := 0 } (va_Pc [.ref ma, .int (nI i), .int (nI j)] (cx_R (dC, dI) vwCl [(ma, .inr (6, [.int (nI n), .ref m1, .ref m2, .ref m3, .int (nI k), .ref m4, .ref m5, .int (nI d), .ref m6, .ref m7, .int (nI dp), .ref m8, .ref m9, .ref mA, .ref mB, .ref mC])), (mB, .inl (kI, 40, .inl (cI f)))] [(kI, .int), (kL, .long)])) (vp_Si (fun r => r = bI (decide (f i = f j)))) 0 0 (fun _ => False) := by
  refine Met.ofW (cc := cX6_joined) (maxL := 3) (ret := (some .boolean)) (by decide) rfl ?_
  intro p e s m args below meth c s₁ B hml hv
  obtain ⟨rfl, hP, hK⟩ := hv
  have hx := B.exec
  have hb := B.bytes
  have hr := B.returns
  have hts := atoms_spec (ws := .code yX6_joined cX6_joined 3 (some .boolean) :: tbw) B.pre
  have hw : ∀ w ∈ tbw, w.before _ s = true := fun w h => hts w (List.mem_cons_of_mem _ h)
  have hown : s.vm.findClass RX6 = some m.cls := findClass_of_methodNamed B.named
  have hP : va_P (dC, dI) vwCl [(ma, .inr (6, [.int (nI n), .ref m1, .ref m2, .ref m3, .int (nI k), .ref m4, .ref m5, .int (nI d), .ref m6, .ref m7, .int (nI dp), .ref m8, .ref m9, .ref mA, .ref mB, .ref mC])), (mB, .inl (kI, 40, .inl (cI f)))] s.heap := hP
  have hl := lv_entry ([.ref ma, .int (nI i), .int (nI j)]) (n := 3) (Nat.le_of_ble_eq_true rfl)
  rw [lg_entry_eq]
  generalize (lg_sl ([.ref ma, .int (nI i), .int (nI j)]) ++ List.replicate (3 - (lg_sl ([.ref ma, .int (nI i), .int (nI j)])).length) Slot.unset).toArray = ls at hl ⊢
  have hl : lv_has ls 3 [(0, .ref ma), (1, .int (nI i)), (2, .int (nI j))] := hl
  refine lv_aload_n hx hb dX6_joined_0 rfl (lv_at hl 0 rfl) ?_
  refine va_get (D := (dC, dI)) (ci := 6) (v := .ref mB) (C := RX6) (T := TX6) (N := 16) hx hb hts (tb_c tbX6) hown hK hP 0 rfl rfl 14 (by decide) (hw _ tw_355) (fun _ h9 => h9) rfl dX6_joined_1 ?_
  refine lv_iload_n hx hb dX6_joined_4 rfl (lv_at hl 1 rfl) ?_
  refine cx_iald hx hb hK hP 1 0 rfl rfl (by first | decide | omega) (v := nI (f i)) (i := i) rfl (by first | omega | exact hB _ (by omega) | exact Nat.lt_of_lt_of_le (hB _ (by omega)) (by omega)) dX6_joined_5 ?_
  refine lv_aload_n hx hb dX6_joined_6 rfl (lv_at hl 0 rfl) ?_
  refine va_get (D := (dC, dI)) (ci := 6) (v := .ref mB) (C := RX6) (T := TX6) (N := 16) hx hb hts (tb_c tbX6) hown hK hP 0 rfl rfl 14 (by decide) (hw _ tw_355) (fun _ h9 => h9) rfl dX6_joined_7 ?_
  refine lv_iload_n hx hb dX6_joined_10 rfl (lv_at hl 2 rfl) ?_
  refine cx_iald hx hb hK hP 1 0 rfl rfl (by first | decide | omega) (v := nI (f j)) (i := j) rfl (by first | omega | exact hB _ (by omega) | exact Nat.lt_of_lt_of_le (hB _ (by omega)) (by omega)) dX6_joined_11 ?_
  refine cx_ne (x := (f i)) (y := (f j)) (tgt := 19) hx hb dX6_joined_12 (by decide) (by first | omega | exact hB _ (by omega) | exact Nat.lt_of_lt_of_le (hB _ (by omega)) (by omega)) (by first | omega | exact hB _ (by omega) | exact Nat.lt_of_lt_of_le (hB _ (by omega)) (by omega)) (fun b0 => ?_) (fun b0 => ?_)
  · skip
    refine lv_iconst (v := nI 0) hx hb dX6_joined_19 (by decide) ?_
    exact W.zret (v := nI 0) hx hb hr (cx_narB false) (fun t ht hW => ⟨_, rfl, cx_bf (by first | assumption | omega | (simp_all; done)), ht⟩) (fun _ h9 => by cases h9) dX6_joined_20
  refine lv_iconst (v := nI 1) hx hb dX6_joined_15 (by decide) ?_
  refine lv_goto (tgt := 20) hx hb dX6_joined_16 (by decide) ?_
  exact W.zret (v := nI 1) hx hb hr (cx_narB true) (fun t ht hW => ⟨_, rfl, cx_bt (by first | assumption | omega | (simp_all; done)), ht⟩) (fun _ h9 => by cases h9) dX6_joined_20

set_option maxHeartbeats 4000000 in
set_option maxRecDepth 100000 in
theorem c_X6_first (l : Launch) (dC : Nat → ClassId) (dI : Nat → Nat → Nat) (kI kL : ClassId) (ma : Nat) (m1 : Nat) (m2 : Nat) (m3 : Nat) (m4 : Nat) (m5 : Nat) (m6 : Nat) (m7 : Nat) (m8 : Nat) (m9 : Nat) (mA : Nat) (mB : Nat) (mC : Nat) (n : Nat) (k : Nat) (d : Nat) (dp : Nat) (S : Nat → Int32) (F : Nat → Nat) (E : Nat → Nat) (lf : Nat → Nat) (rt : Nat → Nat) (f : Nat → Nat) (x : Int32) (i : Nat) (j : Nat) (qn : n ≤ 40) (qw : cg_wf (S, F, E) n) (qk : k ≤ 24) (qe : cg_we n lf rt k) (qi : i < n) (qj : j < n) (sz : Nat) : Met l yX6_first (.code yX6_first cX6_first 5 (some .int) :: tbw) { frames := 4, cells := 0, slots := 0, locals := 91 } (va_Pc [.ref ma, .int x, .int (nI i), .int (nI j)] (cx_M (dC, dI) vwCl [(ma, .inr (6, [.int (nI n), .ref m1, .ref m2, .ref m3, .int (nI k), .ref m4, .ref m5, .int (nI d), .ref m6, .ref m7, .int (nI dp), .ref m8, .ref m9, .ref mA, .ref mB, .ref mC])), (m1, .inl (kI, 40, .inl S)), (m2, .inl (kI, 40, .inl (cA F))), (m3, .inl (kI, 40, .inl (cA E))), (m4, .inl (kI, 24, .inl (cI lf))), (m5, .inl (kI, 24, .inl (cI rt))), (mB, .inl (kI, 40, .inl (cI f)))] [(kI, .int), (kL, .long)] sz)) (va_Qi (fun (r : Int32) (u : Nat → Nat) => r = aI (cg_sr (fun q => cg_J S F E n lf rt k i j (fun z => decide (z < q) || bt x z)) (k + 1))) (cx_B (dC, dI) vwCl (va_A [(ma, .inr (6, [.int (nI n), .ref m1, .ref m2, .ref m3, .int (nI k), .ref m4, .ref m5, .int (nI d), .ref m6, .ref m7, .int (nI dp), .ref m8, .ref m9, .ref mA, .ref mB, .ref mC])), (m1, .inl (kI, 40, .inl S)), (m2, .inl (kI, 40, .inl (cA F))), (m3, .inl (kI, 40, .inl (cA E))), (m4, .inl (kI, 24, .inl (cI lf))), (m5, .inl (kI, 24, .inl (cI rt))), (mB, .inl (kI, 40, .inl (cI f)))] sz) (fun u : Nat → Nat => [(ma, .inr (6, [.int (nI n), .ref m1, .ref m2, .ref m3, .int (nI k), .ref m4, .ref m5, .int (nI d), .ref m6, .ref m7, .int (nI dp), .ref m8, .ref m9, .ref mA, .ref mB, .ref mC])), (m1, .inl (kI, 40, .inl S)), (m2, .inl (kI, 40, .inl (cA F))), (m3, .inl (kI, 40, .inl (cA E))), (m4, .inl (kI, 24, .inl (cI lf))), (m5, .inl (kI, 24, .inl (cI rt))), (mB, .inl (kI, 40, .inl (cI u)))])) (va_A [(ma, .inr (6, [.int (nI n), .ref m1, .ref m2, .ref m3, .int (nI k), .ref m4, .ref m5, .int (nI d), .ref m6, .ref m7, .int (nI dp), .ref m8, .ref m9, .ref mA, .ref mB, .ref mC])), (m1, .inl (kI, 40, .inl S)), (m2, .inl (kI, 40, .inl (cA F))), (m3, .inl (kI, 40, .inl (cA E))), (m4, .inl (kI, 24, .inl (cI lf))), (m5, .inl (kI, 24, .inl (cI rt))), (mB, .inl (kI, 40, .inl (cI f)))] sz)) 0 0 (va_A [(ma, .inr (6, [.int (nI n), .ref m1, .ref m2, .ref m3, .int (nI k), .ref m4, .ref m5, .int (nI d), .ref m6, .ref m7, .int (nI dp), .ref m8, .ref m9, .ref mA, .ref mB, .ref mC])), (m1, .inl (kI, 40, .inl S)), (m2, .inl (kI, 40, .inl (cA F))), (m3, .inl (kI, 40, .inl (cA E))), (m4, .inl (kI, 24, .inl (cI lf))), (m5, .inl (kI, 24, .inl (cI rt))), (mB, .inl (kI, 40, .inl (cI f)))] sz) := by
  refine Met.ofW (cc := cX6_first) (maxL := 5) (ret := (some .int)) (by decide) rfl ?_
  intro p e s m args below meth c s₁ B hml hv
  obtain ⟨rfl, hsz, hP, hK, hD0⟩ := hv
  have hx := B.exec
  have hb := B.bytes
  have hr := B.returns
  have hts := atoms_spec (ws := .code yX6_first cX6_first 5 (some .int) :: tbw) B.pre
  have hw : ∀ w ∈ tbw, w.before _ s = true := fun w h => hts w (List.mem_cons_of_mem _ h)
  have hown : s.vm.findClass RX6 = some m.cls := findClass_of_methodNamed B.named
  subst hsz
  have hD := hD0.self (sz := s.heap.size)
  generalize hAe : va_A [(ma, .inr (6, [.int (nI n), .ref m1, .ref m2, .ref m3, .int (nI k), .ref m4, .ref m5, .int (nI d), .ref m6, .ref m7, .int (nI dp), .ref m8, .ref m9, .ref mA, .ref mB, .ref mC])), (m1, .inl (kI, 40, .inl S)), (m2, .inl (kI, 40, .inl (cA F))), (m3, .inl (kI, 40, .inl (cA E))), (m4, .inl (kI, 24, .inl (cI lf))), (m5, .inl (kI, 24, .inl (cI rt))), (mB, .inl (kI, 40, .inl (cI f)))] s.heap.size = AA at hD ⊢
  have hA : ∀ q : Nat, s.heap.size ≤ q → AA q := fun q h => by rw [← hAe]; exact Or.inr h
  have hS : va_S AA s.heap s.heap [] := va_S.rf
  have hP : va_P (dC, dI) vwCl [(ma, .inr (6, [.int (nI n), .ref m1, .ref m2, .ref m3, .int (nI k), .ref m4, .ref m5, .int (nI d), .ref m6, .ref m7, .int (nI dp), .ref m8, .ref m9, .ref mA, .ref mB, .ref mC])), (m1, .inl (kI, 40, .inl S)), (m2, .inl (kI, 40, .inl (cA F))), (m3, .inl (kI, 40, .inl (cA E))), (m4, .inl (kI, 24, .inl (cI lf))), (m5, .inl (kI, 24, .inl (cI rt))), (mB, .inl (kI, 40, .inl (cI f)))] s.heap := hP
  have hl := lv_entry ([.ref ma, .int x, .int (nI i), .int (nI j)]) (n := 5) (Nat.le_of_ble_eq_true rfl)
  rw [lg_entry_eq]
  generalize (lg_sl ([.ref ma, .int x, .int (nI i), .int (nI j)]) ++ List.replicate (5 - (lg_sl ([.ref ma, .int x, .int (nI i), .int (nI j)])).length) Slot.unset).toArray = ls at hl ⊢
  have hl : lv_has ls 5 [(0, .ref ma), (1, .int x), (2, .int (nI i)), (3, .int (nI j))] := hl
  refine lv_iconst (v := nI 0) hx hb dX6_first_0 (by decide) ?_
  refine lv_istore hx hb dX6_first_1 hl (by decide) rfl (fun ls hl => ?_)
  have hl : lv_has ls 5 [(4, .int (nI 0)), (0, .ref ma), (1, .int x), (2, .int (nI i)), (3, .int (nI j))] := hl
  refine cx_loop2 (fun (v : Nat) (g1 : Nat → Nat) (H : Heap) (locs : List Loc) (ls : Array Slot) => lv_has ls 5 [(4, .int (nI v)), (0, .ref ma), (1, .int x), (2, .int (nI i)), (3, .int (nI j))] ∧ va_P (dC, dI) vwCl [(ma, .inr (6, [.int (nI n), .ref m1, .ref m2, .ref m3, .int (nI k), .ref m4, .ref m5, .int (nI d), .ref m6, .ref m7, .int (nI dp), .ref m8, .ref m9, .ref mA, .ref mB, .ref mC])), (m1, .inl (kI, 40, .inl S)), (m2, .inl (kI, 40, .inl (cA F))), (m3, .inl (kI, 40, .inl (cA E))), (m4, .inl (kI, 24, .inl (cI lf))), (m5, .inl (kI, 24, .inl (cI rt))), (mB, .inl (kI, 40, .inl (cI g1)))] H ∧ va_D AA [(ma, .inr (6, [.int (nI n), .ref m1, .ref m2, .ref m3, .int (nI k), .ref m4, .ref m5, .int (nI d), .ref m6, .ref m7, .int (nI dp), .ref m8, .ref m9, .ref mA, .ref mB, .ref mC])), (m1, .inl (kI, 40, .inl S)), (m2, .inl (kI, 40, .inl (cA F))), (m3, .inl (kI, 40, .inl (cA E))), (m4, .inl (kI, 24, .inl (cI lf))), (m5, .inl (kI, 24, .inl (cI rt))), (mB, .inl (kI, 40, .inl (cI g1)))] ∧ va_S AA s.heap H locs ∧ (v ≤ k + 1) ∧ (∀ u, u < v → (fun q => cg_J S F E n lf rt k i j (fun z => decide (z < q) || bt x z)) u = false)) (fun v g1 => k + 1 - v) (fun v g1 H locs ls hI ih1 => ?_) 0 f ⟨lv_sub hl [0, 1, 2, 3, 4] rfl, hP, hD, hS, (by first | assumption | omega | rfl), (fun u h => absurd h (Nat.not_lt_zero u))⟩
  obtain ⟨hl, hP, hD, hS, hv1, hno⟩ := hI
  refine lv_iload hx hb dX6_first_3 (lv_at hl 0 rfl) ?_
  refine lv_aload_n hx hb dX6_first_5 rfl (lv_at hl 1 rfl) ?_
  refine va_get (D := (dC, dI)) (ci := 6) (v := .int (nI k)) (C := RX6) (T := TX6) (N := 16) hx hb hts (tb_c tbX6) hown hK hP 0 rfl rfl 4 (by decide) (hw _ tw_345) (fun _ h9 => h9) rfl dX6_first_6 ?_
  refine cx_gt (x := v) (y := k) (tgt := 37) hx hb dX6_first_9 (by decide) (by first | omega | exact hB _ (by omega) | exact Nat.lt_of_lt_of_le (hB _ (by omega)) (by omega)) (by first | omega | exact hB _ (by omega) | exact Nat.lt_of_lt_of_le (hB _ (by omega)) (by omega)) (fun b0 => ?_) (fun b0 => ?_)
  · skip
    refine lv_iconst (v := (-1)) hx hb dX6_first_37 (by decide) ?_
    exact W.iret (v := (-1)) hx hb hr (fun t ht hW => ⟨⟨_, g1, rfl, congrArg aI (cg_sr_n hno (by omega)), by rw [ht]; exact hP, hD⟩, hS.F ht⟩) hS.2.2 dX6_first_38
  refine lv_aload_n hx hb dX6_first_12 rfl (lv_at hl 1 rfl) ?_
  refine lv_iload_n hx hb dX6_first_13 rfl (lv_at hl 2 rfl) ?_
  refine lv_iload hx hb dX6_first_14 (lv_at hl 0 rfl) ?_
  refine cx_mv (wc := [(ma, .inr (6, [.int (nI n), .ref m1, .ref m2, .ref m3, .int (nI k), .ref m4, .ref m5, .int (nI d), .ref m6, .ref m7, .int (nI dp), .ref m8, .ref m9, .ref mA, .ref mB, .ref mC])), (m1, .inl (kI, 40, .inl S)), (m2, .inl (kI, 40, .inl (cA F))), (m3, .inl (kI, 40, .inl (cA E))), (m4, .inl (kI, 24, .inl (cI lf))), (m5, .inl (kI, 24, .inl (cI rt))), (mB, .inl (kI, 40, .inl (cI g1)))]) (wr := []) hP hD hS hA [0, 1, 2, 3, 4, 5, 6] [] rfl rfl (by decide) (by decide) (va_runV (As := [.int x, .int (nI v)]) (rest := []) ⟨hx, hb, hml, hown, hts⟩ (c_X6_work l dC dI kI kL ma m1 m2 m3 m4 m5 m6 m7 m8 m9 mA mB mC n k d dp S F E lf rt g1 x v (by first | assumption | omega | rfl) (by first | assumption | omega | rfl) (by first | assumption | omega | rfl) (by first | assumption | omega | rfl) (by first | assumption | omega | rfl) _) (cwV 2 hts gv_X6_71 rfl rfl rfl hdX6_work ⟨Nat.le_of_ble_eq_true rfl, Nat.le_of_ble_eq_true rfl⟩) (cx_mreV (hP.sub (ws' := [(ma, .inr (6, [.int (nI n), .ref m1, .ref m2, .ref m3, .int (nI k), .ref m4, .ref m5, .int (nI d), .ref m6, .ref m7, .int (nI dp), .ref m8, .ref m9, .ref mA, .ref mB, .ref mC])), (m1, .inl (kI, 40, .inl S)), (m2, .inl (kI, 40, .inl (cA F))), (m3, .inl (kI, 40, .inl (cA E))), (m4, .inl (kI, 24, .inl (cI lf))), (m5, .inl (kI, 24, .inl (cI rt))), (mB, .inl (kI, 40, .inl (cI g1)))]) [0, 1, 2, 3, 4, 5, 6] rfl) hK (hD.sub (ws' := [(ma, .inr (6, [.int (nI n), .ref m1, .ref m2, .ref m3, .int (nI k), .ref m4, .ref m5, .int (nI d), .ref m6, .ref m7, .int (nI dp), .ref m8, .ref m9, .ref mA, .ref mB, .ref mC])), (m1, .inl (kI, 40, .inl S)), (m2, .inl (kI, 40, .inl (cA F))), (m3, .inl (kI, 40, .inl (cA E))), (m4, .inl (kI, 24, .inl (cI lf))), (m5, .inl (kI, 24, .inl (cI rt))), (mB, .inl (kI, 40, .inl (cI g1)))]) [0, 1, 2, 3, 4, 5, 6] (by decide) rfl) rfl (q0 := 0) rfl) rfl rfl hl.1 rfl (lv_room (Nat.le_of_ble_eq_true rfl)) dX6_first_16 ⟨Nat.zero_le _, Nat.zero_le _⟩) (fun g9 H locs hres hP hD hS => ?_)
  have hg9 := hres
  have hP : va_P (dC, dI) vwCl [(ma, .inr (6, [.int (nI n), .ref m1, .ref m2, .ref m3, .int (nI k), .ref m4, .ref m5, .int (nI d), .ref m6, .ref m7, .int (nI dp), .ref m8, .ref m9, .ref mA, .ref mB, .ref mC])), (m1, .inl (kI, 40, .inl S)), (m2, .inl (kI, 40, .inl (cA F))), (m3, .inl (kI, 40, .inl (cA E))), (m4, .inl (kI, 24, .inl (cI lf))), (m5, .inl (kI, 24, .inl (cI rt))), (mB, .inl (kI, 40, .inl (cI g9)))] H := hP.sub (ws' := [(ma, .inr (6, [.int (nI n), .ref m1, .ref m2, .ref m3, .int (nI k), .ref m4, .ref m5, .int (nI d), .ref m6, .ref m7, .int (nI dp), .ref m8, .ref m9, .ref mA, .ref mB, .ref mC])), (m1, .inl (kI, 40, .inl S)), (m2, .inl (kI, 40, .inl (cA F))), (m3, .inl (kI, 40, .inl (cA E))), (m4, .inl (kI, 24, .inl (cI lf))), (m5, .inl (kI, 24, .inl (cI rt))), (mB, .inl (kI, 40, .inl (cI g9)))]) [0, 1, 2, 3, 4, 5, 6] rfl
  have hD : va_D AA [(ma, .inr (6, [.int (nI n), .ref m1, .ref m2, .ref m3, .int (nI k), .ref m4, .ref m5, .int (nI d), .ref m6, .ref m7, .int (nI dp), .ref m8, .ref m9, .ref mA, .ref mB, .ref mC])), (m1, .inl (kI, 40, .inl S)), (m2, .inl (kI, 40, .inl (cA F))), (m3, .inl (kI, 40, .inl (cA E))), (m4, .inl (kI, 24, .inl (cI lf))), (m5, .inl (kI, 24, .inl (cI rt))), (mB, .inl (kI, 40, .inl (cI g9)))] := hD.sub (ws' := [(ma, .inr (6, [.int (nI n), .ref m1, .ref m2, .ref m3, .int (nI k), .ref m4, .ref m5, .int (nI d), .ref m6, .ref m7, .int (nI dp), .ref m8, .ref m9, .ref mA, .ref mB, .ref mC])), (m1, .inl (kI, 40, .inl S)), (m2, .inl (kI, 40, .inl (cA F))), (m3, .inl (kI, 40, .inl (cA E))), (m4, .inl (kI, 24, .inl (cI lf))), (m5, .inl (kI, 24, .inl (cI rt))), (mB, .inl (kI, 40, .inl (cI g9)))]) [0, 1, 2, 3, 4, 5, 6] (by decide) rfl
  have hB := cg_ok_B (cg_ok_ag hg9 (cg_lab_ok qe))
  refine lv_aload_n hx hb dX6_first_19 rfl (lv_at hl 1 rfl) ?_
  refine lv_iload_n hx hb dX6_first_20 rfl (lv_at hl 3 rfl) ?_
  refine lv_iload_n hx hb dX6_first_21 rfl (lv_at hl 4 rfl) ?_
  refine cx_si (va_runV (As := [.int (nI i), .int (nI j)]) (rest := []) ⟨hx, hb, hml, hown, hts⟩ (c_X6_joined l dC dI kI kL ma m1 m2 m3 m4 m5 m6 m7 m8 m9 mA mB mC n k d dp g9 i j (by first | assumption | omega | rfl) (by first | assumption | omega | rfl) (by first | assumption | omega | rfl) (by first | assumption | omega | rfl)) (cwV 2 hts gv_X6_74 rfl rfl rfl hdX6_joined ⟨Nat.le_of_ble_eq_true rfl, Nat.le_of_ble_eq_true rfl⟩) (cx_preV (hP.sub (ws' := [(ma, .inr (6, [.int (nI n), .ref m1, .ref m2, .ref m3, .int (nI k), .ref m4, .ref m5, .int (nI d), .ref m6, .ref m7, .int (nI dp), .ref m8, .ref m9, .ref mA, .ref mB, .ref mC])), (mB, .inl (kI, 40, .inl (cI g9)))]) [0, 6] rfl) hK rfl (q0 := 0) rfl) rfl rfl hl.1 rfl (lv_room (Nat.le_of_ble_eq_true rfl)) dX6_first_22 ⟨Nat.zero_le _, Nat.zero_le _⟩) (fun r hres => ?_)
  subst hres
  refine cx_if0 (tgt := 31) hx hb dX6_first_25 (by decide) (fun b1 => ?_) (fun b1 => ?_)
  · skip
    refine lv_iinc (k := 0) (v := nI (v + 1)) hx hb dX6_first_31 hl rfl cx_inc1 (by decide) rfl (fun ls hl => ?_)
    have hl : lv_has ls 5 [(4, .int (nI (v + 1))), (0, .ref ma), (1, .int x), (2, .int (nI i)), (3, .int (nI j))] := hl
    refine lv_goto (tgt := 3) hx hb dX6_first_34 (by decide) ?_
    exact ih1 (v + 1) g9 _ _ _ ⟨lv_sub hl [0, 1, 2, 3, 4] rfl, hP, hD, hS, (by first | assumption | omega | rfl), (cg_sr_s hno ((cg_J_dec hg9 qi qj).symm.trans b1))⟩ (by show k + 1 - (v + 1) < k + 1 - v; omega)
  refine lv_iload hx hb dX6_first_28 (lv_at hl 0 rfl) ?_
  exact W.iret (v := nI v) hx hb hr (fun t ht hW => ⟨⟨_, g9, rfl, congrArg aI (cg_sr_y hno ((cg_J_dec hg9 qi qj).symm.trans b1) (by omega)), by rw [ht]; exact hP, hD⟩, hS.F ht⟩) hS.2.2 dX6_first_30

set_option maxHeartbeats 4000000 in
set_option maxRecDepth 100000 in
theorem c_X6_kinds (l : Launch) (dC : Nat → ClassId) (dI : Nat → Nat → Nat) (kI kL : ClassId) (ma : Nat) (m1 : Nat) (m2 : Nat) (m3 : Nat) (m4 : Nat) (m5 : Nat) (m6 : Nat) (m7 : Nat) (m8 : Nat) (m9 : Nat) (mA : Nat) (mB : Nat) (mC : Nat) (n : Nat) (k : Nat) (d : Nat) (dp : Nat) (f : Nat → Nat) (qn : n ≤ 40) (hB : ∀ u, u < n → f u < n) : Met l yX6_kinds (.code yX6_kinds cX6_kinds 3 (some .int) :: tbw) { frames := 0, cells := 0, slots := 0, locals := 0 } (va_Pc [.ref ma] (cx_R (dC, dI) vwCl [(ma, .inr (6, [.int (nI n), .ref m1, .ref m2, .ref m3, .int (nI k), .ref m4, .ref m5, .int (nI d), .ref m6, .ref m7, .int (nI dp), .ref m8, .ref m9, .ref mA, .ref mB, .ref mC])), (mB, .inl (kI, 40, .inl (cI f)))] [(kI, .int), (kL, .long)])) (vp_Si (fun r => r = nI (cg_cn f n))) 0 0 (fun _ => False) := by
  refine Met.ofW (cc := cX6_kinds) (maxL := 3) (ret := (some .int)) (by decide) rfl ?_
  intro p e s m args below meth c s₁ B hml hv
  obtain ⟨rfl, hP, hK⟩ := hv
  have hx := B.exec
  have hb := B.bytes
  have hr := B.returns
  have hts := atoms_spec (ws := .code yX6_kinds cX6_kinds 3 (some .int) :: tbw) B.pre
  have hw : ∀ w ∈ tbw, w.before _ s = true := fun w h => hts w (List.mem_cons_of_mem _ h)
  have hown : s.vm.findClass RX6 = some m.cls := findClass_of_methodNamed B.named
  have hP : va_P (dC, dI) vwCl [(ma, .inr (6, [.int (nI n), .ref m1, .ref m2, .ref m3, .int (nI k), .ref m4, .ref m5, .int (nI d), .ref m6, .ref m7, .int (nI dp), .ref m8, .ref m9, .ref mA, .ref mB, .ref mC])), (mB, .inl (kI, 40, .inl (cI f)))] s.heap := hP
  have hl := lv_entry ([.ref ma]) (n := 3) (Nat.le_of_ble_eq_true rfl)
  rw [lg_entry_eq]
  generalize (lg_sl ([.ref ma]) ++ List.replicate (3 - (lg_sl ([.ref ma])).length) Slot.unset).toArray = ls at hl ⊢
  have hl : lv_has ls 3 [(0, .ref ma)] := hl
  refine lv_iconst (v := nI 0) hx hb dX6_kinds_0 (by decide) ?_
  refine lv_istore_n hx hb dX6_kinds_1 rfl hl (by decide) rfl (fun ls hl => ?_)
  have hl : lv_has ls 3 [(1, .int (nI 0)), (0, .ref ma)] := hl
  refine lv_iconst (v := nI 0) hx hb dX6_kinds_2 (by decide) ?_
  refine lv_istore_n hx hb dX6_kinds_3 rfl hl (by decide) rfl (fun ls hl => ?_)
  have hl : lv_has ls 3 [(2, .int (nI 0)), (1, .int (nI 0)), (0, .ref ma)] := hl
  refine cx_loopR2 (fun (ct : Nat) (v : Nat) (ls : Array Slot) => lv_has ls 3 [(1, .int (nI ct)), (2, .int (nI v)), (0, .ref ma)] ∧ (ct = cg_cn f v) ∧ (v ≤ n)) (fun ct v => n - v) (fun ct v ls hI ih1 => ?_) 0 0 ⟨lv_sub hl [1, 0, 2] rfl, (rfl), (by first | assumption | omega | rfl)⟩
  obtain ⟨hl, hc, hv1⟩ := hI
  refine lv_iload_n hx hb dX6_kinds_4 rfl (lv_at hl 1 rfl) ?_
  refine lv_aload_n hx hb dX6_kinds_5 rfl (lv_at hl 2 rfl) ?_
  refine va_get (D := (dC, dI)) (ci := 6) (v := .int (nI n)) (C := RX6) (T := TX6) (N := 16) hx hb hts (tb_c tbX6) hown hK hP 0 rfl rfl 0 (by decide) (hw _ tw_341) (fun _ h9 => h9) rfl dX6_kinds_6 ?_
  refine cx_ge (x := v) (y := n) (tgt := 36) hx hb dX6_kinds_9 (by decide) (by first | omega | exact hB _ (by omega) | exact Nat.lt_of_lt_of_le (hB _ (by omega)) (by omega)) (by first | omega | exact hB _ (by omega) | exact Nat.lt_of_lt_of_le (hB _ (by omega)) (by omega)) (fun b0 => ?_) (fun b0 => ?_)
  · skip
    refine lv_iload_n hx hb dX6_kinds_36 rfl (lv_at hl 0 rfl) ?_
    exact W.iret (v := nI ct) hx hb hr (fun t ht hW => ⟨_, rfl, by rw [hc, Nat.le_antisymm hv1 b0], ht⟩) (fun _ h9 => by cases h9) dX6_kinds_37
  refine lv_aload_n hx hb dX6_kinds_12 rfl (lv_at hl 2 rfl) ?_
  refine va_get (D := (dC, dI)) (ci := 6) (v := .ref mB) (C := RX6) (T := TX6) (N := 16) hx hb hts (tb_c tbX6) hown hK hP 0 rfl rfl 14 (by decide) (hw _ tw_355) (fun _ h9 => h9) rfl dX6_kinds_13 ?_
  refine lv_iload_n hx hb dX6_kinds_16 rfl (lv_at hl 1 rfl) ?_
  refine cx_iald hx hb hK hP 1 0 rfl rfl (by first | decide | omega) (v := nI (f v)) (i := v) rfl (by first | omega | exact hB _ (by omega) | exact Nat.lt_of_lt_of_le (hB _ (by omega)) (by omega)) dX6_kinds_17 ?_
  refine lv_iload_n hx hb dX6_kinds_18 rfl (lv_at hl 1 rfl) ?_
  refine cx_ne (x := (f v)) (y := v) (tgt := 28) hx hb dX6_kinds_19 (by decide) (by first | omega | exact hB _ (by omega) | exact Nat.lt_of_lt_of_le (hB _ (by omega)) (by omega)) (by first | omega | exact hB _ (by omega) | exact Nat.lt_of_lt_of_le (hB _ (by omega)) (by omega)) (fun b1 => ?_) (fun b1 => ?_)
  · skip
    refine lv_iload_n hx hb dX6_kinds_28 rfl (lv_at hl 0 rfl) ?_
    refine lv_istore_n hx hb dX6_kinds_29 rfl hl (by decide) rfl (fun ls hl => ?_)
    have hl : lv_has ls 3 [(1, .int (nI ct)), (2, .int (nI v)), (0, .ref ma)] := hl
    refine lv_iinc (k := 1) (v := nI (v + 1)) hx hb dX6_kinds_30 hl rfl cx_inc1 (by decide) rfl (fun ls hl => ?_)
    have hl : lv_has ls 3 [(2, .int (nI (v + 1))), (1, .int (nI ct)), (0, .ref ma)] := hl
    refine lv_goto (tgt := 4) hx hb dX6_kinds_33 (by decide) ?_
    exact ih1 ct (v + 1) _ ⟨lv_sub hl [1, 0, 2] rfl, (by first | exact cg_cn_y hc b1 | exact cg_cn_n hc b1), (by first | assumption | omega | rfl)⟩ (by show n - (v + 1) < n - v; omega)
  refine lv_iload_n hx hb dX6_kinds_22 rfl (lv_at hl 0 rfl) ?_
  refine lv_iconst (v := nI 1) hx hb dX6_kinds_23 (by decide) ?_
  refine cx_iadd hx hb dX6_kinds_24 ?_
  refine lv_goto (tgt := 29) hx hb dX6_kinds_25 (by decide) ?_
  refine lv_istore_n hx hb dX6_kinds_29 rfl hl (by decide) rfl (fun ls hl => ?_)
  have hl : lv_has ls 3 [(1, .int (nI (ct + 1))), (2, .int (nI v)), (0, .ref ma)] := hl
  refine lv_iinc (k := 1) (v := nI (v + 1)) hx hb dX6_kinds_30 hl rfl cx_inc1 (by decide) rfl (fun ls hl => ?_)
  have hl : lv_has ls 3 [(2, .int (nI (v + 1))), (1, .int (nI (ct + 1))), (0, .ref ma)] := hl
  refine lv_goto (tgt := 4) hx hb dX6_kinds_33 (by decide) ?_
  exact ih1 (ct + 1) (v + 1) _ ⟨lv_sub hl [1, 0, 2] rfl, (by first | exact cg_cn_y hc b1 | exact cg_cn_n hc b1), (by first | assumption | omega | rfl)⟩ (by show n - (v + 1) < n - v; omega)

set_option maxHeartbeats 4000000 in
set_option maxRecDepth 100000 in
theorem c_X6_wrongParts (l : Launch) (dC : Nat → ClassId) (dI : Nat → Nat → Nat) (kI kL : ClassId) (ma : Nat) (m1 : Nat) (m2 : Nat) (m3 : Nat) (m4 : Nat) (m5 : Nat) (m6 : Nat) (m7 : Nat) (m8 : Nat) (m9 : Nat) (mA : Nat) (mB : Nat) (mC : Nat) (n : Nat) (k : Nat) (d : Nat) (dp : Nat) (sy : Int32) (a : Int32) (b : Int32) : Met l yX6_wrongParts (.code yX6_wrongParts cX6_wrongParts 5 (some .boolean) :: tbw) { frames := 1, cells := 0, slots := 0, locals := 21 } (va_Pc [.ref ma, .int sy, .int a, .int b] (cx_R (dC, dI) vwCl [(ma, .inr (6, [.int (nI n), .ref m1, .ref m2, .ref m3, .int (nI k), .ref m4, .ref m5, .int (nI d), .ref m6, .ref m7, .int (nI dp), .ref m8, .ref m9, .ref mA, .ref mB, .ref mC]))] [(kI, .int), (kL, .long)])) (vp_Si (fun r => r = bI (!decide (cx_sh n sy a b)))) 0 0 (fun _ => False) := by
  refine Met.ofW (cc := cX6_wrongParts) (maxL := 5) (ret := (some .boolean)) (by decide) rfl ?_
  intro p e s m args below meth c s₁ B hml hv
  obtain ⟨rfl, hP, hK⟩ := hv
  have hx := B.exec
  have hb := B.bytes
  have hr := B.returns
  have hts := atoms_spec (ws := .code yX6_wrongParts cX6_wrongParts 5 (some .boolean) :: tbw) B.pre
  have hw : ∀ w ∈ tbw, w.before _ s = true := fun w h => hts w (List.mem_cons_of_mem _ h)
  have hown : s.vm.findClass RX6 = some m.cls := findClass_of_methodNamed B.named
  have hP : va_P (dC, dI) vwCl [(ma, .inr (6, [.int (nI n), .ref m1, .ref m2, .ref m3, .int (nI k), .ref m4, .ref m5, .int (nI d), .ref m6, .ref m7, .int (nI dp), .ref m8, .ref m9, .ref mA, .ref mB, .ref mC]))] s.heap := hP
  have hl := lv_entry ([.ref ma, .int sy, .int a, .int b]) (n := 5) (Nat.le_of_ble_eq_true rfl)
  rw [lg_entry_eq]
  generalize (lg_sl ([.ref ma, .int sy, .int a, .int b]) ++ List.replicate (5 - (lg_sl ([.ref ma, .int sy, .int a, .int b])).length) Slot.unset).toArray = ls at hl ⊢
  have hl : lv_has ls 5 [(0, .ref ma), (1, .int sy), (2, .int a), (3, .int b)] := hl
  refine lv_iload_n hx hb dX6_wrongParts_0 rfl (lv_at hl 1 rfl) ?_
  refine lv_if_lt (tgt := 50) hx hb dX6_wrongParts_1 (by decide) (fun b0 => ?_) (fun b0 => ?_)
  · skip
    refine lv_iconst (v := nI 0) hx hb dX6_wrongParts_50 (by decide) ?_
    refine lv_istore hx hb dX6_wrongParts_51 hl (by decide) rfl (fun ls hl => ?_)
    have hl : lv_has ls 5 [(4, .int (nI 0)), (0, .ref ma), (1, .int sy), (2, .int a), (3, .int b)] := hl
    refine lv_iload hx hb dX6_wrongParts_53 (lv_at hl 0 rfl) ?_
    refine cx_nne (x := 0) (tgt := 62) hx hb dX6_wrongParts_55 (by decide) (by decide) (fun h9 => absurd h9 (by decide)) (fun _ => ?_)
    refine lv_iconst (v := nI 1) hx hb dX6_wrongParts_58 (by decide) ?_
    refine lv_goto (tgt := 63) hx hb dX6_wrongParts_59 (by decide) ?_
    exact W.zret (v := nI 1) hx hb hr (cx_narB true) (fun t ht hW => ⟨_, rfl, cx_wt (by first | exact cx_sh1 b0 | exact cx_sw2 b1 | exact cx_sh6 b2 (of_decide_eq_false b3) | exact cx_sw4 b4 (of_decide_eq_false b5) | exact cx_sh4 b6 b7), ht⟩) (fun _ h9 => by cases h9) dX6_wrongParts_63
  refine lv_iload_n hx hb dX6_wrongParts_4 rfl (lv_at hl 1 rfl) ?_
  refine lv_bipush (v := nI 15) hx hb dX6_wrongParts_5 (by decide) ?_
  refine lv_icmp_gt (tgt := 50) hx hb dX6_wrongParts_7 (by decide) (fun b1 => ?_) (fun b1 => ?_)
  · skip
    refine lv_iconst (v := nI 0) hx hb dX6_wrongParts_50 (by decide) ?_
    refine lv_istore hx hb dX6_wrongParts_51 hl (by decide) rfl (fun ls hl => ?_)
    have hl : lv_has ls 5 [(4, .int (nI 0)), (0, .ref ma), (1, .int sy), (2, .int a), (3, .int b)] := hl
    refine lv_iload hx hb dX6_wrongParts_53 (lv_at hl 0 rfl) ?_
    refine cx_nne (x := 0) (tgt := 62) hx hb dX6_wrongParts_55 (by decide) (by decide) (fun h9 => absurd h9 (by decide)) (fun _ => ?_)
    refine lv_iconst (v := nI 1) hx hb dX6_wrongParts_58 (by decide) ?_
    refine lv_goto (tgt := 63) hx hb dX6_wrongParts_59 (by decide) ?_
    exact W.zret (v := nI 1) hx hb hr (cx_narB true) (fun t ht hW => ⟨_, rfl, cx_wt (by first | exact cx_sh1 b0 | exact cx_sw2 b1 | exact cx_sh6 b2 (of_decide_eq_false b3) | exact cx_sw4 b4 (of_decide_eq_false b5) | exact cx_sh4 b6 b7), ht⟩) (fun _ h9 => by cases h9) dX6_wrongParts_63
  refine lv_iload_n hx hb dX6_wrongParts_10 rfl (lv_at hl 2 rfl) ?_
  refine lv_iconst (v := (-1)) hx hb dX6_wrongParts_11 (by decide) ?_
  refine lv_icmp_eq (tgt := 23) hx hb dX6_wrongParts_12 (by decide) (fun b2 => ?_) (fun b2 => ?_)
  · skip
    refine lv_iload_n hx hb dX6_wrongParts_23 rfl (lv_at hl 3 rfl) ?_
    refine lv_iconst (v := (-1)) hx hb dX6_wrongParts_24 (by decide) ?_
    refine lv_icmp_eq (tgt := 36) hx hb dX6_wrongParts_25 (by decide) (fun b4 => ?_) (fun b4 => ?_)
    · skip
      refine lv_iload_n hx hb dX6_wrongParts_36 rfl (lv_at hl 2 rfl) ?_
      refine lv_iconst (v := (-1)) hx hb dX6_wrongParts_37 (by decide) ?_
      refine lv_icmp_ne (tgt := 46) hx hb dX6_wrongParts_38 (by decide) (fun b6 => ?_) (fun b6 => ?_)
      · skip
        refine lv_iconst (v := nI 1) hx hb dX6_wrongParts_46 (by decide) ?_
        refine lv_goto (tgt := 51) hx hb dX6_wrongParts_47 (by decide) ?_
        refine lv_istore hx hb dX6_wrongParts_51 hl (by decide) rfl (fun ls hl => ?_)
        have hl : lv_has ls 5 [(4, .int (nI 1)), (0, .ref ma), (1, .int sy), (2, .int a), (3, .int b)] := hl
        refine lv_iload hx hb dX6_wrongParts_53 (lv_at hl 0 rfl) ?_
        refine cx_nne (x := 1) (tgt := 62) hx hb dX6_wrongParts_55 (by decide) (by decide) (fun _ => ?_) (fun h9 => absurd h9 (by decide))
        refine lv_iconst (v := nI 0) hx hb dX6_wrongParts_62 (by decide) ?_
        exact W.zret (v := nI 0) hx hb hr (cx_narB false) (fun t ht hW => ⟨_, rfl, cx_wf (cx_sw5 b0 b1 (by first | exact Or.inl b2 | exact Or.inr (of_decide_eq_true b3)) (by first | exact Or.inl b4 | exact Or.inr (of_decide_eq_true b5)) (by first | exact Or.inl b6 | exact Or.inr b7)), ht⟩) (fun _ h9 => by cases h9) dX6_wrongParts_63
      refine lv_iload_n hx hb dX6_wrongParts_41 rfl (lv_at hl 3 rfl) ?_
      refine lv_iconst (v := (-1)) hx hb dX6_wrongParts_42 (by decide) ?_
      refine lv_icmp_ne (tgt := 50) hx hb dX6_wrongParts_43 (by decide) (fun b7 => ?_) (fun b7 => ?_)
      · skip
        refine lv_iconst (v := nI 0) hx hb dX6_wrongParts_50 (by decide) ?_
        refine lv_istore hx hb dX6_wrongParts_51 hl (by decide) rfl (fun ls hl => ?_)
        have hl : lv_has ls 5 [(4, .int (nI 0)), (0, .ref ma), (1, .int sy), (2, .int a), (3, .int b)] := hl
        refine lv_iload hx hb dX6_wrongParts_53 (lv_at hl 0 rfl) ?_
        refine cx_nne (x := 0) (tgt := 62) hx hb dX6_wrongParts_55 (by decide) (by decide) (fun h9 => absurd h9 (by decide)) (fun _ => ?_)
        refine lv_iconst (v := nI 1) hx hb dX6_wrongParts_58 (by decide) ?_
        refine lv_goto (tgt := 63) hx hb dX6_wrongParts_59 (by decide) ?_
        exact W.zret (v := nI 1) hx hb hr (cx_narB true) (fun t ht hW => ⟨_, rfl, cx_wt (by first | exact cx_sh1 b0 | exact cx_sw2 b1 | exact cx_sh6 b2 (of_decide_eq_false b3) | exact cx_sw4 b4 (of_decide_eq_false b5) | exact cx_sh4 b6 b7), ht⟩) (fun _ h9 => by cases h9) dX6_wrongParts_63
      refine lv_iconst (v := nI 1) hx hb dX6_wrongParts_46 (by decide) ?_
      refine lv_goto (tgt := 51) hx hb dX6_wrongParts_47 (by decide) ?_
      refine lv_istore hx hb dX6_wrongParts_51 hl (by decide) rfl (fun ls hl => ?_)
      have hl : lv_has ls 5 [(4, .int (nI 1)), (0, .ref ma), (1, .int sy), (2, .int a), (3, .int b)] := hl
      refine lv_iload hx hb dX6_wrongParts_53 (lv_at hl 0 rfl) ?_
      refine cx_nne (x := 1) (tgt := 62) hx hb dX6_wrongParts_55 (by decide) (by decide) (fun _ => ?_) (fun h9 => absurd h9 (by decide))
      refine lv_iconst (v := nI 0) hx hb dX6_wrongParts_62 (by decide) ?_
      exact W.zret (v := nI 0) hx hb hr (cx_narB false) (fun t ht hW => ⟨_, rfl, cx_wf (cx_sw5 b0 b1 (by first | exact Or.inl b2 | exact Or.inr (of_decide_eq_true b3)) (by first | exact Or.inl b4 | exact Or.inr (of_decide_eq_true b5)) (by first | exact Or.inl b6 | exact Or.inr b7)), ht⟩) (fun _ h9 => by cases h9) dX6_wrongParts_63
    refine lv_aload_n hx hb dX6_wrongParts_28 rfl (lv_at hl 0 rfl) ?_
    refine lv_iload_n hx hb dX6_wrongParts_29 rfl (lv_at hl 3 rfl) ?_
    refine cx_si (va_runV (As := [.int b]) (rest := []) ⟨hx, hb, hml, hown, hts⟩ (c_X6_isTerm l dC dI kI kL ma m1 m2 m3 m4 m5 m6 m7 m8 m9 mA mB mC n k d dp b ) (cwV 1 hts gv_X6_77 rfl rfl rfl hdX6_isTerm ⟨Nat.le_of_ble_eq_true rfl, Nat.le_of_ble_eq_true rfl⟩) (cx_preV (hP.sub (ws' := [(ma, .inr (6, [.int (nI n), .ref m1, .ref m2, .ref m3, .int (nI k), .ref m4, .ref m5, .int (nI d), .ref m6, .ref m7, .int (nI dp), .ref m8, .ref m9, .ref mA, .ref mB, .ref mC]))]) [0] rfl) hK rfl (q0 := 0) rfl) rfl rfl hl.1 rfl (lv_room (Nat.le_of_ble_eq_true rfl)) dX6_wrongParts_30 ⟨Nat.zero_le _, Nat.zero_le _⟩) (fun r hres => ?_)
    subst hres
    refine cx_if0 (tgt := 50) hx hb dX6_wrongParts_33 (by decide) (fun b5 => ?_) (fun b5 => ?_)
    · skip
      refine lv_iconst (v := nI 0) hx hb dX6_wrongParts_50 (by decide) ?_
      refine lv_istore hx hb dX6_wrongParts_51 hl (by decide) rfl (fun ls hl => ?_)
      have hl : lv_has ls 5 [(4, .int (nI 0)), (0, .ref ma), (1, .int sy), (2, .int a), (3, .int b)] := hl
      refine lv_iload hx hb dX6_wrongParts_53 (lv_at hl 0 rfl) ?_
      refine cx_nne (x := 0) (tgt := 62) hx hb dX6_wrongParts_55 (by decide) (by decide) (fun h9 => absurd h9 (by decide)) (fun _ => ?_)
      refine lv_iconst (v := nI 1) hx hb dX6_wrongParts_58 (by decide) ?_
      refine lv_goto (tgt := 63) hx hb dX6_wrongParts_59 (by decide) ?_
      exact W.zret (v := nI 1) hx hb hr (cx_narB true) (fun t ht hW => ⟨_, rfl, cx_wt (by first | exact cx_sh1 b0 | exact cx_sw2 b1 | exact cx_sh6 b2 (of_decide_eq_false b3) | exact cx_sw4 b4 (of_decide_eq_false b5) | exact cx_sh4 b6 b7), ht⟩) (fun _ h9 => by cases h9) dX6_wrongParts_63
    refine lv_iload_n hx hb dX6_wrongParts_36 rfl (lv_at hl 2 rfl) ?_
    refine lv_iconst (v := (-1)) hx hb dX6_wrongParts_37 (by decide) ?_
    refine lv_icmp_ne (tgt := 46) hx hb dX6_wrongParts_38 (by decide) (fun b6 => ?_) (fun b6 => ?_)
    · skip
      refine lv_iconst (v := nI 1) hx hb dX6_wrongParts_46 (by decide) ?_
      refine lv_goto (tgt := 51) hx hb dX6_wrongParts_47 (by decide) ?_
      refine lv_istore hx hb dX6_wrongParts_51 hl (by decide) rfl (fun ls hl => ?_)
      have hl : lv_has ls 5 [(4, .int (nI 1)), (0, .ref ma), (1, .int sy), (2, .int a), (3, .int b)] := hl
      refine lv_iload hx hb dX6_wrongParts_53 (lv_at hl 0 rfl) ?_
      refine cx_nne (x := 1) (tgt := 62) hx hb dX6_wrongParts_55 (by decide) (by decide) (fun _ => ?_) (fun h9 => absurd h9 (by decide))
      refine lv_iconst (v := nI 0) hx hb dX6_wrongParts_62 (by decide) ?_
      exact W.zret (v := nI 0) hx hb hr (cx_narB false) (fun t ht hW => ⟨_, rfl, cx_wf (cx_sw5 b0 b1 (by first | exact Or.inl b2 | exact Or.inr (of_decide_eq_true b3)) (by first | exact Or.inl b4 | exact Or.inr (of_decide_eq_true b5)) (by first | exact Or.inl b6 | exact Or.inr b7)), ht⟩) (fun _ h9 => by cases h9) dX6_wrongParts_63
    refine lv_iload_n hx hb dX6_wrongParts_41 rfl (lv_at hl 3 rfl) ?_
    refine lv_iconst (v := (-1)) hx hb dX6_wrongParts_42 (by decide) ?_
    refine lv_icmp_ne (tgt := 50) hx hb dX6_wrongParts_43 (by decide) (fun b7 => ?_) (fun b7 => ?_)
    · skip
      refine lv_iconst (v := nI 0) hx hb dX6_wrongParts_50 (by decide) ?_
      refine lv_istore hx hb dX6_wrongParts_51 hl (by decide) rfl (fun ls hl => ?_)
      have hl : lv_has ls 5 [(4, .int (nI 0)), (0, .ref ma), (1, .int sy), (2, .int a), (3, .int b)] := hl
      refine lv_iload hx hb dX6_wrongParts_53 (lv_at hl 0 rfl) ?_
      refine cx_nne (x := 0) (tgt := 62) hx hb dX6_wrongParts_55 (by decide) (by decide) (fun h9 => absurd h9 (by decide)) (fun _ => ?_)
      refine lv_iconst (v := nI 1) hx hb dX6_wrongParts_58 (by decide) ?_
      refine lv_goto (tgt := 63) hx hb dX6_wrongParts_59 (by decide) ?_
      exact W.zret (v := nI 1) hx hb hr (cx_narB true) (fun t ht hW => ⟨_, rfl, cx_wt (by first | exact cx_sh1 b0 | exact cx_sw2 b1 | exact cx_sh6 b2 (of_decide_eq_false b3) | exact cx_sw4 b4 (of_decide_eq_false b5) | exact cx_sh4 b6 b7), ht⟩) (fun _ h9 => by cases h9) dX6_wrongParts_63
    refine lv_iconst (v := nI 1) hx hb dX6_wrongParts_46 (by decide) ?_
    refine lv_goto (tgt := 51) hx hb dX6_wrongParts_47 (by decide) ?_
    refine lv_istore hx hb dX6_wrongParts_51 hl (by decide) rfl (fun ls hl => ?_)
    have hl : lv_has ls 5 [(4, .int (nI 1)), (0, .ref ma), (1, .int sy), (2, .int a), (3, .int b)] := hl
    refine lv_iload hx hb dX6_wrongParts_53 (lv_at hl 0 rfl) ?_
    refine cx_nne (x := 1) (tgt := 62) hx hb dX6_wrongParts_55 (by decide) (by decide) (fun _ => ?_) (fun h9 => absurd h9 (by decide))
    refine lv_iconst (v := nI 0) hx hb dX6_wrongParts_62 (by decide) ?_
    exact W.zret (v := nI 0) hx hb hr (cx_narB false) (fun t ht hW => ⟨_, rfl, cx_wf (cx_sw5 b0 b1 (by first | exact Or.inl b2 | exact Or.inr (of_decide_eq_true b3)) (by first | exact Or.inl b4 | exact Or.inr (of_decide_eq_true b5)) (by first | exact Or.inl b6 | exact Or.inr b7)), ht⟩) (fun _ h9 => by cases h9) dX6_wrongParts_63
  refine lv_aload_n hx hb dX6_wrongParts_15 rfl (lv_at hl 0 rfl) ?_
  refine lv_iload_n hx hb dX6_wrongParts_16 rfl (lv_at hl 2 rfl) ?_
  refine cx_si (va_runV (As := [.int a]) (rest := []) ⟨hx, hb, hml, hown, hts⟩ (c_X6_isTerm l dC dI kI kL ma m1 m2 m3 m4 m5 m6 m7 m8 m9 mA mB mC n k d dp a ) (cwV 1 hts gv_X6_77 rfl rfl rfl hdX6_isTerm ⟨Nat.le_of_ble_eq_true rfl, Nat.le_of_ble_eq_true rfl⟩) (cx_preV (hP.sub (ws' := [(ma, .inr (6, [.int (nI n), .ref m1, .ref m2, .ref m3, .int (nI k), .ref m4, .ref m5, .int (nI d), .ref m6, .ref m7, .int (nI dp), .ref m8, .ref m9, .ref mA, .ref mB, .ref mC]))]) [0] rfl) hK rfl (q0 := 0) rfl) rfl rfl hl.1 rfl (lv_room (Nat.le_of_ble_eq_true rfl)) dX6_wrongParts_17 ⟨Nat.zero_le _, Nat.zero_le _⟩) (fun r hres => ?_)
  subst hres
  refine cx_if0 (tgt := 50) hx hb dX6_wrongParts_20 (by decide) (fun b3 => ?_) (fun b3 => ?_)
  · skip
    refine lv_iconst (v := nI 0) hx hb dX6_wrongParts_50 (by decide) ?_
    refine lv_istore hx hb dX6_wrongParts_51 hl (by decide) rfl (fun ls hl => ?_)
    have hl : lv_has ls 5 [(4, .int (nI 0)), (0, .ref ma), (1, .int sy), (2, .int a), (3, .int b)] := hl
    refine lv_iload hx hb dX6_wrongParts_53 (lv_at hl 0 rfl) ?_
    refine cx_nne (x := 0) (tgt := 62) hx hb dX6_wrongParts_55 (by decide) (by decide) (fun h9 => absurd h9 (by decide)) (fun _ => ?_)
    refine lv_iconst (v := nI 1) hx hb dX6_wrongParts_58 (by decide) ?_
    refine lv_goto (tgt := 63) hx hb dX6_wrongParts_59 (by decide) ?_
    exact W.zret (v := nI 1) hx hb hr (cx_narB true) (fun t ht hW => ⟨_, rfl, cx_wt (by first | exact cx_sh1 b0 | exact cx_sw2 b1 | exact cx_sh6 b2 (of_decide_eq_false b3) | exact cx_sw4 b4 (of_decide_eq_false b5) | exact cx_sh4 b6 b7), ht⟩) (fun _ h9 => by cases h9) dX6_wrongParts_63
  refine lv_iload_n hx hb dX6_wrongParts_23 rfl (lv_at hl 3 rfl) ?_
  refine lv_iconst (v := (-1)) hx hb dX6_wrongParts_24 (by decide) ?_
  refine lv_icmp_eq (tgt := 36) hx hb dX6_wrongParts_25 (by decide) (fun b4 => ?_) (fun b4 => ?_)
  · skip
    refine lv_iload_n hx hb dX6_wrongParts_36 rfl (lv_at hl 2 rfl) ?_
    refine lv_iconst (v := (-1)) hx hb dX6_wrongParts_37 (by decide) ?_
    refine lv_icmp_ne (tgt := 46) hx hb dX6_wrongParts_38 (by decide) (fun b6 => ?_) (fun b6 => ?_)
    · skip
      refine lv_iconst (v := nI 1) hx hb dX6_wrongParts_46 (by decide) ?_
      refine lv_goto (tgt := 51) hx hb dX6_wrongParts_47 (by decide) ?_
      refine lv_istore hx hb dX6_wrongParts_51 hl (by decide) rfl (fun ls hl => ?_)
      have hl : lv_has ls 5 [(4, .int (nI 1)), (0, .ref ma), (1, .int sy), (2, .int a), (3, .int b)] := hl
      refine lv_iload hx hb dX6_wrongParts_53 (lv_at hl 0 rfl) ?_
      refine cx_nne (x := 1) (tgt := 62) hx hb dX6_wrongParts_55 (by decide) (by decide) (fun _ => ?_) (fun h9 => absurd h9 (by decide))
      refine lv_iconst (v := nI 0) hx hb dX6_wrongParts_62 (by decide) ?_
      exact W.zret (v := nI 0) hx hb hr (cx_narB false) (fun t ht hW => ⟨_, rfl, cx_wf (cx_sw5 b0 b1 (by first | exact Or.inl b2 | exact Or.inr (of_decide_eq_true b3)) (by first | exact Or.inl b4 | exact Or.inr (of_decide_eq_true b5)) (by first | exact Or.inl b6 | exact Or.inr b7)), ht⟩) (fun _ h9 => by cases h9) dX6_wrongParts_63
    refine lv_iload_n hx hb dX6_wrongParts_41 rfl (lv_at hl 3 rfl) ?_
    refine lv_iconst (v := (-1)) hx hb dX6_wrongParts_42 (by decide) ?_
    refine lv_icmp_ne (tgt := 50) hx hb dX6_wrongParts_43 (by decide) (fun b7 => ?_) (fun b7 => ?_)
    · skip
      refine lv_iconst (v := nI 0) hx hb dX6_wrongParts_50 (by decide) ?_
      refine lv_istore hx hb dX6_wrongParts_51 hl (by decide) rfl (fun ls hl => ?_)
      have hl : lv_has ls 5 [(4, .int (nI 0)), (0, .ref ma), (1, .int sy), (2, .int a), (3, .int b)] := hl
      refine lv_iload hx hb dX6_wrongParts_53 (lv_at hl 0 rfl) ?_
      refine cx_nne (x := 0) (tgt := 62) hx hb dX6_wrongParts_55 (by decide) (by decide) (fun h9 => absurd h9 (by decide)) (fun _ => ?_)
      refine lv_iconst (v := nI 1) hx hb dX6_wrongParts_58 (by decide) ?_
      refine lv_goto (tgt := 63) hx hb dX6_wrongParts_59 (by decide) ?_
      exact W.zret (v := nI 1) hx hb hr (cx_narB true) (fun t ht hW => ⟨_, rfl, cx_wt (by first | exact cx_sh1 b0 | exact cx_sw2 b1 | exact cx_sh6 b2 (of_decide_eq_false b3) | exact cx_sw4 b4 (of_decide_eq_false b5) | exact cx_sh4 b6 b7), ht⟩) (fun _ h9 => by cases h9) dX6_wrongParts_63
    refine lv_iconst (v := nI 1) hx hb dX6_wrongParts_46 (by decide) ?_
    refine lv_goto (tgt := 51) hx hb dX6_wrongParts_47 (by decide) ?_
    refine lv_istore hx hb dX6_wrongParts_51 hl (by decide) rfl (fun ls hl => ?_)
    have hl : lv_has ls 5 [(4, .int (nI 1)), (0, .ref ma), (1, .int sy), (2, .int a), (3, .int b)] := hl
    refine lv_iload hx hb dX6_wrongParts_53 (lv_at hl 0 rfl) ?_
    refine cx_nne (x := 1) (tgt := 62) hx hb dX6_wrongParts_55 (by decide) (by decide) (fun _ => ?_) (fun h9 => absurd h9 (by decide))
    refine lv_iconst (v := nI 0) hx hb dX6_wrongParts_62 (by decide) ?_
    exact W.zret (v := nI 0) hx hb hr (cx_narB false) (fun t ht hW => ⟨_, rfl, cx_wf (cx_sw5 b0 b1 (by first | exact Or.inl b2 | exact Or.inr (of_decide_eq_true b3)) (by first | exact Or.inl b4 | exact Or.inr (of_decide_eq_true b5)) (by first | exact Or.inl b6 | exact Or.inr b7)), ht⟩) (fun _ h9 => by cases h9) dX6_wrongParts_63
  refine lv_aload_n hx hb dX6_wrongParts_28 rfl (lv_at hl 0 rfl) ?_
  refine lv_iload_n hx hb dX6_wrongParts_29 rfl (lv_at hl 3 rfl) ?_
  refine cx_si (va_runV (As := [.int b]) (rest := []) ⟨hx, hb, hml, hown, hts⟩ (c_X6_isTerm l dC dI kI kL ma m1 m2 m3 m4 m5 m6 m7 m8 m9 mA mB mC n k d dp b ) (cwV 1 hts gv_X6_77 rfl rfl rfl hdX6_isTerm ⟨Nat.le_of_ble_eq_true rfl, Nat.le_of_ble_eq_true rfl⟩) (cx_preV (hP.sub (ws' := [(ma, .inr (6, [.int (nI n), .ref m1, .ref m2, .ref m3, .int (nI k), .ref m4, .ref m5, .int (nI d), .ref m6, .ref m7, .int (nI dp), .ref m8, .ref m9, .ref mA, .ref mB, .ref mC]))]) [0] rfl) hK rfl (q0 := 0) rfl) rfl rfl hl.1 rfl (lv_room (Nat.le_of_ble_eq_true rfl)) dX6_wrongParts_30 ⟨Nat.zero_le _, Nat.zero_le _⟩) (fun r hres => ?_)
  subst hres
  refine cx_if0 (tgt := 50) hx hb dX6_wrongParts_33 (by decide) (fun b5 => ?_) (fun b5 => ?_)
  · skip
    refine lv_iconst (v := nI 0) hx hb dX6_wrongParts_50 (by decide) ?_
    refine lv_istore hx hb dX6_wrongParts_51 hl (by decide) rfl (fun ls hl => ?_)
    have hl : lv_has ls 5 [(4, .int (nI 0)), (0, .ref ma), (1, .int sy), (2, .int a), (3, .int b)] := hl
    refine lv_iload hx hb dX6_wrongParts_53 (lv_at hl 0 rfl) ?_
    refine cx_nne (x := 0) (tgt := 62) hx hb dX6_wrongParts_55 (by decide) (by decide) (fun h9 => absurd h9 (by decide)) (fun _ => ?_)
    refine lv_iconst (v := nI 1) hx hb dX6_wrongParts_58 (by decide) ?_
    refine lv_goto (tgt := 63) hx hb dX6_wrongParts_59 (by decide) ?_
    exact W.zret (v := nI 1) hx hb hr (cx_narB true) (fun t ht hW => ⟨_, rfl, cx_wt (by first | exact cx_sh1 b0 | exact cx_sw2 b1 | exact cx_sh6 b2 (of_decide_eq_false b3) | exact cx_sw4 b4 (of_decide_eq_false b5) | exact cx_sh4 b6 b7), ht⟩) (fun _ h9 => by cases h9) dX6_wrongParts_63
  refine lv_iload_n hx hb dX6_wrongParts_36 rfl (lv_at hl 2 rfl) ?_
  refine lv_iconst (v := (-1)) hx hb dX6_wrongParts_37 (by decide) ?_
  refine lv_icmp_ne (tgt := 46) hx hb dX6_wrongParts_38 (by decide) (fun b6 => ?_) (fun b6 => ?_)
  · skip
    refine lv_iconst (v := nI 1) hx hb dX6_wrongParts_46 (by decide) ?_
    refine lv_goto (tgt := 51) hx hb dX6_wrongParts_47 (by decide) ?_
    refine lv_istore hx hb dX6_wrongParts_51 hl (by decide) rfl (fun ls hl => ?_)
    have hl : lv_has ls 5 [(4, .int (nI 1)), (0, .ref ma), (1, .int sy), (2, .int a), (3, .int b)] := hl
    refine lv_iload hx hb dX6_wrongParts_53 (lv_at hl 0 rfl) ?_
    refine cx_nne (x := 1) (tgt := 62) hx hb dX6_wrongParts_55 (by decide) (by decide) (fun _ => ?_) (fun h9 => absurd h9 (by decide))
    refine lv_iconst (v := nI 0) hx hb dX6_wrongParts_62 (by decide) ?_
    exact W.zret (v := nI 0) hx hb hr (cx_narB false) (fun t ht hW => ⟨_, rfl, cx_wf (cx_sw5 b0 b1 (by first | exact Or.inl b2 | exact Or.inr (of_decide_eq_true b3)) (by first | exact Or.inl b4 | exact Or.inr (of_decide_eq_true b5)) (by first | exact Or.inl b6 | exact Or.inr b7)), ht⟩) (fun _ h9 => by cases h9) dX6_wrongParts_63
  refine lv_iload_n hx hb dX6_wrongParts_41 rfl (lv_at hl 3 rfl) ?_
  refine lv_iconst (v := (-1)) hx hb dX6_wrongParts_42 (by decide) ?_
  refine lv_icmp_ne (tgt := 50) hx hb dX6_wrongParts_43 (by decide) (fun b7 => ?_) (fun b7 => ?_)
  · skip
    refine lv_iconst (v := nI 0) hx hb dX6_wrongParts_50 (by decide) ?_
    refine lv_istore hx hb dX6_wrongParts_51 hl (by decide) rfl (fun ls hl => ?_)
    have hl : lv_has ls 5 [(4, .int (nI 0)), (0, .ref ma), (1, .int sy), (2, .int a), (3, .int b)] := hl
    refine lv_iload hx hb dX6_wrongParts_53 (lv_at hl 0 rfl) ?_
    refine cx_nne (x := 0) (tgt := 62) hx hb dX6_wrongParts_55 (by decide) (by decide) (fun h9 => absurd h9 (by decide)) (fun _ => ?_)
    refine lv_iconst (v := nI 1) hx hb dX6_wrongParts_58 (by decide) ?_
    refine lv_goto (tgt := 63) hx hb dX6_wrongParts_59 (by decide) ?_
    exact W.zret (v := nI 1) hx hb hr (cx_narB true) (fun t ht hW => ⟨_, rfl, cx_wt (by first | exact cx_sh1 b0 | exact cx_sw2 b1 | exact cx_sh6 b2 (of_decide_eq_false b3) | exact cx_sw4 b4 (of_decide_eq_false b5) | exact cx_sh4 b6 b7), ht⟩) (fun _ h9 => by cases h9) dX6_wrongParts_63
  refine lv_iconst (v := nI 1) hx hb dX6_wrongParts_46 (by decide) ?_
  refine lv_goto (tgt := 51) hx hb dX6_wrongParts_47 (by decide) ?_
  refine lv_istore hx hb dX6_wrongParts_51 hl (by decide) rfl (fun ls hl => ?_)
  have hl : lv_has ls 5 [(4, .int (nI 1)), (0, .ref ma), (1, .int sy), (2, .int a), (3, .int b)] := hl
  refine lv_iload hx hb dX6_wrongParts_53 (lv_at hl 0 rfl) ?_
  refine cx_nne (x := 1) (tgt := 62) hx hb dX6_wrongParts_55 (by decide) (by decide) (fun _ => ?_) (fun h9 => absurd h9 (by decide))
  refine lv_iconst (v := nI 0) hx hb dX6_wrongParts_62 (by decide) ?_
  exact W.zret (v := nI 0) hx hb hr (cx_narB false) (fun t ht hW => ⟨_, rfl, cx_wf (cx_sw5 b0 b1 (by first | exact Or.inl b2 | exact Or.inr (of_decide_eq_true b3)) (by first | exact Or.inl b4 | exact Or.inr (of_decide_eq_true b5)) (by first | exact Or.inl b6 | exact Or.inr b7)), ht⟩) (fun _ h9 => by cases h9) dX6_wrongParts_63
