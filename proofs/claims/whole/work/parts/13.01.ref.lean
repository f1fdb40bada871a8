set_option maxHeartbeats 4000000 in
set_option maxRecDepth 100000 in
theorem c_X6_isTerm (l : Launch) (dC : Nat → ClassId) (dI : Nat → Nat → Nat) (kI kL : ClassId) (ma : Nat) (m1 : Nat) (m2 : Nat) (m3 : Nat) (m4 : Nat) (m5 : Nat) (m6 : Nat) (m7 : Nat) (m8 : Nat) (m9 : Nat) (mA : Nat) (mB : Nat) (mC : Nat) (n : Nat) (k : Nat) (d : Nat) (dp : Nat) (x : Int32) : Met l yX6_isTerm (.code yX6_isTerm cX6_isTerm 2 (some .boolean) :: tbw) { frames := 0, cells := 0, slots := 0, locals := 0 } (va_Pc [.ref ma, .int x] (cx_R (dC, dI) vwCl [(ma, .inr (6, [.int (nI n), .ref m1, .ref m2, .ref m3, .int (nI k), .ref m4, .ref m5, .int (nI d), .ref m6, .ref m7, .int (nI dp), .ref m8, .ref m9, .ref mA, .ref mB, .ref mC]))] [(kI, .int), (kL, .long)])) (vp_Si (fun r => r = bI (decide (cx_T n x)))) 0 0 (fun _ => False) := by
  refine Met.ofW (cc := cX6_isTerm) (maxL := 2) (ret := (some .boolean)) (by decide) rfl ?_
  intro p e s m args below meth c s₁ B hml hv
  obtain ⟨rfl, hP, hK⟩ := hv
  have hx := B.exec
  have hb := B.bytes
  have hr := B.returns
  have hts := atoms_spec (ws := .code yX6_isTerm cX6_isTerm 2 (some .boolean) :: tbw) B.pre
  have hw : ∀ w ∈ tbw, w.before _ s = true := fun w h => hts w (List.mem_cons_of_mem _ h)
  have hown : s.vm.findClass RX6 = some m.cls := findClass_of_methodNamed B.named
  have hP : va_P (dC, dI) vwCl [(ma, .inr (6, [.int (nI n), .ref m1, .ref m2, .ref m3, .int (nI k), .ref m4, .ref m5, .int (nI d), .ref m6, .ref m7, .int (nI dp), .ref m8, .ref m9, .ref mA, .ref mB, .ref mC]))] s.heap := hP
  have hl := lv_entry ([.ref ma, .int x]) (n := 2) (Nat.le_of_ble_eq_true rfl)
  rw [lg_entry_eq]
  generalize (lg_sl ([.ref ma, .int x]) ++ List.replicate (2 - (lg_sl ([.ref ma, .int x])).length) Slot.unset).toArray = ls at hl ⊢
  have hl : lv_has ls 2 [(0, .ref ma), (1, .int x)] := hl
  refine lv_iload_n hx hb dX6_isTerm_0 rfl (lv_at hl 1 rfl) ?_
  refine lv_if_lt (tgt := 16) hx hb dX6_isTerm_1 (by decide) (fun b0 => ?_) (fun b0 => ?_)
  · skip
    refine lv_iconst (v := nI 0) hx hb dX6_isTerm_16 (by decide) ?_
    exact W.zret (v := nI 0) hx hb hr (cx_narB false) (fun t ht hW => ⟨_, rfl, cx_bf (by first | exact cx_Tn1 b0 | exact cx_Tn2 b1), ht⟩) (fun _ h9 => by cases h9) dX6_isTerm_17
  refine lv_iload_n hx hb dX6_isTerm_4 rfl (lv_at hl 1 rfl) ?_
  refine lv_aload_n hx hb dX6_isTerm_5 rfl (lv_at hl 0 rfl) ?_
  refine va_get (D := (dC, dI)) (ci := 6) (v := .int (nI n)) (C := RX6) (T := TX6) (N := 16) hx hb hts (tb_c tbX6) hown hK hP 0 rfl rfl 0 (by decide) (hw _ tw_341) (fun _ h9 => h9) rfl dX6_isTerm_6 ?_
  refine lv_icmp_ge (tgt := 16) hx hb dX6_isTerm_9 (by decide) (fun b1 => ?_) (fun b1 => ?_)
  · skip
    refine lv_iconst (v := nI 0) hx hb dX6_isTerm_16 (by decide) ?_
    exact W.zret (v := nI 0) hx hb hr (cx_narB false) (fun t ht hW => ⟨_, rfl, cx_bf (by first | exact cx_Tn1 b0 | exact cx_Tn2 b1), ht⟩) (fun _ h9 => by cases h9) dX6_isTerm_17
  refine lv_iconst (v := nI 1) hx hb dX6_isTerm_12 (by decide) ?_
  refine lv_goto (tgt := 17) hx hb dX6_isTerm_13 (by decide) ?_
  exact W.zret (v := nI 1) hx hb hr (cx_narB true) (fun t ht hW => ⟨_, rfl, cx_bt (cx_Ty b0 b1), ht⟩) (fun _ h9 => by cases h9) dX6_isTerm_17

set_option maxHeartbeats 4000000 in
set_option maxRecDepth 100000 in
theorem c_X6_alone (l : Launch) (dC : Nat → ClassId) (dI : Nat → Nat → Nat) (kI kL : ClassId) (ma : Nat) (m1 : Nat) (m2 : Nat) (m3 : Nat) (m4 : Nat) (m5 : Nat) (m6 : Nat) (m7 : Nat) (m8 : Nat) (m9 : Nat) (mA : Nat) (mB : Nat) (mC : Nat) (n : Nat) (k : Nat) (d : Nat) (dp : Nat) (f : Nat → Nat) (qn : n ≤ 40) (sz : Nat) : Met l yX6_alone (.code yX6_alone cX6_alone 2 none :: tbw) { frames := 0, cells := 0, slots := 0, locals := 0 } (va_Pc [.ref ma] (cx_M (dC, dI) vwCl [(ma, .inr (6, [.int (nI n), .ref m1, .ref m2, .ref m3, .int (nI k), .ref m4, .ref m5, .int (nI d), .ref m6, .ref m7, .int (nI dp), .ref m8, .ref m9, .ref mA, .ref mB, .ref mC])), (mB, .inl (kI, 40, .inl (cI f)))] [(kI, .int), (kL, .long)] sz)) (va_Qv (fun (u : Nat → Nat) => ∀ z, z < n → u z = z) (cx_B (dC, dI) vwCl (va_A [(ma, .inr (6, [.int (nI n), .ref m1, .ref m2, .ref m3, .int (nI k), .ref m4, .ref m5, .int (nI d), .ref m6, .ref m7, .int (nI dp), .ref m8, .ref m9, .ref mA, .ref mB, .ref mC])), (mB, .inl (kI, 40, .inl (cI f)))] sz) (fun u : Nat → Nat => [(ma, .inr (6, [.int (nI n), .ref m1, .ref m2, .ref m3, .int (nI k), .ref m4, .ref m5, .int (nI d), .ref m6, .ref m7, .int (nI dp), .ref m8, .ref m9, .ref mA, .ref mB, .ref mC])), (mB, .inl (kI, 40, .inl (cI u)))])) (va_A [(ma, .inr (6, [.int (nI n), .ref m1, .ref m2, .ref m3, .int (nI k), .ref m4, .ref m5, .int (nI d), .ref m6, .ref m7, .int (nI dp), .ref m8, .ref m9, .ref mA, .ref mB, .ref mC])), (mB, .inl (kI, 40, .inl (cI f)))] sz)) 0 0 (va_A [(ma, .inr (6, [.int (nI n), .ref m1, .ref m2, .ref m3, .int (nI k), .ref m4, .ref m5, .int (nI d), .ref m6, .ref m7, .int (nI dp), .ref m8, .ref m9, .ref mA, .ref mB, .ref mC])), (mB, .inl (kI, 40, .inl (cI f)))] sz) := by
  refine Met.ofW (cc := cX6_alone) (maxL := 2) (ret := none) (by decide) rfl ?_
  intro p e s m args below meth c s₁ B hml hv
  obtain ⟨rfl, hsz, hP, hK, hD0⟩ := hv
  have hx := B.exec
  have hb := B.bytes
  have hr := B.returns
  have hts := atoms_spec (ws := .code yX6_alone cX6_alone 2 none :: tbw) B.pre
  have hw : ∀ w ∈ tbw, w.before _ s = true := fun w h => hts w (List.mem_cons_of_mem _ h)
  have hown : s.vm.findClass RX6 = some m.cls := findClass_of_methodNamed B.named
  subst hsz
  have hD := hD0.self (sz := s.heap.size)
  generalize hAe : va_A [(ma, .inr (6, [.int (nI n), .ref m1, .ref m2, .ref m3, .int (nI k), .ref m4, .ref m5, .int (nI d), .ref m6, .ref m7, .int (nI dp), .ref m8, .ref m9, .ref mA, .ref mB, .ref mC])), (mB, .inl (kI, 40, .inl (cI f)))] s.heap.size = AA at hD ⊢
  have hA : ∀ q : Nat, s.heap.size ≤ q → AA q := fun q h => by rw [← hAe]; exact Or.inr h
  have hS : va_S AA s.heap s.heap [] := va_S.rf
  have hP : va_P (dC, dI) vwCl [(ma, .inr (6, [.int (nI n), .ref m1, .ref m2, .ref m3, .int (nI k), .ref m4, .ref m5, .int (nI d), .ref m6, .ref m7, .int (nI dp), .ref m8, .ref m9, .ref mA, .ref mB, .ref mC])), (mB, .inl (kI, 40, .inl (cI f)))] s.heap := hP
  have hl := lv_entry ([.ref ma]) (n := 2) (Nat.le_of_ble_eq_true rfl)
  rw [lg_entry_eq]
  generalize (lg_sl ([.ref ma]) ++ List.replicate (2 - (lg_sl ([.ref ma])).length) Slot.unset).toArray = ls at hl ⊢
  have hl : lv_has ls 2 [(0, .ref ma)] := hl
  refine lv_iconst (v := nI 0) hx hb dX6_alone_0 (by decide) ?_
  refine lv_istore_n hx hb dX6_alone_1 rfl hl (by decide) rfl (fun ls hl => ?_)
  have hl : lv_has ls 2 [(1, .int (nI 0)), (0, .ref ma)] := hl
  refine cx_loop2 (fun (v : Nat) (g : Nat → Nat) (H : Heap) (locs : List Loc) (ls : Array Slot) => lv_has ls 2 [(1, .int (nI v)), (0, .ref ma)] ∧ va_P (dC, dI) vwCl [(ma, .inr (6, [.int (nI n), .ref m1, .ref m2, .ref m3, .int (nI k), .ref m4, .ref m5, .int (nI d), .ref m6, .ref m7, .int (nI dp), .ref m8, .ref m9, .ref mA, .ref mB, .ref mC])), (mB, .inl (kI, 40, .inl (cI g)))] H ∧ va_D AA [(ma, .inr (6, [.int (nI n), .ref m1, .ref m2, .ref m3, .int (nI k), .ref m4, .ref m5, .int (nI d), .ref m6, .ref m7, .int (nI dp), .ref m8, .ref m9, .ref mA, .ref mB, .ref mC])), (mB, .inl (kI, 40, .inl (cI g)))] ∧ va_S AA s.heap H locs ∧ (v ≤ n) ∧ (∀ u, u < v → g u = u)) (fun v g => n - v) (fun v g H locs ls hI ih1 => ?_) 0 f ⟨lv_sub hl [0, 1] rfl, hP, hD, hS, (by first | assumption | omega | rfl), (fun u h => absurd h (Nat.not_lt_zero u))⟩
  obtain ⟨hl, hP, hD, hS, hv1, hg⟩ := hI
  refine lv_iload_n hx hb dX6_alone_2 rfl (lv_at hl 0 rfl) ?_
  refine lv_aload_n hx hb dX6_alone_3 rfl (lv_at hl 1 rfl) ?_
  refine va_get (D := (dC, dI)) (ci := 6) (v := .int (nI n)) (C := RX6) (T := TX6) (N := 16) hx hb hts (tb_c tbX6) hown hK hP 0 rfl rfl 0 (by decide) (hw _ tw_341) (fun _ h9 => h9) rfl dX6_alone_4 ?_
  refine cx_ge (x := v) (y := n) (tgt := 23) hx hb dX6_alone_7 (by decide) (by first | omega | exact hB _ (by omega) | exact Nat.lt_of_lt_of_le (hB _ (by omega)) (by omega)) (by first | omega | exact hB _ (by omega) | exact Nat.lt_of_lt_of_le (hB _ (by omega)) (by omega)) (fun b0 => ?_) (fun b0 => ?_)
  · skip
    exact W.vret hx hb hr (fun t ht hW => ⟨⟨g, rfl, fun z hz => hg z (by omega), by rw [ht]; exact hP, hD⟩, hS.F ht⟩) hS.2.2 dX6_alone_23
  refine lv_aload_n hx hb dX6_alone_10 rfl (lv_at hl 1 rfl) ?_
  refine va_get (D := (dC, dI)) (ci := 6) (v := .ref mB) (C := RX6) (T := TX6) (N := 16) hx hb hts (tb_c tbX6) hown hK hP 0 rfl rfl 14 (by decide) (hw _ tw_355) (fun _ h9 => h9) rfl dX6_alone_11 ?_
  refine lv_iload_n hx hb dX6_alone_14 rfl (lv_at hl 0 rfl) ?_
  refine lv_iload_n hx hb dX6_alone_15 rfl (lv_at hl 0 rfl) ?_
  refine cx_iast hx hb hK hP hD hS 1 0 rfl rfl (by first | decide | omega) (i := v) (cI_u) (by first | omega | exact hB _ (by omega) | exact Nat.lt_of_lt_of_le (hB _ (by omega)) (by omega)) dX6_alone_16 (fun H locs hP hD hS => ?_)
  have hP : va_P (dC, dI) vwCl [(ma, .inr (6, [.int (nI n), .ref m1, .ref m2, .ref m3, .int (nI k), .ref m4, .ref m5, .int (nI d), .ref m6, .ref m7, .int (nI dp), .ref m8, .ref m9, .ref mA, .ref mB, .ref mC])), (mB, .inl (kI, 40, .inl (cI (wt_u g v v))))] H := hP
  have hD : va_D AA [(ma, .inr (6, [.int (nI n), .ref m1, .ref m2, .ref m3, .int (nI k), .ref m4, .ref m5, .int (nI d), .ref m6, .ref m7, .int (nI dp), .ref m8, .ref m9, .ref mA, .ref mB, .ref mC])), (mB, .inl (kI, 40, .inl (cI (wt_u g v v))))] := hD
  refine lv_iinc (k := 0) (v := nI (v + 1)) hx hb dX6_alone_17 hl rfl cx_inc1 (by decide) rfl (fun ls hl => ?_)
  have hl : lv_has ls 2 [(1, .int (nI (v + 1))), (0, .ref ma)] := hl
  refine lv_goto (tgt := 2) hx hb dX6_alone_20 (by decide) ?_
  exact ih1 (v + 1) (wt_u g v v) _ _ _ ⟨lv_sub hl [0, 1] rfl, hP, hD, hS, (by first | assumption | omega | rfl), (cg_id_s hg)⟩ (by show n - (v + 1) < n - v; omega)

set_option maxHeartbeats 4000000 in
set_option maxRecDepth 100000 in
theorem c_X6_join (l : Launch) (dC : Nat → ClassId) (dI : Nat → Nat → Nat) (kI kL : ClassId) (ma : Nat) (m1 : Nat) (m2 : Nat) (m3 : Nat) (m4 : Nat) (m5 : Nat) (m6 : Nat) (m7 : Nat) (m8 : Nat) (m9 : Nat) (mA : Nat) (mB : Nat) (mC : Nat) (n : Nat) (k : Nat) (d : Nat) (dp : Nat) (f : Nat → Nat) (i : Nat) (j : Nat) (qn : n ≤ 40) (hB : ∀ u, u < n → f u < n) (qi : i < n) (qj : j < n) (sz : Nat) : Met l yX6_join (.code yX6_join cX6_join 6 none :: tbw) { frames := 0, cells := 0, slots := 0, locals := 0 } (va_Pc [.ref ma, .int (nI i), .int (nI j)] (cx_M (dC, dI) vwCl [(ma, .inr (6, [.int (nI n), .ref m1, .ref m2, .ref m3, .int (nI k), .ref m4, .ref m5, .int (nI d), .ref m6, .ref m7, .int (nI dp), .ref m8, .ref m9, .ref mA, .ref mB, .ref mC])), (mB, .inl (kI, 40, .inl (cI f)))] [(kI, .int), (kL, .long)] sz)) (va_Qv (fun (u : Unit) => True) (cx_B (dC, dI) vwCl (va_A [(ma, .inr (6, [.int (nI n), .ref m1, .ref m2, .ref m3, .int (nI k), .ref m4, .ref m5, .int (nI d), .ref m6, .ref m7, .int (nI dp), .ref m8, .ref m9, .ref mA, .ref mB, .ref mC])), (mB, .inl (kI, 40, .inl (cI f)))] sz) (fun u : Unit => [(ma, .inr (6, [.int (nI n), .ref m1, .ref m2, .ref m3, .int (nI k), .ref m4, .ref m5, .int (nI d), .ref m6, .ref m7, .int (nI dp), .ref m8, .ref m9, .ref mA, .ref mB, .ref mC])), (mB, .inl (kI, 40, .inl (cI (cg_mg n f i j))))])) (va_A [(ma, .inr (6, [.int (nI n), .ref m1, .ref m2, .ref m3, .int (nI k), .ref m4, .ref m5, .int (nI d), .ref m6, .ref m7, .int (nI dp), .ref m8, .ref m9, .ref mA, .ref mB, .ref mC])), (mB, .inl (kI, 40, .inl (cI f)))] sz)) 0 0 (va_A [(ma, .inr (6, [.int (nI n), .ref m1, .ref m2, .ref m3, .int (nI k), .ref m4, .ref m5, .int (nI d), .ref m6, .ref m7, .int (nI dp), .ref m8, .ref m9, .ref mA, .ref mB, .ref mC])), (mB, .inl (kI, 40, .inl (cI f)))] sz) := by
  refine Met.ofW (cc := cX6_join) (maxL := 6) (ret := none) (by decide) rfl ?_
  intro p e s m args below meth c s₁ B hml hv
  obtain ⟨rfl, hsz, hP, hK, hD0⟩ := hv
  have hx := B.exec
  have hb := B.bytes
  have hr := B.returns
  have hts := atoms_spec (ws := .code yX6_join cX6_join 6 none :: tbw) B.pre
  have hw : ∀ w ∈ tbw, w.before _ s = true := fun w h => hts w (List.mem_cons_of_mem _ h)
  have hown : s.vm.findClass RX6 = some m.cls := findClass_of_methodNamed B.named
  subst hsz
  have hD := hD0.self (sz := s.heap.size)
  generalize hAe : va_A [(ma, .inr (6, [.int (nI n), .ref m1, .ref m2, .ref m3, .int (nI k), .ref m4, .ref m5, .int (nI d), .ref m6, .ref m7, .int (nI dp), .ref m8, .ref m9, .ref mA, .ref mB, .ref mC])), (mB, .inl (kI, 40, .inl (cI f)))] s.heap.size = AA at hD ⊢
  have hA : ∀ q : Nat, s.heap.size ≤ q → AA q := fun q h => by rw [← hAe]; exact Or.inr h
  have hS : va_S AA s.heap s.heap [] := va_S.rf
  have hP : va_P (dC, dI) vwCl [(ma, .inr (6, [.int (nI n), .ref m1, .ref m2, .ref m3, .int (nI k), .ref m4, .ref m5, .int (nI d), .ref m6, .ref m7, .int (nI dp), .ref m8, .ref m9, .ref mA, .ref mB, .ref mC])), (mB, .inl (kI, 40, .inl (cI f)))] s.heap := hP
  have hl := lv_entry ([.ref ma, .int (nI i), .int (nI j)]) (n := 6) (Nat.le_of_ble_eq_true rfl)
  rw [lg_entry_eq]
  generalize (lg_sl ([.ref ma, .int (nI i), .int (nI j)]) ++ List.replicate (6 - (lg_sl ([.ref ma, .int (nI i), .int (nI j)])).length) Slot.unset).toArray = ls at hl ⊢
  have hl : lv_has ls 6 [(0, .ref ma), (1, .int (nI i)), (2, .int (nI j))] := hl
  have e1 := hB i qi
  have e2 := hB j qj
  refine lv_aload_n hx hb dX6_join_0 rfl (lv_at hl 0 rfl) ?_
  refine va_get (D := (dC, dI)) (ci := 6) (v := .ref mB) (C := RX6) (T := TX6) (N := 16) hx hb hts (tb_c tbX6) hown hK hP 0 rfl rfl 14 (by decide) (hw _ tw_355) (fun _ h9 => h9) rfl dX6_join_1 ?_
  refine lv_iload_n hx hb dX6_join_4 rfl (lv_at hl 1 rfl) ?_
  refine cx_iald hx hb hK hP 1 0 rfl rfl (by first | decide | omega) (v := nI (f i)) (i := i) rfl (by first | omega | exact hB _ (by omega) | exact Nat.lt_of_lt_of_le (hB _ (by omega)) (by omega)) dX6_join_5 ?_
  refine lv_aload_n hx hb dX6_join_6 rfl (lv_at hl 0 rfl) ?_
  refine va_get (D := (dC, dI)) (ci := 6) (v := .ref mB) (C := RX6) (T := TX6) (N := 16) hx hb hts (tb_c tbX6) hown hK hP 0 rfl rfl 14 (by decide) (hw _ tw_355) (fun _ h9 => h9) rfl dX6_join_7 ?_
  refine lv_iload_n hx hb dX6_join_10 rfl (lv_at hl 2 rfl) ?_
  refine cx_iald hx hb hK hP 1 0 rfl rfl (by first | decide | omega) (v := nI (f j)) (i := j) rfl (by first | omega | exact hB _ (by omega) | exact Nat.lt_of_lt_of_le (hB _ (by omega)) (by omega)) dX6_join_11 ?_
  refine cx_ge (x := (f i)) (y := (f j)) (tgt := 24) hx hb dX6_join_12 (by decide) (by first | omega | exact hB _ (by omega) | exact Nat.lt_of_lt_of_le (hB _ (by omega)) (by omega)) (by first | omega | exact hB _ (by omega) | exact Nat.lt_of_lt_of_le (hB _ (by omega)) (by omega)) (fun b0 => ?_) (fun b0 => ?_)
  · skip
    refine lv_aload_n hx hb dX6_join_24 rfl (lv_at hl 0 rfl) ?_
    refine va_get (D := (dC, dI)) (ci := 6) (v := .ref mB) (C := RX6) (T := TX6) (N := 16) hx hb hts (tb_c tbX6) hown hK hP 0 rfl rfl 14 (by decide) (hw _ tw_355) (fun _ h9 => h9) rfl dX6_join_25 ?_
    refine lv_iload_n hx hb dX6_join_28 rfl (lv_at hl 2 rfl) ?_
    refine cx_iald hx hb hK hP 1 0 rfl rfl (by first | decide | omega) (v := nI (f j)) (i := j) rfl (by first | omega | exact hB _ (by omega) | exact Nat.lt_of_lt_of_le (hB _ (by omega)) (by omega)) dX6_join_29 ?_
    refine lv_istore_n hx hb dX6_join_30 rfl hl (by decide) rfl (fun ls hl => ?_)
    have hl : lv_has ls 6 [(3, .int (nI (f j))), (0, .ref ma), (1, .int (nI i)), (2, .int (nI j))] := hl
    refine lv_aload_n hx hb dX6_join_31 rfl (lv_at hl 1 rfl) ?_
    refine va_get (D := (dC, dI)) (ci := 6) (v := .ref mB) (C := RX6) (T := TX6) (N := 16) hx hb hts (tb_c tbX6) hown hK hP 0 rfl rfl 14 (by decide) (hw _ tw_355) (fun _ h9 => h9) rfl dX6_join_32 ?_
    refine lv_iload_n hx hb dX6_join_35 rfl (lv_at hl 2 rfl) ?_
    refine cx_iald hx hb hK hP 1 0 rfl rfl (by first | decide | omega) (v := nI (f i)) (i := i) rfl (by first | omega | exact hB _ (by omega) | exact Nat.lt_of_lt_of_le (hB _ (by omega)) (by omega)) dX6_join_36 ?_
    refine lv_aload_n hx hb dX6_join_37 rfl (lv_at hl 1 rfl) ?_
    refine va_get (D := (dC, dI)) (ci := 6) (v := .ref mB) (C := RX6) (T := TX6) (N := 16) hx hb hts (tb_c tbX6) hown hK hP 0 rfl rfl 14 (by decide) (hw _ tw_355) (fun _ h9 => h9) rfl dX6_join_38 ?_
    refine lv_iload_n hx hb dX6_join_41 rfl (lv_at hl 3 rfl) ?_
    refine cx_iald hx hb hK hP 1 0 rfl rfl (by first | decide | omega) (v := nI (f j)) (i := j) rfl (by first | omega | exact hB _ (by omega) | exact Nat.lt_of_lt_of_le (hB _ (by omega)) (by omega)) dX6_join_42 ?_
    refine cx_ge (x := (f i)) (y := (f j)) (tgt := 55) hx hb dX6_join_43 (by decide) (by first | omega | exact hB _ (by omega) | exact Nat.lt_of_lt_of_le (hB _ (by omega)) (by omega)) (by first | omega | exact hB _ (by omega) | exact Nat.lt_of_lt_of_le (hB _ (by omega)) (by omega)) (fun b1 => ?_) (fun b1 => ?_)
    · skip
      refine lv_aload_n hx hb dX6_join_55 rfl (lv_at hl 1 rfl) ?_
      refine va_get (D := (dC, dI)) (ci := 6) (v := .ref mB) (C := RX6) (T := TX6) (N := 16) hx hb hts (tb_c tbX6) hown hK hP 0 rfl rfl 14 (by decide) (hw _ tw_355) (fun _ h9 => h9) rfl dX6_join_56 ?_
      refine lv_iload_n hx hb dX6_join_59 rfl (lv_at hl 2 rfl) ?_
      refine cx_iald hx hb hK hP 1 0 rfl rfl (by first | decide | omega) (v := nI (f i)) (i := i) rfl (by first | omega | exact hB _ (by omega) | exact Nat.lt_of_lt_of_le (hB _ (by omega)) (by omega)) dX6_join_60 ?_
      refine lv_istore hx hb dX6_join_61 hl (by decide) rfl (fun ls hl => ?_)
      have hl : lv_has ls 6 [(4, .int (nI (f i))), (3, .int (nI (f j))), (0, .ref ma), (1, .int (nI i)), (2, .int (nI j))] := hl
      refine lv_iconst (v := nI 0) hx hb dX6_join_63 (by decide) ?_
      refine lv_istore hx hb dX6_join_64 hl (by decide) rfl (fun ls hl => ?_)
      have hl : lv_has ls 6 [(5, .int (nI 0)), (4, .int (nI (f i))), (3, .int (nI (f j))), (0, .ref ma), (1, .int (nI i)), (2, .int (nI j))] := hl
      refine cx_loop4 (fun (lo : Nat) (hi : Nat) (v : Nat) (g : Nat → Nat) (H : Heap) (locs : List Loc) (ls : Array Slot) => lv_has ls 6 [(3, .int (nI lo)), (4, .int (nI hi)), (5, .int (nI v)), (0, .ref ma), (1, .int (nI i)), (2, .int (nI j))] ∧ va_P (dC, dI) vwCl [(ma, .inr (6, [.int (nI n), .ref m1, .ref m2, .ref m3, .int (nI k), .ref m4, .ref m5, .int (nI d), .ref m6, .ref m7, .int (nI dp), .ref m8, .ref m9, .ref mA, .ref mB, .ref mC])), (mB, .inl (kI, 40, .inl (cI g)))] H ∧ va_D AA [(ma, .inr (6, [.int (nI n), .ref m1, .ref m2, .ref m3, .int (nI k), .ref m4, .ref m5, .int (nI d), .ref m6, .ref m7, .int (nI dp), .ref m8, .ref m9, .ref mA, .ref mB, .ref mC])), (mB, .inl (kI, 40, .inl (cI g)))] ∧ va_S AA s.heap H locs ∧ (lo = min (f i) (f j)) ∧ (hi = max (f i) (f j)) ∧ (v ≤ n) ∧ (g = cg_mu n f i j v)) (fun lo hi v g => n - v) (fun lo hi v g H locs ls hI ih1 => ?_) (f j) (f i) 0 f ⟨lv_sub hl [2, 1, 0, 3, 4, 5] rfl, hP, hD, hS, (by first | assumption | omega | rfl), (by first | assumption | omega | rfl), (by first | assumption | omega | rfl), (cg_mu_0)⟩
      obtain ⟨hl, hP, hD, hS, hlo, hhi, hv1, hg⟩ := hI
      obtain rfl := hlo
      obtain rfl := hhi
      refine lv_iload hx hb dX6_join_66 (lv_at hl 2 rfl) ?_
      refine lv_aload_n hx hb dX6_join_68 rfl (lv_at hl 3 rfl) ?_
      refine va_get (D := (dC, dI)) (ci := 6) (v := .int (nI n)) (C := RX6) (T := TX6) (N := 16) hx hb hts (tb_c tbX6) hown hK hP 0 rfl rfl 0 (by decide) (hw _ tw_341) (fun _ h9 => h9) rfl dX6_join_69 ?_
      refine cx_ge (x := v) (y := n) (tgt := 111) hx hb dX6_join_72 (by decide) (by first | omega | exact hB _ (by omega) | exact Nat.lt_of_lt_of_le (hB _ (by omega)) (by omega)) (by first | omega | exact hB _ (by omega) | exact Nat.lt_of_lt_of_le (hB _ (by omega)) (by omega)) (fun b2 => ?_) (fun b2 => ?_)
      · skip
        obtain rfl := cg_mu_e hg b2
        exact W.vret hx hb hr (fun t ht hW => ⟨⟨(), rfl, trivial, by rw [ht]; exact hP, hD⟩, hS.F ht⟩) hS.2.2 dX6_join_111
      have e3 := cg_mu_at hg
      have e4 := hB v b2
      refine lv_aload_n hx hb dX6_join_75 rfl (lv_at hl 3 rfl) ?_
      refine va_get (D := (dC, dI)) (ci := 6) (v := .ref mB) (C := RX6) (T := TX6) (N := 16) hx hb hts (tb_c tbX6) hown hK hP 0 rfl rfl 14 (by decide) (hw _ tw_355) (fun _ h9 => h9) rfl dX6_join_76 ?_
      refine lv_iload hx hb dX6_join_79 (lv_at hl 2 rfl) ?_
      refine lv_aload_n hx hb dX6_join_81 rfl (lv_at hl 3 rfl) ?_
      refine va_get (D := (dC, dI)) (ci := 6) (v := .ref mB) (C := RX6) (T := TX6) (N := 16) hx hb hts (tb_c tbX6) hown hK hP 0 rfl rfl 14 (by decide) (hw _ tw_355) (fun _ h9 => h9) rfl dX6_join_82 ?_
      refine lv_iload hx hb dX6_join_85 (lv_at hl 2 rfl) ?_
      refine cx_iald hx hb hK hP 1 0 rfl rfl (by first | decide | omega) (v := nI (g v)) (i := v) rfl (by first | omega | exact hB _ (by omega) | exact Nat.lt_of_lt_of_le (hB _ (by omega)) (by omega)) dX6_join_87 ?_
      refine lv_iload hx hb dX6_join_88 (lv_at hl 1 rfl) ?_
      refine cx_ne (x := (g v)) (y := (max (f i) (f j))) (tgt := 97) hx hb dX6_join_90 (by decide) (by first | omega | exact hB _ (by omega) | exact Nat.lt_of_lt_of_le (hB _ (by omega)) (by omega)) (by first | omega | exact hB _ (by omega) | exact Nat.lt_of_lt_of_le (hB _ (by omega)) (by omega)) (fun b3 => ?_) (fun b3 => ?_)
      · skip
        refine lv_aload_n hx hb dX6_join_97 rfl (lv_at hl 3 rfl) ?_
        refine va_get (D := (dC, dI)) (ci := 6) (v := .ref mB) (C := RX6) (T := TX6) (N := 16) hx hb hts (tb_c tbX6) hown hK hP 0 rfl rfl 14 (by decide) (hw _ tw_355) (fun _ h9 => h9) rfl dX6_join_98 ?_
        refine lv_iload hx hb dX6_join_101 (lv_at hl 2 rfl) ?_
        refine cx_iald hx hb hK hP 1 0 rfl rfl (by first | decide | omega) (v := nI (g v)) (i := v) rfl (by first | omega | exact hB _ (by omega) | exact Nat.lt_of_lt_of_le (hB _ (by omega)) (by omega)) dX6_join_103 ?_
        refine cx_iast hx hb hK hP hD hS 1 0 rfl rfl (by first | decide | omega) (i := v) (cI_u) (by first | omega | exact hB _ (by omega) | exact Nat.lt_of_lt_of_le (hB _ (by omega)) (by omega)) dX6_join_104 (fun H locs hP hD hS => ?_)
        have hP : va_P (dC, dI) vwCl [(ma, .inr (6, [.int (nI n), .ref m1, .ref m2, .ref m3, .int (nI k), .ref m4, .ref m5, .int (nI d), .ref m6, .ref m7, .int (nI dp), .ref m8, .ref m9, .ref mA, .ref mB, .ref mC])), (mB, .inl (kI, 40, .inl (cI (wt_u g v (g v)))))] H := hP
        have hD : va_D AA [(ma, .inr (6, [.int (nI n), .ref m1, .ref m2, .ref m3, .int (nI k), .ref m4, .ref m5, .int (nI d), .ref m6, .ref m7, .int (nI dp), .ref m8, .ref m9, .ref mA, .ref mB, .ref mC])), (mB, .inl (kI, 40, .inl (cI (wt_u g v (g v)))))] := hD
        refine lv_iinc (k := 2) (v := nI (v + 1)) hx hb dX6_join_105 hl rfl cx_inc1 (by decide) rfl (fun ls hl => ?_)
        have hl : lv_has ls 6 [(5, .int (nI (v + 1))), (3, .int (nI (min (f i) (f j)))), (4, .int (nI (max (f i) (f j)))), (0, .ref ma), (1, .int (nI i)), (2, .int (nI j))] := hl
        refine lv_goto (tgt := 66) hx hb dX6_join_108 (by decide) ?_
        exact ih1 (min (f i) (f j)) (max (f i) (f j)) (v + 1) (wt_u g v (g v)) _ _ _ ⟨lv_sub hl [1, 2, 0, 3, 4, 5] rfl, hP, hD, hS, (by first | assumption | omega | rfl), (by first | assumption | omega | rfl), (by first | assumption | omega | rfl), (by first | exact cg_mu_y hg b2 b3 | exact cg_mu_n2 hg b3)⟩ (by show n - (v + 1) < n - v; omega)
      refine lv_iload_n hx hb dX6_join_93 rfl (lv_at hl 0 rfl) ?_
      refine lv_goto (tgt := 104) hx hb dX6_join_94 (by decide) ?_
      refine cx_iast hx hb hK hP hD hS 1 0 rfl rfl (by first | decide | omega) (i := v) (cI_u) (by first | omega | exact hB _ (by omega) | exact Nat.lt_of_lt_of_le (hB _ (by omega)) (by omega)) dX6_join_104 (fun H locs hP hD hS => ?_)
      have hP : va_P (dC, dI) vwCl [(ma, .inr (6, [.int (nI n), .ref m1, .ref m2, .ref m3, .int (nI k), .ref m4, .ref m5, .int (nI d), .ref m6, .ref m7, .int (nI dp), .ref m8, .ref m9, .ref mA, .ref mB, .ref mC])), (mB, .inl (kI, 40, .inl (cI (wt_u g v (min (f i) (f j))))))] H := hP
      have hD : va_D AA [(ma, .inr (6, [.int (nI n), .ref m1, .ref m2, .ref m3, .int (nI k), .ref m4, .ref m5, .int (nI d), .ref m6, .ref m7, .int (nI dp), .ref m8, .ref m9, .ref mA, .ref mB, .ref mC])), (mB, .inl (kI, 40, .inl (cI (wt_u g v (min (f i) (f j))))))] := hD
      refine lv_iinc (k := 2) (v := nI (v + 1)) hx hb dX6_join_105 hl rfl cx_inc1 (by decide) rfl (fun ls hl => ?_)
      have hl : lv_has ls 6 [(5, .int (nI (v + 1))), (3, .int (nI (min (f i) (f j)))), (4, .int (nI (max (f i) (f j)))), (0, .ref ma), (1, .int (nI i)), (2, .int (nI j))] := hl
      refine lv_goto (tgt := 66) hx hb dX6_join_108 (by decide) ?_
      exact ih1 (min (f i) (f j)) (max (f i) (f j)) (v + 1) (wt_u g v (min (f i) (f j))) _ _ _ ⟨lv_sub hl [1, 2, 0, 3, 4, 5] rfl, hP, hD, hS, (by first | assumption | omega | rfl), (by first | assumption | omega | rfl), (by first | assumption | omega | rfl), (by first | exact cg_mu_y hg b2 b3 | exact cg_mu_n2 hg b3)⟩ (by show n - (v + 1) < n - v; omega)
    refine lv_aload_n hx hb dX6_join_46 rfl (lv_at hl 1 rfl) ?_
    refine va_get (D := (dC, dI)) (ci := 6) (v := .ref mB) (C := RX6) (T := TX6) (N := 16) hx hb hts (tb_c tbX6) hown hK hP 0 rfl rfl 14 (by decide) (hw _ tw_355) (fun _ h9 => h9) rfl dX6_join_47 ?_
    refine lv_iload_n hx hb dX6_join_50 rfl (lv_at hl 3 rfl) ?_
    refine cx_iald hx hb hK hP 1 0 rfl rfl (by first | decide | omega) (v := nI (f j)) (i := j) rfl (by first | omega | exact hB _ (by omega) | exact Nat.lt_of_lt_of_le (hB _ (by omega)) (by omega)) dX6_join_51 ?_
    refine lv_goto (tgt := 61) hx hb dX6_join_52 (by decide) ?_
    refine lv_istore hx hb dX6_join_61 hl (by decide) rfl (fun ls hl => ?_)
    have hl : lv_has ls 6 [(4, .int (nI (f j))), (3, .int (nI (f j))), (0, .ref ma), (1, .int (nI i)), (2, .int (nI j))] := hl
    refine lv_iconst (v := nI 0) hx hb dX6_join_63 (by decide) ?_
    refine lv_istore hx hb dX6_join_64 hl (by decide) rfl (fun ls hl => ?_)
    have hl : lv_has ls 6 [(5, .int (nI 0)), (4, .int (nI (f j))), (3, .int (nI (f j))), (0, .ref ma), (1, .int (nI i)), (2, .int (nI j))] := hl
    refine cx_loop4 (fun (lo : Nat) (hi : Nat) (v : Nat) (g : Nat → Nat) (H : Heap) (locs : List Loc) (ls : Array Slot) => lv_has ls 6 [(3, .int (nI lo)), (4, .int (nI hi)), (5, .int (nI v)), (0, .ref ma), (1, .int (nI i)), (2, .int (nI j))] ∧ va_P (dC, dI) vwCl [(ma, .inr (6, [.int (nI n), .ref m1, .ref m2, .ref m3, .int (nI k), .ref m4, .ref m5, .int (nI d), .ref m6, .ref m7, .int (nI dp), .ref m8, .ref m9, .ref mA, .ref mB, .ref mC])), (mB, .inl (kI, 40, .inl (cI g)))] H ∧ va_D AA [(ma, .inr (6, [.int (nI n), .ref m1, .ref m2, .ref m3, .int (nI k), .ref m4, .ref m5, .int (nI d), .ref m6, .ref m7, .int (nI dp), .ref m8, .ref m9, .ref mA, .ref mB, .ref mC])), (mB, .inl (kI, 40, .inl (cI g)))] ∧ va_S AA s.heap H locs ∧ (lo = min (f i) (f j)) ∧ (hi = max (f i) (f j)) ∧ (v ≤ n) ∧ (g = cg_mu n f i j v)) (fun lo hi v g => n - v) (fun lo hi v g H locs ls hI ih2 => ?_) (f j) (f j) 0 f ⟨lv_sub hl [2, 1, 0, 3, 4, 5] rfl, hP, hD, hS, (by first | assumption | omega | rfl), (by first | assumption | omega | rfl), (by first | assumption | omega | rfl), (cg_mu_0)⟩
    obtain ⟨hl, hP, hD, hS, hlo, hhi, hv1, hg⟩ := hI
    obtain rfl := hlo
    obtain rfl := hhi
    refine lv_iload hx hb dX6_join_66 (lv_at hl 2 rfl) ?_
    refine lv_aload_n hx hb dX6_join_68 rfl (lv_at hl 3 rfl) ?_
    refine va_get (D := (dC, dI)) (ci := 6) (v := .int (nI n)) (C := RX6) (T := TX6) (N := 16) hx hb hts (tb_c tbX6) hown hK hP 0 rfl rfl 0 (by decide) (hw _ tw_341) (fun _ h9 => h9) rfl dX6_join_69 ?_
    refine cx_ge (x := v) (y := n) (tgt := 111) hx hb dX6_join_72 (by decide) (by first | omega | exact hB _ (by omega) | exact Nat.lt_of_lt_of_le (hB _ (by omega)) (by omega)) (by first | omega | exact hB _ (by omega) | exact Nat.lt_of_lt_of_le (hB _ (by omega)) (by omega)) (fun b2 => ?_) (fun b2 => ?_)
    · skip
      obtain rfl := cg_mu_e hg b2
      exact W.vret hx hb hr (fun t ht hW => ⟨⟨(), rfl, trivial, by rw [ht]; exact hP, hD⟩, hS.F ht⟩) hS.2.2 dX6_join_111
    have e3 := cg_mu_at hg
    have e4 := hB v b2
    refine lv_aload_n hx hb dX6_join_75 rfl (lv_at hl 3 rfl) ?_
    refine va_get (D := (dC, dI)) (ci := 6) (v := .ref mB) (C := RX6) (T := TX6) (N := 16) hx hb hts (tb_c tbX6) hown hK hP 0 rfl rfl 14 (by decide) (hw _ tw_355) (fun _ h9 => h9) rfl dX6_join_76 ?_
    refine lv_iload hx hb dX6_join_79 (lv_at hl 2 rfl) ?_
    refine lv_aload_n hx hb dX6_join_81 rfl (lv_at hl 3 rfl) ?_
    refine va_get (D := (dC, dI)) (ci := 6) (v := .ref mB) (C := RX6) (T := TX6) (N := 16) hx hb hts (tb_c tbX6) hown hK hP 0 rfl rfl 14 (by decide) (hw _ tw_355) (fun _ h9 => h9) rfl dX6_join_82 ?_
    refine lv_iload hx hb dX6_join_85 (lv_at hl 2 rfl) ?_
    refine cx_iald hx hb hK hP 1 0 rfl rfl (by first | decide | omega) (v := nI (g v)) (i := v) rfl (by first | omega | exact hB _ (by omega) | exact Nat.lt_of_lt_of_le (hB _ (by omega)) (by omega)) dX6_join_87 ?_
    refine lv_iload hx hb dX6_join_88 (lv_at hl 1 rfl) ?_
    refine cx_ne (x := (g v)) (y := (max (f i) (f j))) (tgt := 97) hx hb dX6_join_90 (by decide) (by first | omega | exact hB _ (by omega) | exact Nat.lt_of_lt_of_le (hB _ (by omega)) (by omega)) (by first | omega | exact hB _ (by omega) | exact Nat.lt_of_lt_of_le (hB _ (by omega)) (by omega)) (fun b3 => ?_) (fun b3 => ?_)
    · skip
      refine lv_aload_n hx hb dX6_join_97 rfl (lv_at hl 3 rfl) ?_
      refine va_get (D := (dC, dI)) (ci := 6) (v := .ref mB) (C := RX6) (T := TX6) (N := 16) hx hb hts (tb_c tbX6) hown hK hP 0 rfl rfl 14 (by decide) (hw _ tw_355) (fun _ h9 => h9) rfl dX6_join_98 ?_
      refine lv_iload hx hb dX6_join_101 (lv_at hl 2 rfl) ?_
      refine cx_iald hx hb hK hP 1 0 rfl rfl (by first | decide | omega) (v := nI (g v)) (i := v) rfl (by first | omega | exact hB _ (by omega) | exact Nat.lt_of_lt_of_le (hB _ (by omega)) (by omega)) dX6_join_103 ?_
      refine cx_iast hx hb hK hP hD hS 1 0 rfl rfl (by first | decide | omega) (i := v) (cI_u) (by first | omega | exact hB _ (by omega) | exact Nat.lt_of_lt_of_le (hB _ (by omega)) (by omega)) dX6_join_104 (fun H locs hP hD hS => ?_)
      have hP : va_P (dC, dI) vwCl [(ma, .inr (6, [.int (nI n), .ref m1, .ref m2, .ref m3, .int (nI k), .ref m4, .ref m5, .int (nI d), .ref m6, .ref m7, .int (nI dp), .ref m8, .ref m9, .ref mA, .ref mB, .ref mC])), (mB, .inl (kI, 40, .inl (cI (wt_u g v (g v)))))] H := hP
      have hD : va_D AA [(ma, .inr (6, [.int (nI n), .ref m1, .ref m2, .ref m3, .int (nI k), .ref m4, .ref m5, .int (nI d), .ref m6, .ref m7, .int (nI dp), .ref m8, .ref m9, .ref mA, .ref mB, .ref mC])), (mB, .inl (kI, 40, .inl (cI (wt_u g v (g v)))))] := hD
      refine lv_iinc (k := 2) (v := nI (v + 1)) hx hb dX6_join_105 hl rfl cx_inc1 (by decide) rfl (fun ls hl => ?_)
      have hl : lv_has ls 6 [(5, .int (nI (v + 1))), (3, .int (nI (min (f i) (f j)))), (4, .int (nI (max (f i) (f j)))), (0, .ref ma), (1, .int (nI i)), (2, .int (nI j))] := hl
      refine lv_goto (tgt := 66) hx hb dX6_join_108 (by decide) ?_
      exact ih2 (min (f i) (f j)) (max (f i) (f j)) (v + 1) (wt_u g v (g v)) _ _ _ ⟨lv_sub hl [1, 2, 0, 3, 4, 5] rfl, hP, hD, hS, (by first | assumption | omega | rfl), (by first | assumption | omega | rfl), (by first | assumption | omega | rfl), (by first | exact cg_mu_y hg b2 b3 | exact cg_mu_n2 hg b3)⟩ (by show n - (v + 1) < n - v; omega)
    refine lv_iload_n hx hb dX6_join_93 rfl (lv_at hl 0 rfl) ?_
    refine lv_goto (tgt := 104) hx hb dX6_join_94 (by decide) ?_
    refine cx_iast hx hb hK hP hD hS 1 0 rfl rfl (by first | decide | omega) (i := v) (cI_u) (by first | omega | exact hB _ (by omega) | exact Nat.lt_of_lt_of_le (hB _ (by omega)) (by omega)) dX6_join_104 (fun H locs hP hD hS => ?_)
    have hP : va_P (dC, dI) vwCl [(ma, .inr (6, [.int (nI n), .ref m1, .ref m2, .ref m3, .int (nI k), .ref m4, .ref m5, .int (nI d), .ref m6, .ref m7, .int (nI dp), .ref m8, .ref m9, .ref mA, .ref mB, .ref mC])), (mB, .inl (kI, 40, .inl (cI (wt_u g v (min (f i) (f j))))))] H := hP
    have hD : va_D AA [(ma, .inr (6, [.int (nI n), .ref m1, .ref m2, .ref m3, .int (nI k), .ref m4, .ref m5, .int (nI d), .ref m6, .ref m7, .int (nI dp), .ref m8, .ref m9, .ref mA, .ref mB, .ref mC])), (mB, .inl (kI, 40, .inl (cI (wt_u g v (min (f i) (f j))))))] := hD
    refine lv_iinc (k := 2) (v := nI (v + 1)) hx hb dX6_join_105 hl rfl cx_inc1 (by decide) rfl (fun ls hl => ?_)
    have hl : lv_has ls 6 [(5, .int (nI (v + 1))), (3, .int (nI (min (f i) (f j)))), (4, .int (nI (max (f i) (f j)))), (0, .ref ma), (1, .int (nI i)), (2, .int (nI j))] := hl
    refine lv_goto (tgt := 66) hx hb dX6_join_108 (by decide) ?_
    exact ih2 (min (f i) (f j)) (max (f i) (f j)) (v + 1) (wt_u g v (min (f i) (f j))) _ _ _ ⟨lv_sub hl [1, 2, 0, 3, 4, 5] rfl, hP, hD, hS, (by first | assumption | omega | rfl), (by first | assumption | omega | rfl), (by first | assumption | omega | rfl), (by first | exact cg_mu_y hg b2 b3 | exact cg_mu_n2 hg b3)⟩ (by show n - (v + 1) < n - v; omega)
  refine lv_aload_n hx hb dX6_join_15 rfl (lv_at hl 0 rfl) ?_
  refine va_get (D := (dC, dI)) (ci := 6) (v := .ref mB) (C := RX6) (T := TX6) (N := 16) hx hb hts (tb_c tbX6) hown hK hP 0 rfl rfl 14 (by decide) (hw _ tw_355) (fun _ h9 => h9) rfl dX6_join_16 ?_
  refine lv_iload_n hx hb dX6_join_19 rfl (lv_at hl 1 rfl) ?_
  refine cx_iald hx hb hK hP 1 0 rfl rfl (by first | decide | omega) (v := nI (f i)) (i := i) rfl (by first | omega | exact hB _ (by omega) | exact Nat.lt_of_lt_of_le (hB _ (by omega)) (by omega)) dX6_join_20 ?_
  refine lv_goto (tgt := 30) hx hb dX6_join_21 (by decide) ?_
  refine lv_istore_n hx hb dX6_join_30 rfl hl (by decide) rfl (fun ls hl => ?_)
  have hl : lv_has ls 6 [(3, .int (nI (f i))), (0, .ref ma), (1, .int (nI i)), (2, .int (nI j))] := hl
  refine lv_aload_n hx hb dX6_join_31 rfl (lv_at hl 1 rfl) ?_
  refine va_get (D := (dC, dI)) (ci := 6) (v := .ref mB) (C := RX6) (T := TX6) (N := 16) hx hb hts (tb_c tbX6) hown hK hP 0 rfl rfl 14 (by decide) (hw _ tw_355) (fun _ h9 => h9) rfl dX6_join_32 ?_
  refine lv_iload_n hx hb dX6_join_35 rfl (lv_at hl 2 rfl) ?_
  refine cx_iald hx hb hK hP 1 0 rfl rfl (by first | decide | omega) (v := nI (f i)) (i := i) rfl (by first | omega | exact hB _ (by omega) | exact Nat.lt_of_lt_of_le (hB _ (by omega)) (by omega)) dX6_join_36 ?_
  refine lv_aload_n hx hb dX6_join_37 rfl (lv_at hl 1 rfl) ?_
  refine va_get (D := (dC, dI)) (ci := 6) (v := .ref mB) (C := RX6) (T := TX6) (N := 16) hx hb hts (tb_c tbX6) hown hK hP 0 rfl rfl 14 (by decide) (hw _ tw_355) (fun _ h9 => h9) rfl dX6_join_38 ?_
  refine lv_iload_n hx hb dX6_join_41 rfl (lv_at hl 3 rfl) ?_
  refine cx_iald hx hb hK hP 1 0 rfl rfl (by first | decide | omega) (v := nI (f j)) (i := j) rfl (by first | omega | exact hB _ (by omega) | exact Nat.lt_of_lt_of_le (hB _ (by omega)) (by omega)) dX6_join_42 ?_
  refine cx_ge (x := (f i)) (y := (f j)) (tgt := 55) hx hb dX6_join_43 (by decide) (by first | omega | exact hB _ (by omega) | exact Nat.lt_of_lt_of_le (hB _ (by omega)) (by omega)) (by first | omega | exact hB _ (by omega) | exact Nat.lt_of_lt_of_le (hB _ (by omega)) (by omega)) (fun b1 => ?_) (fun b1 => ?_)
  · skip
    refine lv_aload_n hx hb dX6_join_55 rfl (lv_at hl 1 rfl) ?_
    refine va_get (D := (dC, dI)) (ci := 6) (v := .ref mB) (C := RX6) (T := TX6) (N := 16) hx hb hts (tb_c tbX6) hown hK hP 0 rfl rfl 14 (by decide) (hw _ tw_355) (fun _ h9 => h9) rfl dX6_join_56 ?_
    refine lv_iload_n hx hb dX6_join_59 rfl (lv_at hl 2 rfl) ?_
    refine cx_iald hx hb hK hP 1 0 rfl rfl (by first | decide | omega) (v := nI (f i)) (i := i) rfl (by first | omega | exact hB _ (by omega) | exact Nat.lt_of_lt_of_le (hB _ (by omega)) (by omega)) dX6_join_60 ?_
    refine lv_istore hx hb dX6_join_61 hl (by decide) rfl (fun ls hl => ?_)
    have hl : lv_has ls 6 [(4, .int (nI (f i))), (3, .int (nI (f i))), (0, .ref ma), (1, .int (nI i)), (2, .int (nI j))] := hl
    refine lv_iconst (v := nI 0) hx hb dX6_join_63 (by decide) ?_
    refine lv_istore hx hb dX6_join_64 hl (by decide) rfl (fun ls hl => ?_)
    have hl : lv_has ls 6 [(5, .int (nI 0)), (4, .int (nI (f i))), (3, .int (nI (f i))), (0, .ref ma), (1, .int (nI i)), (2, .int (nI j))] := hl
    refine cx_loop4 (fun (lo : Nat) (hi : Nat) (v : Nat) (g : Nat → Nat) (H : Heap) (locs : List Loc) (ls : Array Slot) => lv_has ls 6 [(3, .int (nI lo)), (4, .int (nI hi)), (5, .int (nI v)), (0, .ref ma), (1, .int (nI i)), (2, .int (nI j))] ∧ va_P (dC, dI) vwCl [(ma, .inr (6, [.int (nI n), .ref m1, .ref m2, .ref m3, .int (nI k), .ref m4, .ref m5, .int (nI d), .ref m6, .ref m7, .int (nI dp), .ref m8, .ref m9, .ref mA, .ref mB, .ref mC])), (mB, .inl (kI, 40, .inl (cI g)))] H ∧ va_D AA [(ma, .inr (6, [.int (nI n), .ref m1, .ref m2, .ref m3, .int (nI k), .ref m4, .ref m5, .int (nI d), .ref m6, .ref m7, .int (nI dp), .ref m8, .ref m9, .ref mA, .ref mB, .ref mC])), (mB, .inl (kI, 40, .inl (cI g)))] ∧ va_S AA s.heap H locs ∧ (lo = min (f i) (f j)) ∧ (hi = max (f i) (f j)) ∧ (v ≤ n) ∧ (g = cg_mu n f i j v)) (fun lo hi v g => n - v) (fun lo hi v g H locs ls hI ih3 => ?_) (f i) (f i) 0 f ⟨lv_sub hl [2, 1, 0, 3, 4, 5] rfl, hP, hD, hS, (by first | assumption | omega | rfl), (by first | assumption | omega | rfl), (by first | assumption | omega | rfl), (cg_mu_0)⟩
    obtain ⟨hl, hP, hD, hS, hlo, hhi, hv1, hg⟩ := hI
    obtain rfl := hlo
    obtain rfl := hhi
    refine lv_iload hx hb dX6_join_66 (lv_at hl 2 rfl) ?_
    refine lv_aload_n hx hb dX6_join_68 rfl (lv_at hl 3 rfl) ?_
    refine va_get (D := (dC, dI)) (ci := 6) (v := .int (nI n)) (C := RX6) (T := TX6) (N := 16) hx hb hts (tb_c tbX6) hown hK hP 0 rfl rfl 0 (by decide) (hw _ tw_341) (fun _ h9 => h9) rfl dX6_join_69 ?_
    refine cx_ge (x := v) (y := n) (tgt := 111) hx hb dX6_join_72 (by decide) (by first | omega | exact hB _ (by omega) | exact Nat.lt_of_lt_of_le (hB _ (by omega)) (by omega)) (by first | omega | exact hB _ (by omega) | exact Nat.lt_of_lt_of_le (hB _ (by omega)) (by omega)) (fun b2 => ?_) (fun b2 => ?_)
    · skip
      obtain rfl := cg_mu_e hg b2
      exact W.vret hx hb hr (fun t ht hW => ⟨⟨(), rfl, trivial, by rw [ht]; exact hP, hD⟩, hS.F ht⟩) hS.2.2 dX6_join_111
    have e3 := cg_mu_at hg
    have e4 := hB v b2
    refine lv_aload_n hx hb dX6_join_75 rfl (lv_at hl 3 rfl) ?_
    refine va_get (D := (dC, dI)) (ci := 6) (v := .ref mB) (C := RX6) (T := TX6) (N := 16) hx hb hts (tb_c tbX6) hown hK hP 0 rfl rfl 14 (by decide) (hw _ tw_355) (fun _ h9 => h9) rfl dX6_join_76 ?_
    refine lv_iload hx hb dX6_join_79 (lv_at hl 2 rfl) ?_
    refine lv_aload_n hx hb dX6_join_81 rfl (lv_at hl 3 rfl) ?_
    refine va_get (D := (dC, dI)) (ci := 6) (v := .ref mB) (C := RX6) (T := TX6) (N := 16) hx hb hts (tb_c tbX6) hown hK hP 0 rfl rfl 14 (by decide) (hw _ tw_355) (fun _ h9 => h9) rfl dX6_join_82 ?_
    refine lv_iload hx hb dX6_join_85 (lv_at hl 2 rfl) ?_
    refine cx_iald hx hb hK hP 1 0 rfl rfl (by first | decide | omega) (v := nI (g v)) (i := v) rfl (by first | omega | exact hB _ (by omega) | exact Nat.lt_of_lt_of_le (hB _ (by omega)) (by omega)) dX6_join_87 ?_
    refine lv_iload hx hb dX6_join_88 (lv_at hl 1 rfl) ?_
    refine cx_ne (x := (g v)) (y := (max (f i) (f j))) (tgt := 97) hx hb dX6_join_90 (by decide) (by first | omega | exact hB _ (by omega) | exact Nat.lt_of_lt_of_le (hB _ (by omega)) (by omega)) (by first | omega | exact hB _ (by omega) | exact Nat.lt_of_lt_of_le (hB _ (by omega)) (by omega)) (fun b3 => ?_) (fun b3 => ?_)
    · skip
      refine lv_aload_n hx hb dX6_join_97 rfl (lv_at hl 3 rfl) ?_
      refine va_get (D := (dC, dI)) (ci := 6) (v := .ref mB) (C := RX6) (T := TX6) (N := 16) hx hb hts (tb_c tbX6) hown hK hP 0 rfl rfl 14 (by decide) (hw _ tw_355) (fun _ h9 => h9) rfl dX6_join_98 ?_
      refine lv_iload hx hb dX6_join_101 (lv_at hl 2 rfl) ?_
      refine cx_iald hx hb hK hP 1 0 rfl rfl (by first | decide | omega) (v := nI (g v)) (i := v) rfl (by first | omega | exact hB _ (by omega) | exact Nat.lt_of_lt_of_le (hB _ (by omega)) (by omega)) dX6_join_103 ?_
      refine cx_iast hx hb hK hP hD hS 1 0 rfl rfl (by first | decide | omega) (i := v) (cI_u) (by first | omega | exact hB _ (by omega) | exact Nat.lt_of_lt_of_le (hB _ (by omega)) (by omega)) dX6_join_104 (fun H locs hP hD hS => ?_)
      have hP : va_P (dC, dI) vwCl [(ma, .inr (6, [.int (nI n), .ref m1, .ref m2, .ref m3, .int (nI k), .ref m4, .ref m5, .int (nI d), .ref m6, .ref m7, .int (nI dp), .ref m8, .ref m9, .ref mA, .ref mB, .ref mC])), (mB, .inl (kI, 40, .inl (cI (wt_u g v (g v)))))] H := hP
      have hD : va_D AA [(ma, .inr (6, [.int (nI n), .ref m1, .ref m2, .ref m3, .int (nI k), .ref m4, .ref m5, .int (nI d), .ref m6, .ref m7, .int (nI dp), .ref m8, .ref m9, .ref mA, .ref mB, .ref mC])), (mB, .inl (kI, 40, .inl (cI (wt_u g v (g v)))))] := hD
      refine lv_iinc (k := 2) (v := nI (v + 1)) hx hb dX6_join_105 hl rfl cx_inc1 (by decide) rfl (fun ls hl => ?_)
      have hl : lv_has ls 6 [(5, .int (nI (v + 1))), (3, .int (nI (min (f i) (f j)))), (4, .int (nI (max (f i) (f j)))), (0, .ref ma), (1, .int (nI i)), (2, .int (nI j))] := hl
      refine lv_goto (tgt := 66) hx hb dX6_join_108 (by decide) ?_
      exact ih3 (min (f i) (f j)) (max (f i) (f j)) (v + 1) (wt_u g v (g v)) _ _ _ ⟨lv_sub hl [1, 2, 0, 3, 4, 5] rfl, hP, hD, hS, (by first | assumption | omega | rfl), (by first | assumption | omega | rfl), (by first | assumption | omega | rfl), (by first | exact cg_mu_y hg b2 b3 | exact cg_mu_n2 hg b3)⟩ (by show n - (v + 1) < n - v; omega)
    refine lv_iload_n hx hb dX6_join_93 rfl (lv_at hl 0 rfl) ?_
    refine lv_goto (tgt := 104) hx hb dX6_join_94 (by decide) ?_
    refine cx_iast hx hb hK hP hD hS 1 0 rfl rfl (by first | decide | omega) (i := v) (cI_u) (by first | omega | exact hB _ (by omega) | exact Nat.lt_of_lt_of_le (hB _ (by omega)) (by omega)) dX6_join_104 (fun H locs hP hD hS => ?_)
    have hP : va_P (dC, dI) vwCl [(ma, .inr (6, [.int (nI n), .ref m1, .ref m2, .ref m3, .int (nI k), .ref m4, .ref m5, .int (nI d), .ref m6, .ref m7, .int (nI dp), .ref m8, .ref m9, .ref mA, .ref mB, .ref mC])), (mB, .inl (kI, 40, .inl (cI (wt_u g v (min (f i) (f j))))))] H := hP
    have hD : va_D AA [(ma, .inr (6, [.int (nI n), .ref m1, .ref m2, .ref m3, .int (nI k), .ref m4, .ref m5, .int (nI d), .ref m6, .ref m7, .int (nI dp), .ref m8, .ref m9, .ref mA, .ref mB, .ref mC])), (mB, .inl (kI, 40, .inl (cI (wt_u g v (min (f i) (f j))))))] := hD
    refine lv_iinc (k := 2) (v := nI (v + 1)) hx hb dX6_join_105 hl rfl cx_inc1 (by decide) rfl (fun ls hl => ?_)
    have hl : lv_has ls 6 [(5, .int (nI (v + 1))), (3, .int (nI (min (f i) (f j)))), (4, .int (nI (max (f i) (f j)))), (0, .ref ma), (1, .int (nI i)), (2, .int (nI j))] := hl
    refine lv_goto (tgt := 66) hx hb dX6_join_108 (by decide) ?_
    exact ih3 (min (f i) (f j)) (max (f i) (f j)) (v + 1) (wt_u g v (min (f i) (f j))) _ _ _ ⟨lv_sub hl [1, 2, 0, 3, 4, 5] rfl, hP, hD, hS, (by first | assumption | omega | rfl), (by first | assumption | omega | rfl), (by first | assumption | omega | rfl), (by first | exact cg_mu_y hg b2 b3 | exact cg_mu_n2 hg b3)⟩ (by show n - (v + 1) < n - v; omega)
  refine lv_aload_n hx hb dX6_join_46 rfl (lv_at hl 1 rfl) ?_
  refine va_get (D := (dC, dI)) (ci := 6) (v := .ref mB) (C := RX6) (T := TX6) (N := 16) hx hb hts (tb_c tbX6) hown hK hP 0 rfl rfl 14 (by decide) (hw _ tw_355) (fun _ h9 => h9) rfl dX6_join_47 ?_
  refine lv_iload_n hx hb dX6_join_50 rfl (lv_at hl 3 rfl) ?_
  refine cx_iald hx hb hK hP 1 0 rfl rfl (by first | decide | omega) (v := nI (f j)) (i := j) rfl (by first | omega | exact hB _ (by omega) | exact Nat.lt_of_lt_of_le (hB _ (by omega)) (by omega)) dX6_join_51 ?_
  refine lv_goto (tgt := 61) hx hb dX6_join_52 (by decide) ?_
  refine lv_istore hx hb dX6_join_61 hl (by decide) rfl (fun ls hl => ?_)
  have hl : lv_has ls 6 [(4, .int (nI (f j))), (3, .int (nI (f i))), (0, .ref ma), (1, .int (nI i)), (2, .int (nI j))] := hl
  refine lv_iconst (v := nI 0) hx hb dX6_join_63 (by decide) ?_
  refine lv_istore hx hb dX6_join_64 hl (by decide) rfl (fun ls hl => ?_)
  have hl : lv_has ls 6 [(5, .int (nI 0)), (4, .int (nI (f j))), (3, .int (nI (f i))), (0, .ref ma), (1, .int (nI i)), (2, .int (nI j))] := hl
  refine cx_loop4 (fun (lo : Nat) (hi : Nat) (v : Nat) (g : Nat → Nat) (H : Heap) (locs : List Loc) (ls : Array Slot) => lv_has ls 6 [(3, .int (nI lo)), (4, .int (nI hi)), (5, .int (nI v)), (0, .ref ma), (1, .int (nI i)), (2, .int (nI j))] ∧ va_P (dC, dI) vwCl [(ma, .inr (6, [.int (nI n), .ref m1, .ref m2, .ref m3, .int (nI k), .ref m4, .ref m5, .int (nI d), .ref m6, .ref m7, .int (nI dp), .ref m8, .ref m9, .ref mA, .ref mB, .ref mC])), (mB, .inl (kI, 40, .inl (cI g)))] H ∧ va_D AA [(ma, .inr (6, [.int (nI n), .ref m1, .ref m2, .ref m3, .int (nI k), .ref m4, .ref m5, .int (nI d), .ref m6, .ref m7, .int (nI dp), .ref m8, .ref m9, .ref mA, .ref mB, .ref mC])), (mB, .inl (kI, 40, .inl (cI g)))] ∧ va_S AA s.heap H locs ∧ (lo = min (f i) (f j)) ∧ (hi = max (f i) (f j)) ∧ (v ≤ n) ∧ (g = cg_mu n f i j v)) (fun lo hi v g => n - v) (fun lo hi v g H locs ls hI ih4 => ?_) (f i) (f j) 0 f ⟨lv_sub hl [2, 1, 0, 3, 4, 5] rfl, hP, hD, hS, (by first | assumption | omega | rfl), (by first | assumption | omega | rfl), (by first | assumption | omega | rfl), (cg_mu_0)⟩
  obtain ⟨hl, hP, hD, hS, hlo, hhi, hv1, hg⟩ := hI
  obtain rfl := hlo
  obtain rfl := hhi
  refine lv_iload hx hb dX6_join_66 (lv_at hl 2 rfl) ?_
  refine lv_aload_n hx hb dX6_join_68 rfl (lv_at hl 3 rfl) ?_
  refine va_get (D := (dC, dI)) (ci := 6) (v := .int (nI n)) (C := RX6) (T := TX6) (N := 16) hx hb hts (tb_c tbX6) hown hK hP 0 rfl rfl 0 (by decide) (hw _ tw_341) (fun _ h9 => h9) rfl dX6_join_69 ?_
  refine cx_ge (x := v) (y := n) (tgt := 111) hx hb dX6_join_72 (by decide) (by first | omega | exact hB _ (by omega) | exact Nat.lt_of_lt_of_le (hB _ (by omega)) (by omega)) (by first | omega | exact hB _ (by omega) | exact Nat.lt_of_lt_of_le (hB _ (by omega)) (by omega)) (fun b2 => ?_) (fun b2 => ?_)
  · skip
    obtain rfl := cg_mu_e hg b2
    exact W.vret hx hb hr (fun t ht hW => ⟨⟨(), rfl, trivial, by rw [ht]; exact hP, hD⟩, hS.F ht⟩) hS.2.2 dX6_join_111
  have e3 := cg_mu_at hg
  have e4 := hB v b2
  refine lv_aload_n hx hb dX6_join_75 rfl (lv_at hl 3 rfl) ?_
  refine va_get (D := (dC, dI)) (ci := 6) (v := .ref mB) (C := RX6) (T := TX6) (N := 16) hx hb hts (tb_c tbX6) hown hK hP 0 rfl rfl 14 (by decide) (hw _ tw_355) (fun _ h9 => h9) rfl dX6_join_76 ?_
  refine lv_iload hx hb dX6_join_79 (lv_at hl 2 rfl) ?_
  refine lv_aload_n hx hb dX6_join_81 rfl (lv_at hl 3 rfl) ?_
  refine va_get (D := (dC, dI)) (ci := 6) (v := .ref mB) (C := RX6) (T := TX6) (N := 16) hx hb hts (tb_c tbX6) hown hK hP 0 rfl rfl 14 (by decide) (hw _ tw_355) (fun _ h9 => h9) rfl dX6_join_82 ?_
  refine lv_iload hx hb dX6_join_85 (lv_at hl 2 rfl) ?_
  refine cx_iald hx hb hK hP 1 0 rfl rfl (by first | decide | omega) (v := nI (g v)) (i := v) rfl (by first | omega | exact hB _ (by omega) | exact Nat.lt_of_lt_of_le (hB _ (by omega)) (by omega)) dX6_join_87 ?_
  refine lv_iload hx hb dX6_join_88 (lv_at hl 1 rfl) ?_
  refine cx_ne (x := (g v)) (y := (max (f i) (f j))) (tgt := 97) hx hb dX6_join_90 (by decide) (by first | omega | exact hB _ (by omega) | exact Nat.lt_of_lt_of_le (hB _ (by omega)) (by omega)) (by first | omega | exact hB _ (by omega) | exact Nat.lt_of_lt_of_le (hB _ (by omega)) (by omega)) (fun b3 => ?_) (fun b3 => ?_)
  · skip
    refine lv_aload_n hx hb dX6_join_97 rfl (lv_at hl 3 rfl) ?_
    refine va_get (D := (dC, dI)) (ci := 6) (v := .ref mB) (C := RX6) (T := TX6) (N := 16) hx hb hts (tb_c tbX6) hown hK hP 0 rfl rfl 14 (by decide) (hw _ tw_355) (fun _ h9 => h9) rfl dX6_join_98 ?_
    refine lv_iload hx hb dX6_join_101 (lv_at hl 2 rfl) ?_
    refine cx_iald hx hb hK hP 1 0 rfl rfl (by first | decide | omega) (v := nI (g v)) (i := v) rfl (by first | omega | exact hB _ (by omega) | exact Nat.lt_of_lt_of_le (hB _ (by omega)) (by omega)) dX6_join_103 ?_
    refine cx_iast hx hb hK hP hD hS 1 0 rfl rfl (by first | decide | omega) (i := v) (cI_u) (by first | omega | exact hB _ (by omega) | exact Nat.lt_of_lt_of_le (hB _ (by omega)) (by omega)) dX6_join_104 (fun H locs hP hD hS => ?_)
    have hP : va_P (dC, dI) vwCl [(ma, .inr (6, [.int (nI n), .ref m1, .ref m2, .ref m3, .int (nI k), .ref m4, .ref m5, .int (nI d), .ref m6, .ref m7, .int (nI dp), .ref m8, .ref m9, .ref mA, .ref mB, .ref mC])), (mB, .inl (kI, 40, .inl (cI (wt_u g v (g v)))))] H := hP
    have hD : va_D AA [(ma, .inr (6, [.int (nI n), .ref m1, .ref m2, .ref m3, .int (nI k), .ref m4, .ref m5, .int (nI d), .ref m6, .ref m7, .int (nI dp), .ref m8, .ref m9, .ref mA, .ref mB, .ref mC])), (mB, .inl (kI, 40, .inl (cI (wt_u g v (g v)))))] := hD
    refine lv_iinc (k := 2) (v := nI (v + 1)) hx hb dX6_join_105 hl rfl cx_inc1 (by decide) rfl (fun ls hl => ?_)
    have hl : lv_has ls 6 [(5, .int (nI (v + 1))), (3, .int (nI (min (f i) (f j)))), (4, .int (nI (max (f i) (f j)))), (0, .ref ma), (1, .int (nI i)), (2, .int (nI j))] := hl
    refine lv_goto (tgt := 66) hx hb dX6_join_108 (by decide) ?_
    exact ih4 (min (f i) (f j)) (max (f i) (f j)) (v + 1) (wt_u g v (g v)) _ _ _ ⟨lv_sub hl [1, 2, 0, 3, 4, 5] rfl, hP, hD, hS, (by first | assumption | omega | rfl), (by first | assumption | omega | rfl), (by first | assumption | omega | rfl), (by first | exact cg_mu_y hg b2 b3 | exact cg_mu_n2 hg b3)⟩ (by show n - (v + 1) < n - v; omega)
  refine lv_iload_n hx hb dX6_join_93 rfl (lv_at hl 0 rfl) ?_
  refine lv_goto (tgt := 104) hx hb dX6_join_94 (by decide) ?_
  refine cx_iast hx hb hK hP hD hS 1 0 rfl rfl (by first | decide | omega) (i := v) (cI_u) (by first | omega | exact hB _ (by omega) | exact Nat.lt_of_lt_of_le (hB _ (by omega)) (by omega)) dX6_join_104 (fun H locs hP hD hS => ?_)
  have hP : va_P (dC, dI) vwCl [(ma, .inr (6, [.int (nI n), .ref m1, .ref m2, .ref m3, .int (nI k), .ref m4, .ref m5, .int (nI d), .ref m6, .ref m7, .int (nI dp), .ref m8, .ref m9, .ref mA, .ref mB, .ref mC])), (mB, .inl (kI, 40, .inl (cI (wt_u g v (min (f i) (f j))))))] H := hP
  have hD : va_D AA [(ma, .inr (6, [.int (nI n), .ref m1, .ref m2, .ref m3, .int (nI k), .ref m4, .ref m5, .int (nI d), .ref m6, .ref m7, .int (nI dp), .ref m8, .ref m9, .ref mA, .ref mB, .ref mC])), (mB, .inl (kI, 40, .inl (cI (wt_u g v (min (f i) (f j))))))] := hD
  refine lv_iinc (k := 2) (v := nI (v + 1)) hx hb dX6_join_105 hl rfl cx_inc1 (by decide) rfl (fun ls hl => ?_)
  have hl : lv_has ls 6 [(5, .int (nI (v + 1))), (3, .int (nI (min (f i) (f j)))), (4, .int (nI (max (f i) (f j)))), (0, .ref ma), (1, .int (nI i)), (2, .int (nI j))] := hl
  refine lv_goto (tgt := 66) hx hb dX6_join_108 (by decide) ?_
  exact ih4 (min (f i) (f j)) (max (f i) (f j)) (v + 1) (wt_u g v (min (f i) (f j))) _ _ _ ⟨lv_sub hl [1, 2, 0, 3, 4, 5] rfl, hP, hD, hS, (by first | assumption | omega | rfl), (by first | assumption | omega | rfl), (by first | assumption | omega | rfl), (by first | exact cg_mu_y hg b2 b3 | exact cg_mu_n2 hg b3)⟩ (by show n - (v + 1) < n - v; omega)

set_option maxHeartbeats 4000000 in
set_option maxRecDepth 100000 in
theorem c_X6_sameArgument (l : Launch) (dC : Nat → ClassId) (dI : Nat → Nat → Nat) (kI kL : ClassId) (ma : Nat) (m1 : Nat) (m2 : Nat) (m3 : Nat) (m4 : Nat) (m5 : Nat) (m6 : Nat) (m7 : Nat) (m8 : Nat) (m9 : Nat) (mA : Nat) (mB : Nat) (mC : Nat) (n : Nat) (k : Nat) (d : Nat) (dp : Nat) (f : Nat → Nat) (x : Nat) (y : Nat) (qn : n ≤ 40) (hB : ∀ u, u < n → f u < n) (qx : x ≤ n) (qy : y ≤ n) : Met l yX6_sameArgument (.code yX6_sameArgument cX6_sameArgument 3 (some .boolean) :: tbw) { frames := 0, cells := 0, slots := 0, locals := 0 } (va_Pc [.ref ma, .int (aI x), .int (aI y)] (cx_R (dC, dI) vwCl [(ma, .inr (6, [.int (nI n), .ref m1, .ref m2, .ref m3, .int (nI k), .ref m4, .ref m5, .int (nI d), .ref m6, .ref m7, .int (nI dp), .ref m8, .ref m9, .ref mA, .ref mB, .ref mC])), (mB, .inl (kI, 40, .inl (cI f)))] [(kI, .int), (kL, .long)])) (vp_Si (fun r => r = bI (decide (cg_ar f x = cg_ar f y)))) 0 0 (fun _ => False) := by
  refine Met.ofW (cc := cX6_sameArgument) (maxL := 3) (ret := (some .boolean)) (by decide) rfl ?_
  intro p e s m args below meth c s₁ B hml hv
  obtain ⟨rfl, hP, hK⟩ := hv
  have hx := B.exec
  have hb := B.bytes
  have hr := B.returns
  have hts := atoms_spec (ws := .code yX6_sameArgument cX6_sameArgument 3 (some .boolean) :: tbw) B.pre
  have hw : ∀ w ∈ tbw, w.before _ s = true := fun w h => hts w (List.mem_cons_of_mem _ h)
  have hown : s.vm.findClass RX6 = some m.cls := findClass_of_methodNamed B.named
  have hP : va_P (dC, dI) vwCl [(ma, .inr (6, [.int (nI n), .ref m1, .ref m2, .ref m3, .int (nI k), .ref m4, .ref m5, .int (nI d), .ref m6, .ref m7, .int (nI dp), .ref m8, .ref m9, .ref mA, .ref mB, .ref mC])), (mB, .inl (kI, 40, .inl (cI f)))] s.heap := hP
  have hl := lv_entry ([.ref ma, .int (aI x), .int (aI y)]) (n := 3) (Nat.le_of_ble_eq_true rfl)
  rw [lg_entry_eq]
  generalize (lg_sl ([.ref ma, .int (aI x), .int (aI y)]) ++ List.replicate (3 - (lg_sl ([.ref ma, .int (aI x), .int (aI y)])).length) Slot.unset).toArray = ls at hl ⊢
  have hl : lv_has ls 3 [(0, .ref ma), (1, .int (aI x)), (2, .int (aI y))] := hl
  refine lv_iload_n hx hb dX6_sameArgument_0 rfl (lv_at hl 1 rfl) ?_
  refine cx_alt (x := x) (tgt := 8) hx hb dX6_sameArgument_1 (by decide) (by first | omega | exact hB _ (by omega) | exact Nat.lt_of_lt_of_le (hB _ (by omega)) (by omega)) (fun b0 => ?_) (fun b0 => ?_)
  · skip
    refine lv_iload_n hx hb dX6_sameArgument_8 rfl (lv_at hl 1 rfl) ?_
    refine lv_iload_n hx hb dX6_sameArgument_9 rfl (lv_at hl 2 rfl) ?_
    refine cx_ane (x := x) (y := y) (tgt := 17) hx hb dX6_sameArgument_10 (by decide) (by first | omega | exact hB _ (by omega) | exact Nat.lt_of_lt_of_le (hB _ (by omega)) (by omega)) (by first | omega | exact hB _ (by omega) | exact Nat.lt_of_lt_of_le (hB _ (by omega)) (by omega)) (fun b2 => ?_) (fun b2 => ?_)
    · skip
      refine lv_iconst (v := nI 0) hx hb dX6_sameArgument_17 (by decide) ?_
      refine lv_goto (tgt := 41) hx hb dX6_sameArgument_18 (by decide) ?_
      exact W.zret (v := nI 0) hx hb hr (cx_narB false) (fun t ht hW => ⟨_, rfl, by first | exact cx_bf (cg_ar_ne (by omega) b2) | exact cx_bf (fun h => b3 (cg_ar_s.mp h)), ht⟩) (fun _ h9 => by cases h9) dX6_sameArgument_41
    refine lv_iconst (v := nI 1) hx hb dX6_sameArgument_13 (by decide) ?_
    refine lv_goto (tgt := 41) hx hb dX6_sameArgument_14 (by decide) ?_
    exact W.zret (v := nI 1) hx hb hr (cx_narB true) (fun t ht hW => ⟨_, rfl, by first | exact cx_bt (by rw [b2]) | exact cx_bt (cg_ar_s.mpr b3), ht⟩) (fun _ h9 => by cases h9) dX6_sameArgument_41
  refine lv_iload_n hx hb dX6_sameArgument_4 rfl (lv_at hl 2 rfl) ?_
  refine cx_age (x := y) (tgt := 21) hx hb dX6_sameArgument_5 (by decide) (by first | omega | exact hB _ (by omega) | exact Nat.lt_of_lt_of_le (hB _ (by omega)) (by omega)) (fun b1 => ?_) (fun b1 => ?_)
  · skip
    obtain ⟨x1, rfl⟩ := cx_suc b0
    obtain ⟨y1, rfl⟩ := cx_suc b1
    refine lv_aload_n hx hb dX6_sameArgument_21 rfl (lv_at hl 0 rfl) ?_
    refine va_get (D := (dC, dI)) (ci := 6) (v := .ref mB) (C := RX6) (T := TX6) (N := 16) hx hb hts (tb_c tbX6) hown hK hP 0 rfl rfl 14 (by decide) (hw _ tw_355) (fun _ h9 => h9) rfl dX6_sameArgument_22 ?_
    refine lv_iload_n hx hb dX6_sameArgument_25 rfl (lv_at hl 1 rfl) ?_
    refine cx_iald hx hb hK hP 1 0 rfl rfl (by first | decide | omega) (v := nI (f x1)) (i := x1) rfl (by first | omega | exact hB _ (by omega) | exact Nat.lt_of_lt_of_le (hB _ (by omega)) (by omega)) dX6_sameArgument_26 ?_
    refine lv_aload_n hx hb dX6_sameArgument_27 rfl (lv_at hl 0 rfl) ?_
    refine va_get (D := (dC, dI)) (ci := 6) (v := .ref mB) (C := RX6) (T := TX6) (N := 16) hx hb hts (tb_c tbX6) hown hK hP 0 rfl rfl 14 (by decide) (hw _ tw_355) (fun _ h9 => h9) rfl dX6_sameArgument_28 ?_
    refine lv_iload_n hx hb dX6_sameArgument_31 rfl (lv_at hl 2 rfl) ?_
    refine cx_iald hx hb hK hP 1 0 rfl rfl (by first | decide | omega) (v := nI (f y1)) (i := y1) rfl (by first | omega | exact hB _ (by omega) | exact Nat.lt_of_lt_of_le (hB _ (by omega)) (by omega)) dX6_sameArgument_32 ?_
    refine cx_ne (x := (f x1)) (y := (f y1)) (tgt := 40) hx hb dX6_sameArgument_33 (by decide) (by first | omega | exact hB _ (by omega) | exact Nat.lt_of_lt_of_le (hB _ (by omega)) (by omega)) (by first | omega | exact hB _ (by omega) | exact Nat.lt_of_lt_of_le (hB _ (by omega)) (by omega)) (fun b3 => ?_) (fun b3 => ?_)
    · skip
      refine lv_iconst (v := nI 0) hx hb dX6_sameArgument_40 (by decide) ?_
      exact W.zret (v := nI 0) hx hb hr (cx_narB false) (fun t ht hW => ⟨_, rfl, by first | exact cx_bf (cg_ar_ne (by omega) b2) | exact cx_bf (fun h => b3 (cg_ar_s.mp h)), ht⟩) (fun _ h9 => by cases h9) dX6_sameArgument_41
    refine lv_iconst (v := nI 1) hx hb dX6_sameArgument_36 (by decide) ?_
    refine lv_goto (tgt := 41) hx hb dX6_sameArgument_37 (by decide) ?_
    exact W.zret (v := nI 1) hx hb hr (cx_narB true) (fun t ht hW => ⟨_, rfl, by first | exact cx_bt (by rw [b2]) | exact cx_bt (cg_ar_s.mpr b3), ht⟩) (fun _ h9 => by cases h9) dX6_sameArgument_41
  refine lv_iload_n hx hb dX6_sameArgument_8 rfl (lv_at hl 1 rfl) ?_
  refine lv_iload_n hx hb dX6_sameArgument_9 rfl (lv_at hl 2 rfl) ?_
  refine cx_ane (x := x) (y := y) (tgt := 17) hx hb dX6_sameArgument_10 (by decide) (by first | omega | exact hB _ (by omega) | exact Nat.lt_of_lt_of_le (hB _ (by omega)) (by omega)) (by first | omega | exact hB _ (by omega) | exact Nat.lt_of_lt_of_le (hB _ (by omega)) (by omega)) (fun b2 => ?_) (fun b2 => ?_)
  · skip
    refine lv_iconst (v := nI 0) hx hb dX6_sameArgument_17 (by decide) ?_
    refine lv_goto (tgt := 41) hx hb dX6_sameArgument_18 (by decide) ?_
    exact W.zret (v := nI 0) hx hb hr (cx_narB false) (fun t ht hW => ⟨_, rfl, by first | exact cx_bf (cg_ar_ne (by omega) b2) | exact cx_bf (fun h => b3 (cg_ar_s.mp h)), ht⟩) (fun _ h9 => by cases h9) dX6_sameArgument_41
  refine lv_iconst (v := nI 1) hx hb dX6_sameArgument_13 (by decide) ?_
  refine lv_goto (tgt := 41) hx hb dX6_sameArgument_14 (by decide) ?_
  exact W.zret (v := nI 1) hx hb hr (cx_narB true) (fun t ht hW => ⟨_, rfl, by first | exact cx_bt (by rw [b2]) | exact cx_bt (cg_ar_s.mpr b3), ht⟩) (fun _ h9 => by cases h9) dX6_sameArgument_41
