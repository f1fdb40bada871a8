set_option maxHeartbeats 4000000 in
set_option maxRecDepth 100000 in
theorem c_X2_joins (l : Launch) (dC : Nat → ClassId) (dI : Nat → Nat → Nat) (kI kL : ClassId) (zc : Nat) (zd : Nat) (f : Nat → Nat) (n : Nat) (i : Nat) (j : Nat) (qn : n ≤ 40) (hB : ∀ u, u < n → f u < n) (qi : i < n) (qj : j < n) : Met l yX2_joins (.code yX2_joins cX2_joins 3 (some .boolean) :: tbw) { frames := 0, cells := 0, slots := 0, locals := 0 } (va_Pc [.ref zc, .int (nI i), .int (nI j)] (cx_R (dC, dI) vwCl [(zc, .inr (2, [.ref zd])), (zd, .inl (kI, 40, .inl (cI f)))] [(kI, .int), (kL, .long)])) (vp_Si (fun r => r = bI (decide (f i = f j)))) 0 0 (fun _ => False) := by
  refine Met.ofW (cc := cX2_joins) (maxL := 3) (ret := (some .boolean)) (by decide) rfl ?_
  intro p e s m args below meth c s₁ B hml hv
  obtain ⟨rfl, hP, hK⟩ := hv
  have hx := B.exec
  have hb := B.bytes
  have hr := B.returns
  have hts := atoms_spec (ws := .code yX2_joins cX2_joins 3 (some .boolean) :: tbw) B.pre
  have hw : ∀ w ∈ tbw, w.before _ s = true := fun w h => hts w (List.mem_cons_of_mem _ h)
  have hown : s.vm.findClass RX2 = some m.cls := findClass_of_methodNamed B.named
  have hP : va_P (dC, dI) vwCl [(zc, .inr (2, [.ref zd])), (zd, .inl (kI, 40, .inl (cI f)))] s.heap := hP
  have hl := lv_entry ([.ref zc, .int (nI i), .int (nI j)]) (n := 3) (Nat.le_of_ble_eq_true rfl)
  rw [lg_entry_eq]
  generalize (lg_sl ([.ref zc, .int (nI i), .int (nI j)]) ++ List.replicate (3 - (lg_sl ([.ref zc, .int (nI i), .int (nI j)])).length) Slot.unset).toArray = ls at hl ⊢
  have hl : lv_has ls 3 [(0, .ref zc), (1, .int (nI i)), (2, .int (nI j))] := hl
  refine lv_aload_n hx hb dX2_joins_0 rfl (lv_at hl 0 rfl) ?_
  refine va_get (D := (dC, dI)) (ci := 2) (v := .ref zd) (C := RX2) (T := TX2) (N := 1) hx hb hts (tb_c tbX2) hown hK hP 0 rfl rfl 0 (by decide) (hw _ tw_98) (fun _ h9 => h9) rfl dX2_joins_1 ?_
  refine lv_iload_n hx hb dX2_joins_4 rfl (lv_at hl 1 rfl) ?_
  refine cx_iald hx hb hK hP 1 0 rfl rfl (by first | decide | omega) (v := nI (f i)) (i := i) rfl (by first | omega | exact hB _ (by omega) | exact Nat.lt_of_lt_of_le (hB _ (by omega)) (by omega)) dX2_joins_5 ?_
  refine lv_aload_n hx hb dX2_joins_6 rfl (lv_at hl 0 rfl) ?_
  refine va_get (D := (dC, dI)) (ci := 2) (v := .ref zd) (C := RX2) (T := TX2) (N := 1) hx hb hts (tb_c tbX2) hown hK hP 0 rfl rfl 0 (by decide) (hw _ tw_98) (fun _ h9 => h9) rfl dX2_joins_7 ?_
  refine lv_iload_n hx hb dX2_joins_10 rfl (lv_at hl 2 rfl) ?_
  refine cx_iald hx hb hK hP 1 0 rfl rfl (by first | decide | omega) (v := nI (f j)) (i := j) rfl (by first | omega | exact hB _ (by omega) | exact Nat.lt_of_lt_of_le (hB _ (by omega)) (by omega)) dX2_joins_11 ?_
  refine cx_ne (x := (f i)) (y := (f j)) (tgt := 19) hx hb dX2_joins_12 (by decide) (by first | omega | exact hB _ (by omega) | exact Nat.lt_of_lt_of_le (hB _ (by omega)) (by omega)) (by first | omega | exact hB _ (by omega) | exact Nat.lt_of_lt_of_le (hB _ (by omega)) (by omega)) (fun b0 => ?_) (fun b0 => ?_)
  · skip
    refine lv_iconst (v := nI 0) hx hb dX2_joins_19 (by decide) ?_
    exact W.zret (v := nI 0) hx hb hr (cx_narB false) (fun t ht hW => ⟨_, rfl, cx_bf (by first | assumption | omega | (simp_all; done)), ht⟩) (fun _ h9 => by cases h9) dX2_joins_20
  refine lv_iconst (v := nI 1) hx hb dX2_joins_15 (by decide) ?_
  refine lv_goto (tgt := 20) hx hb dX2_joins_16 (by decide) ?_
  exact W.zret (v := nI 1) hx hb hr (cx_narB true) (fun t ht hW => ⟨_, rfl, cx_bt (by first | assumption | omega | (simp_all; done)), ht⟩) (fun _ h9 => by cases h9) dX2_joins_20

set_option maxHeartbeats 4000000 in
set_option maxRecDepth 100000 in
theorem c_X2_classCount (l : Launch) (dC : Nat → ClassId) (dI : Nat → Nat → Nat) (kI kL : ClassId) (zc : Nat) (zd : Nat) (f : Nat → Nat) (n : Nat) (qn : n ≤ 40) (hB : ∀ u, u < n → f u < n) : Met l yX2_classCount (.code yX2_classCount cX2_classCount 4 (some .int) :: tbw) { frames := 0, cells := 0, slots := 0, locals := 0 } (va_Pc [.ref zc, .int (nI n)] (cx_R (dC, dI) vwCl [(zc, .inr (2, [.ref zd])), (zd, .inl (kI, 40, .inl (cI f)))] [(kI, .int), (kL, .long)])) (vp_Si (fun r => r = nI (cg_cn f n))) 0 0 (fun _ => False) := by
  refine Met.ofW (cc := cX2_classCount) (maxL := 4) (ret := (some .int)) (by decide) rfl ?_
  intro p e s m args below meth c s₁ B hml hv
  obtain ⟨rfl, hP, hK⟩ := hv
  have hx := B.exec
  have hb := B.bytes
  have hr := B.returns
  have hts := atoms_spec (ws := .code yX2_classCount cX2_classCount 4 (some .int) :: tbw) B.pre
  have hw : ∀ w ∈ tbw, w.before _ s = true := fun w h => hts w (List.mem_cons_of_mem _ h)
  have hown : s.vm.findClass RX2 = some m.cls := findClass_of_methodNamed B.named
  have hP : va_P (dC, dI) vwCl [(zc, .inr (2, [.ref zd])), (zd, .inl (kI, 40, .inl (cI f)))] s.heap := hP
  have hl := lv_entry ([.ref zc, .int (nI n)]) (n := 4) (Nat.le_of_ble_eq_true rfl)
  rw [lg_entry_eq]
  generalize (lg_sl ([.ref zc, .int (nI n)]) ++ List.replicate (4 - (lg_sl ([.ref zc, .int (nI n)])).length) Slot.unset).toArray = ls at hl ⊢
  have hl : lv_has ls 4 [(0, .ref zc), (1, .int (nI n))] := hl
  refine lv_iconst (v := nI 0) hx hb dX2_classCount_0 (by decide) ?_
  refine lv_istore_n hx hb dX2_classCount_1 rfl hl (by decide) rfl (fun ls hl => ?_)
  have hl : lv_has ls 4 [(2, .int (nI 0)), (0, .ref zc), (1, .int (nI n))] := hl
  refine lv_iconst (v := nI 0) hx hb dX2_classCount_2 (by decide) ?_
  refine lv_istore_n hx hb dX2_classCount_3 rfl hl (by decide) rfl (fun ls hl => ?_)
  have hl : lv_has ls 4 [(3, .int (nI 0)), (2, .int (nI 0)), (0, .ref zc), (1, .int (nI n))] := hl
  refine cx_loopR2 (fun (v : Nat) (ct : Nat) (ls : Array Slot) => lv_has ls 4 [(2, .int (nI ct)), (3, .int (nI v)), (0, .ref zc), (1, .int (nI n))] ∧ (ct = cg_cn f v) ∧ (v ≤ n)) (fun v ct => n - v) (fun v ct ls hI ih1 => ?_) 0 0 ⟨lv_sub hl [1, 0, 2, 3] rfl, (rfl), (by first | assumption | omega | rfl)⟩
  obtain ⟨hl, hc, hv1⟩ := hI
  refine lv_iload_n hx hb dX2_classCount_4 rfl (lv_at hl 1 rfl) ?_
  refine lv_iload_n hx hb dX2_classCount_5 rfl (lv_at hl 3 rfl) ?_
  refine cx_ge (x := v) (y := n) (tgt := 28) hx hb dX2_classCount_6 (by decide) (by first | omega | exact hB _ (by omega) | exact Nat.lt_of_lt_of_le (hB _ (by omega)) (by omega)) (by first | omega | exact hB _ (by omega) | exact Nat.lt_of_lt_of_le (hB _ (by omega)) (by omega)) (fun b0 => ?_) (fun b0 => ?_)
  · skip
    refine lv_iload_n hx hb dX2_classCount_28 rfl (lv_at hl 0 rfl) ?_
    exact W.iret (v := nI ct) hx hb hr (fun t ht hW => ⟨_, rfl, by rw [hc, Nat.le_antisymm hv1 b0], ht⟩) (fun _ h9 => by cases h9) dX2_classCount_29
  refine lv_aload_n hx hb dX2_classCount_9 rfl (lv_at hl 2 rfl) ?_
  refine va_get (D := (dC, dI)) (ci := 2) (v := .ref zd) (C := RX2) (T := TX2) (N := 1) hx hb hts (tb_c tbX2) hown hK hP 0 rfl rfl 0 (by decide) (hw _ tw_98) (fun _ h9 => h9) rfl dX2_classCount_10 ?_
  refine lv_iload_n hx hb dX2_classCount_13 rfl (lv_at hl 1 rfl) ?_
  refine cx_iald hx hb hK hP 1 0 rfl rfl (by first | decide | omega) (v := nI (f v)) (i := v) rfl (by first | omega | exact hB _ (by omega) | exact Nat.lt_of_lt_of_le (hB _ (by omega)) (by omega)) dX2_classCount_14 ?_
  refine lv_iload_n hx hb dX2_classCount_15 rfl (lv_at hl 1 rfl) ?_
  refine cx_ne (x := (f v)) (y := v) (tgt := 22) hx hb dX2_classCount_16 (by decide) (by first | omega | exact hB _ (by omega) | exact Nat.lt_of_lt_of_le (hB _ (by omega)) (by omega)) (by first | omega | exact hB _ (by omega) | exact Nat.lt_of_lt_of_le (hB _ (by omega)) (by omega)) (fun b1 => ?_) (fun b1 => ?_)
  · skip
    refine lv_iinc (k := 1) (v := nI (v + 1)) hx hb dX2_classCount_22 hl rfl cx_inc1 (by decide) rfl (fun ls hl => ?_)
    have hl : lv_has ls 4 [(3, .int (nI (v + 1))), (2, .int (nI ct)), (0, .ref zc), (1, .int (nI n))] := hl
    refine lv_goto (tgt := 4) hx hb dX2_classCount_25 (by decide) ?_
    exact ih1 (v + 1) ct _ ⟨lv_sub hl [1, 0, 2, 3] rfl, (by first | exact cg_cn_y hc b1 | exact cg_cn_n hc b1), (by first | assumption | omega | rfl)⟩ (by show n - (v + 1) < n - v; omega)
  refine lv_iinc (k := 0) (v := nI (ct + 1)) hx hb dX2_classCount_19 hl rfl cx_inc1 (by decide) rfl (fun ls hl => ?_)
  have hl : lv_has ls 4 [(2, .int (nI (ct + 1))), (3, .int (nI v)), (0, .ref zc), (1, .int (nI n))] := hl
  refine lv_iinc (k := 1) (v := nI (v + 1)) hx hb dX2_classCount_22 hl rfl cx_inc1 (by decide) rfl (fun ls hl => ?_)
  have hl : lv_has ls 4 [(3, .int (nI (v + 1))), (2, .int (nI (ct + 1))), (0, .ref zc), (1, .int (nI n))] := hl
  refine lv_goto (tgt := 4) hx hb dX2_classCount_25 (by decide) ?_
  exact ih1 (v + 1) (ct + 1) _ ⟨lv_sub hl [1, 0, 2, 3] rfl, (by first | exact cg_cn_y hc b1 | exact cg_cn_n hc b1), (by first | assumption | omega | rfl)⟩ (by show n - (v + 1) < n - v; omega)

set_option maxHeartbeats 4000000 in
set_option maxRecDepth 100000 in
theorem c_X2_sameArgument (l : Launch) (dC : Nat → ClassId) (dI : Nat → Nat → Nat) (kI kL : ClassId) (zc : Nat) (zd : Nat) (f : Nat → Nat) (n : Nat) (x : Nat) (y : Nat) (qn : n ≤ 40) (hB : ∀ u, u < n → f u < n) (qx : x ≤ n) (qy : y ≤ n) : Met l yX2_sameArgument (.code yX2_sameArgument cX2_sameArgument 3 (some .boolean) :: tbw) { frames := 1, cells := 0, slots := 0, locals := 22 } (va_Pc [.ref zc, .int (aI x), .int (aI y)] (cx_R (dC, dI) vwCl [(zc, .inr (2, [.ref zd])), (zd, .inl (kI, 40, .inl (cI f)))] [(kI, .int), (kL, .long)])) (vp_Si (fun r => r = bI (decide (cg_ar f x = cg_ar f y)))) 0 0 (fun _ => False) := by
  refine Met.ofW (cc := cX2_sameArgument) (maxL := 3) (ret := (some .boolean)) (by decide) rfl ?_
  intro p e s m args below meth c s₁ B hml hv
  obtain ⟨rfl, hP, hK⟩ := hv
  have hx := B.exec
  have hb := B.bytes
  have hr := B.returns
  have hts := atoms_spec (ws := .code yX2_sameArgument cX2_sameArgument 3 (some .boolean) :: tbw) B.pre
  have hw : ∀ w ∈ tbw, w.before _ s = true := fun w h => hts w (List.mem_cons_of_mem _ h)
  have hown : s.vm.findClass RX2 = some m.cls := findClass_of_methodNamed B.named
  have hP : va_P (dC, dI) vwCl [(zc, .inr (2, [.ref zd])), (zd, .inl (kI, 40, .inl (cI f)))] s.heap := hP
  have hl := lv_entry ([.ref zc, .int (aI x), .int (aI y)]) (n := 3) (Nat.le_of_ble_eq_true rfl)
  rw [lg_entry_eq]
  generalize (lg_sl ([.ref zc, .int (aI x), .int (aI y)]) ++ List.replicate (3 - (lg_sl ([.ref zc, .int (aI x), .int (aI y)])).length) Slot.unset).toArray = ls at hl ⊢
  have hl : lv_has ls 3 [(0, .ref zc), (1, .int (aI x)), (2, .int (aI y))] := hl
  refine lv_iload_n hx hb dX2_sameArgument_0 rfl (lv_at hl 1 rfl) ?_
  refine lv_iconst (v := (-1)) hx hb dX2_sameArgument_1 (by decide) ?_
  refine cx_aeq (x := x) (y := 0) (tgt := 10) hx hb dX2_sameArgument_2 (by decide) (by first | omega | exact hB _ (by omega) | exact Nat.lt_of_lt_of_le (hB _ (by omega)) (by omega)) (by first | omega | exact hB _ (by omega) | exact Nat.lt_of_lt_of_le (hB _ (by omega)) (by omega)) (fun b0 => ?_) (fun b0 => ?_)
  · skip
    refine lv_iload_n hx hb dX2_sameArgument_10 rfl (lv_at hl 1 rfl) ?_
    refine lv_iload_n hx hb dX2_sameArgument_11 rfl (lv_at hl 2 rfl) ?_
    refine cx_ane (x := x) (y := y) (tgt := 19) hx hb dX2_sameArgument_12 (by decide) (by first | omega | exact hB _ (by omega) | exact Nat.lt_of_lt_of_le (hB _ (by omega)) (by omega)) (by first | omega | exact hB _ (by omega) | exact Nat.lt_of_lt_of_le (hB _ (by omega)) (by omega)) (fun b2 => ?_) (fun b2 => ?_)
    · skip
      refine lv_iconst (v := nI 0) hx hb dX2_sameArgument_19 (by decide) ?_
      exact W.zret (v := nI 0) hx hb hr (cx_narB false) (fun t ht hW => ⟨_, rfl, cx_bf (cg_ar_ne (by omega) b2), ht⟩) (fun _ h9 => by cases h9) dX2_sameArgument_20
    refine lv_iconst (v := nI 1) hx hb dX2_sameArgument_15 (by decide) ?_
    refine lv_goto (tgt := 20) hx hb dX2_sameArgument_16 (by decide) ?_
    exact W.zret (v := nI 1) hx hb hr (cx_narB true) (fun t ht hW => ⟨_, rfl, cx_bt (by rw [b2]), ht⟩) (fun _ h9 => by cases h9) dX2_sameArgument_20
  refine lv_iload_n hx hb dX2_sameArgument_5 rfl (lv_at hl 2 rfl) ?_
  refine lv_iconst (v := (-1)) hx hb dX2_sameArgument_6 (by decide) ?_
  refine cx_ane (x := y) (y := 0) (tgt := 21) hx hb dX2_sameArgument_7 (by decide) (by first | omega | exact hB _ (by omega) | exact Nat.lt_of_lt_of_le (hB _ (by omega)) (by omega)) (by first | omega | exact hB _ (by omega) | exact Nat.lt_of_lt_of_le (hB _ (by omega)) (by omega)) (fun b1 => ?_) (fun b1 => ?_)
  · skip
    obtain ⟨x1, rfl⟩ := cx_suc b0
    obtain ⟨y1, rfl⟩ := cx_suc b1
    refine lv_aload_n hx hb dX2_sameArgument_21 rfl (lv_at hl 0 rfl) ?_
    refine lv_iload_n hx hb dX2_sameArgument_22 rfl (lv_at hl 1 rfl) ?_
    refine lv_iload_n hx hb dX2_sameArgument_23 rfl (lv_at hl 2 rfl) ?_
    refine cx_si (va_runV (As := [.int (nI x1), .int (nI y1)]) (rest := []) ⟨hx, hb, hml, hown, hts⟩ (c_X2_joins l dC dI kI kL zc zd f n x1 y1 (by first | assumption | omega | rfl) (by first | assumption | omega | rfl) (by first | assumption | omega | rfl) (by first | assumption | omega | rfl)) (cwV 2 hts gv_X2_30 rfl rfl rfl hdX2_joins ⟨Nat.le_of_ble_eq_true rfl, Nat.le_of_ble_eq_true rfl⟩) (cx_preV (hP.sub (ws' := [(zc, .inr (2, [.ref zd])), (zd, .inl (kI, 40, .inl (cI f)))]) [0, 1] rfl) hK rfl (q0 := 0) rfl) rfl rfl hl.1 rfl (lv_room (Nat.le_of_ble_eq_true rfl)) dX2_sameArgument_24 ⟨Nat.zero_le _, Nat.zero_le _⟩) (fun r hres => ?_)
    subst hres
    exact W.zret (v := bI (decide (f x1 = f y1))) hx hb hr (cx_narB _) (fun t ht hW => ⟨_, rfl, cx_ars, ht⟩) (fun _ h9 => by cases h9) dX2_sameArgument_27
  refine lv_iload_n hx hb dX2_sameArgument_10 rfl (lv_at hl 1 rfl) ?_
  refine lv_iload_n hx hb dX2_sameArgument_11 rfl (lv_at hl 2 rfl) ?_
  refine cx_ane (x := x) (y := y) (tgt := 19) hx hb dX2_sameArgument_12 (by decide) (by first | omega | exact hB _ (by omega) | exact Nat.lt_of_lt_of_le (hB _ (by omega)) (by omega)) (by first | omega | exact hB _ (by omega) | exact Nat.lt_of_lt_of_le (hB _ (by omega)) (by omega)) (fun b2 => ?_) (fun b2 => ?_)
  · skip
    refine lv_iconst (v := nI 0) hx hb dX2_sameArgument_19 (by decide) ?_
    exact W.zret (v := nI 0) hx hb hr (cx_narB false) (fun t ht hW => ⟨_, rfl, cx_bf (cg_ar_ne (by omega) b2), ht⟩) (fun _ h9 => by cases h9) dX2_sameArgument_20
  refine lv_iconst (v := nI 1) hx hb dX2_sameArgument_15 (by decide) ?_
  refine lv_goto (tgt := 20) hx hb dX2_sameArgument_16 (by decide) ?_
  exact W.zret (v := nI 1) hx hb hr (cx_narB true) (fun t ht hW => ⟨_, rfl, cx_bt (by rw [b2]), ht⟩) (fun _ h9 => by cases h9) dX2_sameArgument_20

set_option maxHeartbeats 4000000 in
set_option maxRecDepth 100000 in
theorem c_X2_fits (l : Launch) (dC : Nat → ClassId) (dI : Nat → Nat → Nat) (kI kL : ClassId) (zc : Nat) (zd : Nat) (f : Nat → Nat) (zt : Nat) (zs : Nat) (zf : Nat) (ze : Nat) (n : Nat) (S : Nat → Int32) (F : Nat → Nat) (E : Nat → Nat) (u : Nat) (sy : Int32) (x : Nat) (y : Nat) (qn : n ≤ 40) (hB : ∀ u, u < n → f u < n) (qw : cg_wf (S, F, E) n) (qu : u < n) (qx : x ≤ n) (qy : y ≤ n) : Met l yX2_fits (.code yX2_fits cX2_fits 6 (some .boolean) :: tbw) { frames := 2, cells := 0, slots := 0, locals := 44 } (va_Pc [.ref zc, .ref zt, .int (nI u), .int sy, .int (aI x), .int (aI y)] (cx_R (dC, dI) vwCl [(zc, .inr (2, [.ref zd])), (zd, .inl (kI, 40, .inl (cI f))), (zt, .inr (3, [.ref zs, .ref zf, .ref ze, .int (nI n)])), (zs, .inl (kI, 40, .inl S)), (zf, .inl (kI, 40, .inl (cA F))), (ze, .inl (kI, 40, .inl (cA E)))] [(kI, .int), (kL, .long)])) (vp_Si (fun r => r = bI (decide (S u = sy ∧ cg_ar f (F u) = cg_ar f x ∧ cg_ar f (E u) = cg_ar f y)))) 0 0 (fun _ => False) := by
  refine Met.ofW (cc := cX2_fits) (maxL := 6) (ret := (some .boolean)) (by decide) rfl ?_
  intro p e s m args below meth c s₁ B hml hv
  obtain ⟨rfl, hP, hK⟩ := hv
  have hx := B.exec
  have hb := B.bytes
  have hr := B.returns
  have hts := atoms_spec (ws := .code yX2_fits cX2_fits 6 (some .boolean) :: tbw) B.pre
  have hw : ∀ w ∈ tbw, w.before _ s = true := fun w h => hts w (List.mem_cons_of_mem _ h)
  have hown : s.vm.findClass RX2 = some m.cls := findClass_of_methodNamed B.named
  have hP : va_P (dC, dI) vwCl [(zc, .inr (2, [.ref zd])), (zd, .inl (kI, 40, .inl (cI f))), (zt, .inr (3, [.ref zs, .ref zf, .ref ze, .int (nI n)])), (zs, .inl (kI, 40, .inl S)), (zf, .inl (kI, 40, .inl (cA F))), (ze, .inl (kI, 40, .inl (cA E)))] s.heap := hP
  have hl := lv_entry ([.ref zc, .ref zt, .int (nI u), .int sy, .int (aI x), .int (aI y)]) (n := 6) (Nat.le_of_ble_eq_true rfl)
  rw [lg_entry_eq]
  generalize (lg_sl ([.ref zc, .ref zt, .int (nI u), .int sy, .int (aI x), .int (aI y)]) ++ List.replicate (6 - (lg_sl ([.ref zc, .ref zt, .int (nI u), .int sy, .int (aI x), .int (aI y)])).length) Slot.unset).toArray = ls at hl ⊢
  have hl : lv_has ls 6 [(0, .ref zc), (1, .ref zt), (2, .int (nI u)), (3, .int sy), (4, .int (aI x)), (5, .int (aI y))] := hl
  refine lv_aload_n hx hb dX2_fits_0 rfl (lv_at hl 1 rfl) ?_
  refine va_get (D := (dC, dI)) (ci := 3) (v := .ref zs) (C := RX3) (T := TX3) (N := 4) hx hb hts (tb_c tbX3) hown hK hP 2 rfl rfl 0 (by decide) (hw _ tw_25) (fun _ h9 => h9) rfl dX2_fits_1 ?_
  refine lv_iload_n hx hb dX2_fits_4 rfl (lv_at hl 2 rfl) ?_
  refine cx_iald hx hb hK hP 3 0 rfl rfl (by first | decide | omega) (v := (S u)) (i := u) rfl (by first | omega | exact hB _ (by omega) | exact Nat.lt_of_lt_of_le (hB _ (by omega)) (by omega)) dX2_fits_5 ?_
  refine lv_iload_n hx hb dX2_fits_6 rfl (lv_at hl 3 rfl) ?_
  refine lv_icmp_ne (tgt := 44) hx hb dX2_fits_7 (by decide) (fun b0 => ?_) (fun b0 => ?_)
  · skip
    refine lv_iconst (v := nI 0) hx hb dX2_fits_44 (by decide) ?_
    exact W.zret (v := nI 0) hx hb hr (cx_narB false) (fun t ht hW => ⟨_, rfl, cx_bf (by first | exact fun h => b0 h.1 | exact fun h => of_decide_eq_false b1 h.2.1 | exact fun h => of_decide_eq_false b2 h.2.2), ht⟩) (fun _ h9 => by cases h9) dX2_fits_45
  refine lv_aload_n hx hb dX2_fits_10 rfl (lv_at hl 0 rfl) ?_
  refine lv_aload_n hx hb dX2_fits_11 rfl (lv_at hl 1 rfl) ?_
  refine va_get (D := (dC, dI)) (ci := 3) (v := .ref zf) (C := RX3) (T := TX3) (N := 4) hx hb hts (tb_c tbX3) hown hK hP 2 rfl rfl 1 (by decide) (hw _ tw_29) (fun _ h9 => h9) rfl dX2_fits_12 ?_
  refine lv_iload_n hx hb dX2_fits_15 rfl (lv_at hl 2 rfl) ?_
  refine cx_iald hx hb hK hP 4 0 rfl rfl (by first | decide | omega) (v := aI (F u)) (i := u) rfl (by first | omega | exact hB _ (by omega) | exact Nat.lt_of_lt_of_le (hB _ (by omega)) (by omega)) dX2_fits_16 ?_
  refine lv_iload hx hb dX2_fits_17 (lv_at hl 4 rfl) ?_
  refine cx_si (va_runV (As := [.int (aI (F u)), .int (aI x)]) (rest := []) ⟨hx, hb, hml, hown, hts⟩ (c_X2_sameArgument l dC dI kI kL zc zd f n (F u) x (by first | assumption | omega | rfl) (by first | assumption | omega | rfl) (by have := qw u qu; simp only at this; omega) (by first | assumption | omega | rfl)) (cwV 2 hts gv_X2_23 rfl rfl rfl hdX2_sameArgument ⟨Nat.le_of_ble_eq_true rfl, Nat.le_of_ble_eq_true rfl⟩) (cx_preV (hP.sub (ws' := [(zc, .inr (2, [.ref zd])), (zd, .inl (kI, 40, .inl (cI f)))]) [0, 1] rfl) hK rfl (q0 := 0) rfl) rfl rfl hl.1 rfl (lv_room (Nat.le_of_ble_eq_true rfl)) dX2_fits_19 ⟨Nat.zero_le _, Nat.zero_le _⟩) (fun r hres => ?_)
  subst hres
  refine cx_if0 (tgt := 44) hx hb dX2_fits_22 (by decide) (fun b1 => ?_) (fun b1 => ?_)
  · skip
    refine lv_iconst (v := nI 0) hx hb dX2_fits_44 (by decide) ?_
    exact W.zret (v := nI 0) hx hb hr (cx_narB false) (fun t ht hW => ⟨_, rfl, cx_bf (by first | exact fun h => b0 h.1 | exact fun h => of_decide_eq_false b1 h.2.1 | exact fun h => of_decide_eq_false b2 h.2.2), ht⟩) (fun _ h9 => by cases h9) dX2_fits_45
  refine lv_aload_n hx hb dX2_fits_25 rfl (lv_at hl 0 rfl) ?_
  refine lv_aload_n hx hb dX2_fits_26 rfl (lv_at hl 1 rfl) ?_
  refine va_get (D := (dC, dI)) (ci := 3) (v := .ref ze) (C := RX3) (T := TX3) (N := 4) hx hb hts (tb_c tbX3) hown hK hP 2 rfl rfl 2 (by decide) (hw _ tw_32) (fun _ h9 => h9) rfl dX2_fits_27 ?_
  refine lv_iload_n hx hb dX2_fits_30 rfl (lv_at hl 2 rfl) ?_
  refine cx_iald hx hb hK hP 5 0 rfl rfl (by first | decide | omega) (v := aI (E u)) (i := u) rfl (by first | omega | exact hB _ (by omega) | exact Nat.lt_of_lt_of_le (hB _ (by omega)) (by omega)) dX2_fits_31 ?_
  refine lv_iload hx hb dX2_fits_32 (lv_at hl 5 rfl) ?_
  refine cx_si (va_runV (As := [.int (aI (E u)), .int (aI y)]) (rest := []) ⟨hx, hb, hml, hown, hts⟩ (c_X2_sameArgument l dC dI kI kL zc zd f n (E u) y (by first | assumption | omega | rfl) (by first | assumption | omega | rfl) (by have := qw u qu; simp only at this; omega) (by first | assumption | omega | rfl)) (cwV 2 hts gv_X2_23 rfl rfl rfl hdX2_sameArgument ⟨Nat.le_of_ble_eq_true rfl, Nat.le_of_ble_eq_true rfl⟩) (cx_preV (hP.sub (ws' := [(zc, .inr (2, [.ref zd])), (zd, .inl (kI, 40, .inl (cI f)))]) [0, 1] rfl) hK rfl (q0 := 0) rfl) rfl rfl hl.1 rfl (lv_room (Nat.le_of_ble_eq_true rfl)) dX2_fits_34 ⟨Nat.zero_le _, Nat.zero_le _⟩) (fun r hres => ?_)
  subst hres
  refine cx_if0 (tgt := 44) hx hb dX2_fits_37 (by decide) (fun b2 => ?_) (fun b2 => ?_)
  · skip
    refine lv_iconst (v := nI 0) hx hb dX2_fits_44 (by decide) ?_
    exact W.zret (v := nI 0) hx hb hr (cx_narB false) (fun t ht hW => ⟨_, rfl, cx_bf (by first | exact fun h => b0 h.1 | exact fun h => of_decide_eq_false b1 h.2.1 | exact fun h => of_decide_eq_false b2 h.2.2), ht⟩) (fun _ h9 => by cases h9) dX2_fits_45
  refine lv_iconst (v := nI 1) hx hb dX2_fits_40 (by decide) ?_
  refine lv_goto (tgt := 45) hx hb dX2_fits_41 (by decide) ?_
  exact W.zret (v := nI 1) hx hb hr (cx_narB true) (fun t ht hW => ⟨_, rfl, cx_bt ⟨b0, of_decide_eq_true b1, of_decide_eq_true b2⟩, ht⟩) (fun _ h9 => by cases h9) dX2_fits_45
