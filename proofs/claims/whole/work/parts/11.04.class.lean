set_option maxHeartbeats 4000000 in
set_option maxRecDepth 100000 in
theorem c_X5_members (l : Launch) (dC : Nat → ClassId) (dI : Nat → Nat → Nat) (kI kL : ClassId) (za : Nat) (zt : Nat) (zp : Nat) (zq : Nat) (zv : Nat) (zc : Nat) (zx : Nat) (zw : Nat) (zs : Nat) (zf : Nat) (ze : Nat) (n : Nat) (zd : Nat) (f : Nat → Nat) (x : Int32) (qn : n ≤ 40) (hB : ∀ u, u < n → f u < n) : Met l yX5_members (.code yX5_members cX5_members 4 (some .int) :: tbw) { frames := 1, cells := 0, slots := 0, locals := 22 } (va_Pc [.ref za, .int x] (cx_R (dC, dI) vwCl [(za, .inr (5, [.ref zt, .ref zp, .ref zq, .ref zv, .ref zc, .ref zx, .ref zw])), (zt, .inr (3, [.ref zs, .ref zf, .ref ze, .int (nI n)])), (zc, .inr (2, [.ref zd])), (zd, .inl (kI, 40, .inl (cI f)))] [(kI, .int), (kL, .long)])) (vp_Si (fun r => r = (an_members n f x))) 0 0 (fun _ => False) := by
  refine Met.ofW (cc := cX5_members) (maxL := 4) (ret := (some .int)) (by decide) rfl ?_
  intro p e s m args below meth c s₁ B hml hv
  obtain ⟨rfl, hP, hK⟩ := hv
  have hx := B.exec
  have hb := B.bytes
  have hr := B.returns
  have hts := atoms_spec (ws := .code yX5_members cX5_members 4 (some .int) :: tbw) B.pre
  have hw : ∀ w ∈ tbw, w.before _ s = true := fun w h => hts w (List.mem_cons_of_mem _ h)
  have hown : s.vm.findClass RX5 = some m.cls := findClass_of_methodNamed B.named
  have hP : va_P (dC, dI) vwCl [(za, .inr (5, [.ref zt, .ref zp, .ref zq, .ref zv, .ref zc, .ref zx, .ref zw])), (zt, .inr (3, [.ref zs, .ref zf, .ref ze, .int (nI n)])), (zc, .inr (2, [.ref zd])), (zd, .inl (kI, 40, .inl (cI f)))] s.heap := hP
  have hl := lv_entry ([.ref za, .int x]) (n := 4) (Nat.le_of_ble_eq_true rfl)
  rw [lg_entry_eq]
  generalize (lg_sl ([.ref za, .int x]) ++ List.replicate (4 - (lg_sl ([.ref za, .int x])).length) Slot.unset).toArray = ls at hl ⊢
  have hl : lv_has ls 4 [(0, .ref za), (1, .int x)] := hl
  refine lv_aload_n hx hb dX5_members_0 rfl (lv_at hl 0 rfl) ?_
  refine lv_iload_n hx hb dX5_members_1 rfl (lv_at hl 1 rfl) ?_
  refine cx_si (va_runV (As := [.int x]) (rest := []) ⟨hx, hb, hml, hown, hts⟩ (c_X5_isTerm l dC dI kI kL za zt zp zq zv zc zx zw zs zf ze n x ) (cwV 1 hts gv_X5_112 rfl rfl rfl hdX5_isTerm ⟨Nat.le_of_ble_eq_true rfl, Nat.le_of_ble_eq_true rfl⟩) (cx_preV (hP.sub (ws' := [(za, .inr (5, [.ref zt, .ref zp, .ref zq, .ref zv, .ref zc, .ref zx, .ref zw])), (zt, .inr (3, [.ref zs, .ref zf, .ref ze, .int (nI n)]))]) [0, 1] rfl) hK rfl (q0 := 0) rfl) rfl rfl hl.1 rfl (lv_room (Nat.le_of_ble_eq_true rfl)) dX5_members_2 ⟨Nat.zero_le _, Nat.zero_le _⟩) (fun r hres => ?_)
  subst hres
  refine cx_if1 (tgt := 11) hx hb dX5_members_5 (by decide) (fun b0 => ?_) (fun b0 => ?_)
  · skip
    have hT := of_decide_eq_true b0
    obtain ⟨i, hi, rfl⟩ := cx_T_x qn hT
    refine lv_iconst (v := nI 0) hx hb dX5_members_11 (by decide) ?_
    refine lv_istore_n hx hb dX5_members_12 rfl hl (by decide) rfl (fun ls hl => ?_)
    have hl : lv_has ls 4 [(2, .int (nI 0)), (0, .ref za), (1, .int (nI i))] := hl
    refine lv_iconst (v := nI 0) hx hb dX5_members_13 (by decide) ?_
    refine lv_istore_n hx hb dX5_members_14 rfl hl (by decide) rfl (fun ls hl => ?_)
    have hl : lv_has ls 4 [(3, .int (nI 0)), (2, .int (nI 0)), (0, .ref za), (1, .int (nI i))] := hl
    refine cx_loopR2 (fun (v : Nat) (ct : Nat) (ls : Array Slot) => lv_has ls 4 [(2, .int (nI ct)), (3, .int (nI v)), (0, .ref za), (1, .int (nI i))] ∧ (ct = cg_ct (cg_PM f i) v) ∧ (v ≤ n)) (fun v ct => n - v) (fun v ct ls hI ih1 => ?_) 0 0 ⟨lv_sub hl [1, 0, 2, 3] rfl, (rfl), (by first | assumption | omega | rfl)⟩
    obtain ⟨hl, hc, hv1⟩ := hI
    refine lv_iload_n hx hb dX5_members_15 rfl (lv_at hl 1 rfl) ?_
    refine lv_aload_n hx hb dX5_members_16 rfl (lv_at hl 2 rfl) ?_
    refine va_get (D := (dC, dI)) (ci := 5) (v := .ref zt) (C := RX5) (T := TX5) (N := 7) hx hb hts (tb_c tbX5) hown hK hP 0 rfl rfl 0 (by decide) (hw _ tw_115) (fun _ h9 => h9) rfl dX5_members_17 ?_
    refine va_get (D := (dC, dI)) (ci := 3) (v := .int (nI n)) (C := RX3) (T := TX3) (N := 4) hx hb hts (tb_c tbX3) hown hK hP 1 rfl rfl 3 (by decide) (hw _ tw_35) (fun _ h9 => h9) rfl dX5_members_20 ?_
    refine cx_ge (x := v) (y := n) (tgt := 47) hx hb dX5_members_23 (by decide) (by first | omega | exact hB _ (by omega) | exact Nat.lt_of_lt_of_le (hB _ (by omega)) (by omega)) (by first | omega | exact hB _ (by omega) | exact Nat.lt_of_lt_of_le (hB _ (by omega)) (by omega)) (fun b1 => ?_) (fun b1 => ?_)
    · skip
      refine lv_iload_n hx hb dX5_members_47 rfl (lv_at hl 0 rfl) ?_
      exact W.iret (v := nI ct) hx hb hr (fun t ht hW => ⟨_, rfl, an_members_y qn hi hc (Nat.le_antisymm hv1 b1), ht⟩) (fun _ h9 => by cases h9) dX5_members_48
    refine lv_aload_n hx hb dX5_members_26 rfl (lv_at hl 2 rfl) ?_
    refine va_get (D := (dC, dI)) (ci := 5) (v := .ref zc) (C := RX5) (T := TX5) (N := 7) hx hb hts (tb_c tbX5) hown hK hP 0 rfl rfl 4 (by decide) (hw _ tw_119) (fun _ h9 => h9) rfl dX5_members_27 ?_
    refine lv_iload_n hx hb dX5_members_30 rfl (lv_at hl 1 rfl) ?_
    refine lv_iload_n hx hb dX5_members_31 rfl (lv_at hl 3 rfl) ?_
    refine cx_si (va_runV (As := [.int (nI v), .int (nI i)]) (rest := []) ⟨hx, hb, hml, hown, hts⟩ (c_X2_joins l dC dI kI kL zc zd f n v i (by first | assumption | omega | rfl) (by first | assumption | omega | rfl) (by first | assumption | omega | rfl) (by first | assumption | omega | rfl)) (cwV 2 hts gv_X5_103 rfl rfl rfl hdX2_joins ⟨Nat.le_of_ble_eq_true rfl, Nat.le_of_ble_eq_true rfl⟩) (cx_preV (hP.sub (ws' := [(zc, .inr (2, [.ref zd])), (zd, .inl (kI, 40, .inl (cI f)))]) [2, 3] rfl) hK rfl (q0 := 0) rfl) rfl rfl hl.1 rfl (lv_room (Nat.le_of_ble_eq_true rfl)) dX5_members_32 ⟨Nat.zero_le _, Nat.zero_le _⟩) (fun r hres => ?_)
    subst hres
    refine cx_if0 (tgt := 41) hx hb dX5_members_35 (by decide) (fun b2 => ?_) (fun b2 => ?_)
    · skip
      refine lv_iinc (k := 1) (v := nI (v + 1)) hx hb dX5_members_41 hl rfl cx_inc1 (by decide) rfl (fun ls hl => ?_)
      have hl : lv_has ls 4 [(3, .int (nI (v + 1))), (2, .int (nI ct)), (0, .ref za), (1, .int (nI i))] := hl
      refine lv_goto (tgt := 15) hx hb dX5_members_44 (by decide) ?_
      exact ih1 (v + 1) ct _ ⟨lv_sub hl [1, 0, 2, 3] rfl, (by first | exact cg_ct_y hc b2 | exact cg_ct_n hc b2), (by first | assumption | omega | rfl)⟩ (by show n - (v + 1) < n - v; omega)
    refine lv_iinc (k := 0) (v := nI (ct + 1)) hx hb dX5_members_38 hl rfl cx_inc1 (by decide) rfl (fun ls hl => ?_)
    have hl : lv_has ls 4 [(2, .int (nI (ct + 1))), (3, .int (nI v)), (0, .ref za), (1, .int (nI i))] := hl
    refine lv_iinc (k := 1) (v := nI (v + 1)) hx hb dX5_members_41 hl rfl cx_inc1 (by decide) rfl (fun ls hl => ?_)
    have hl : lv_has ls 4 [(3, .int (nI (v + 1))), (2, .int (nI (ct + 1))), (0, .ref za), (1, .int (nI i))] := hl
    refine lv_goto (tgt := 15) hx hb dX5_members_44 (by decide) ?_
    exact ih1 (v + 1) (ct + 1) _ ⟨lv_sub hl [1, 0, 2, 3] rfl, (by first | exact cg_ct_y hc b2 | exact cg_ct_n hc b2), (by first | assumption | omega | rfl)⟩ (by show n - (v + 1) < n - v; omega)
  refine lv_bipush (v := (-2)) hx hb dX5_members_8 (by decide) ?_
  exact W.iret (v := (-2)) hx hb hr (fun t ht hW => ⟨_, rfl, an_members_b (of_decide_eq_false b0), ht⟩) (fun _ h9 => by cases h9) dX5_members_10

set_option maxHeartbeats 4000000 in
set_option maxRecDepth 100000 in
theorem c_X5_classes (l : Launch) (dC : Nat → ClassId) (dI : Nat → Nat → Nat) (kI kL : ClassId) (za : Nat) (zt : Nat) (zp : Nat) (zq : Nat) (zv : Nat) (zc : Nat) (zx : Nat) (zw : Nat) (zs : Nat) (zf : Nat) (ze : Nat) (n : Nat) (zd : Nat) (f : Nat → Nat) (qn : n ≤ 40) (hB : ∀ u, u < n → f u < n) : Met l yX5_classes (.code yX5_classes cX5_classes 1 (some .int) :: tbw) { frames := 1, cells := 0, slots := 0, locals := 23 } (va_Pc [.ref za] (cx_R (dC, dI) vwCl [(za, .inr (5, [.ref zt, .ref zp, .ref zq, .ref zv, .ref zc, .ref zx, .ref zw])), (zt, .inr (3, [.ref zs, .ref zf, .ref ze, .int (nI n)])), (zc, .inr (2, [.ref zd])), (zd, .inl (kI, 40, .inl (cI f)))] [(kI, .int), (kL, .long)])) (vp_Si (fun r => r = nI (cg_cn f n))) 0 0 (fun _ => False) := by
  refine Met.ofW (cc := cX5_classes) (maxL := 1) (ret := (some .int)) (by decide) rfl ?_
  intro p e s m args below meth c s₁ B hml hv
  obtain ⟨rfl, hP, hK⟩ := hv
  have hx := B.exec
  have hb := B.bytes
  have hr := B.returns
  have hts := atoms_spec (ws := .code yX5_classes cX5_classes 1 (some .int) :: tbw) B.pre
  have hw : ∀ w ∈ tbw, w.before _ s = true := fun w h => hts w (List.mem_cons_of_mem _ h)
  have hown : s.vm.findClass RX5 = some m.cls := findClass_of_methodNamed B.named
  have hP : va_P (dC, dI) vwCl [(za, .inr (5, [.ref zt, .ref zp, .ref zq, .ref zv, .ref zc, .ref zx, .ref zw])), (zt, .inr (3, [.ref zs, .ref zf, .ref ze, .int (nI n)])), (zc, .inr (2, [.ref zd])), (zd, .inl (kI, 40, .inl (cI f)))] s.heap := hP
  have hl := lv_entry ([.ref za]) (n := 1) (Nat.le_of_ble_eq_true rfl)
  rw [lg_entry_eq]
  generalize (lg_sl ([.ref za]) ++ List.replicate (1 - (lg_sl ([.ref za])).length) Slot.unset).toArray = ls at hl ⊢
  have hl : lv_has ls 1 [(0, .ref za)] := hl
  refine lv_aload_n hx hb dX5_classes_0 rfl (lv_at hl 0 rfl) ?_
  refine va_get (D := (dC, dI)) (ci := 5) (v := .ref zc) (C := RX5) (T := TX5) (N := 7) hx hb hts (tb_c tbX5) hown hK hP 0 rfl rfl 4 (by decide) (hw _ tw_119) (fun _ h9 => h9) rfl dX5_classes_1 ?_
  refine lv_aload_n hx hb dX5_classes_4 rfl (lv_at hl 0 rfl) ?_
  refine va_get (D := (dC, dI)) (ci := 5) (v := .ref zt) (C := RX5) (T := TX5) (N := 7) hx hb hts (tb_c tbX5) hown hK hP 0 rfl rfl 0 (by decide) (hw _ tw_115) (fun _ h9 => h9) rfl dX5_classes_5 ?_
  refine va_get (D := (dC, dI)) (ci := 3) (v := .int (nI n)) (C := RX3) (T := TX3) (N := 4) hx hb hts (tb_c tbX3) hown hK hP 1 rfl rfl 3 (by decide) (hw _ tw_35) (fun _ h9 => h9) rfl dX5_classes_8 ?_
  refine cx_si (va_runV (As := [.int (nI n)]) (rest := []) ⟨hx, hb, hml, hown, hts⟩ (c_X2_classCount l dC dI kI kL zc zd f n (by first | assumption | omega | rfl) (by first | assumption | omega | rfl)) (cwV 1 hts gv_X5_78 rfl rfl rfl hdX2_classCount ⟨Nat.le_of_ble_eq_true rfl, Nat.le_of_ble_eq_true rfl⟩) (cx_preV (hP.sub (ws' := [(zc, .inr (2, [.ref zd])), (zd, .inl (kI, 40, .inl (cI f)))]) [2, 3] rfl) hK rfl (q0 := 0) rfl) rfl rfl hl.1 rfl (lv_room (Nat.le_of_ble_eq_true rfl)) dX5_classes_11 ⟨Nat.zero_le _, Nat.zero_le _⟩) (fun r hres => ?_)
  subst hres
  exact W.iret (v := nI (cg_cn f n)) hx hb hr (fun t ht hW => ⟨_, rfl, rfl, ht⟩) (fun _ h9 => by cases h9) dX5_classes_14

set_option maxHeartbeats 4000000 in
set_option maxRecDepth 100000 in
theorem c_X5_find (l : Launch) (dC : Nat → ClassId) (dI : Nat → Nat → Nat) (kI kL : ClassId) (za : Nat) (zt : Nat) (zp : Nat) (zq : Nat) (zv : Nat) (zc : Nat) (zx : Nat) (zw : Nat) (zs : Nat) (zf : Nat) (ze : Nat) (n : Nat) (S : Nat → Int32) (F : Nat → Nat) (E : Nat → Nat) (zd : Nat) (f : Nat → Nat) (sy : Int32) (a : Int32) (b : Int32) (qn : n ≤ 40) (hB : ∀ u, u < n → f u < n) (qw : cg_wf (S, F, E) n) : Met l yX5_find (.code yX5_find cX5_find 5 (some .int) :: tbw) { frames := 3, cells := 0, slots := 0, locals := 69 } (va_Pc [.ref za, .int sy, .int a, .int b] (cx_R (dC, dI) vwCl [(za, .inr (5, [.ref zt, .ref zp, .ref zq, .ref zv, .ref zc, .ref zx, .ref zw])), (zt, .inr (3, [.ref zs, .ref zf, .ref ze, .int (nI n)])), (zs, .inl (kI, 40, .inl S)), (zf, .inl (kI, 40, .inl (cA F))), (ze, .inl (kI, 40, .inl (cA E))), (zc, .inr (2, [.ref zd])), (zd, .inl (kI, 40, .inl (cI f)))] [(kI, .int), (kL, .long)])) (vp_Si (fun r => r = (an_find n S F E f sy a b))) 0 0 (fun _ => False) := by
  refine Met.ofW (cc := cX5_find) (maxL := 5) (ret := (some .int)) (by decide) rfl ?_
  intro p e s m args below meth c s₁ B hml hv
  obtain ⟨rfl, hP, hK⟩ := hv
  have hx := B.exec
  have hb := B.bytes
  have hr := B.returns
  have hts := atoms_spec (ws := .code yX5_find cX5_find 5 (some .int) :: tbw) B.pre
  have hw : ∀ w ∈ tbw, w.before _ s = true := fun w h => hts w (List.mem_cons_of_mem _ h)
  have hown : s.vm.findClass RX5 = some m.cls := findClass_of_methodNamed B.named
  have hP : va_P (dC, dI) vwCl [(za, .inr (5, [.ref zt, .ref zp, .ref zq, .ref zv, .ref zc, .ref zx, .ref zw])), (zt, .inr (3, [.ref zs, .ref zf, .ref ze, .int (nI n)])), (zs, .inl (kI, 40, .inl S)), (zf, .inl (kI, 40, .inl (cA F))), (ze, .inl (kI, 40, .inl (cA E))), (zc, .inr (2, [.ref zd])), (zd, .inl (kI, 40, .inl (cI f)))] s.heap := hP
  have hl := lv_entry ([.ref za, .int sy, .int a, .int b]) (n := 5) (Nat.le_of_ble_eq_true rfl)
  rw [lg_entry_eq]
  generalize (lg_sl ([.ref za, .int sy, .int a, .int b]) ++ List.replicate (5 - (lg_sl ([.ref za, .int sy, .int a, .int b])).length) Slot.unset).toArray = ls at hl ⊢
  have hl : lv_has ls 5 [(0, .ref za), (1, .int sy), (2, .int a), (3, .int b)] := hl
  refine lv_aload_n hx hb dX5_find_0 rfl (lv_at hl 0 rfl) ?_
  refine lv_iload_n hx hb dX5_find_1 rfl (lv_at hl 1 rfl) ?_
  refine lv_iload_n hx hb dX5_find_2 rfl (lv_at hl 2 rfl) ?_
  refine lv_iload_n hx hb dX5_find_3 rfl (lv_at hl 3 rfl) ?_
  refine cx_si (va_runV (As := [.int sy, .int a, .int b]) (rest := []) ⟨hx, hb, hml, hown, hts⟩ (c_X5_isShape l dC dI kI kL za zt zp zq zv zc zx zw zs zf ze n sy a b ) (cwV 3 hts gv_X5_52 rfl rfl rfl hdX5_isShape ⟨Nat.le_of_ble_eq_true rfl, Nat.le_of_ble_eq_true rfl⟩) (cx_preV (hP.sub (ws' := [(za, .inr (5, [.ref zt, .ref zp, .ref zq, .ref zv, .ref zc, .ref zx, .ref zw])), (zt, .inr (3, [.ref zs, .ref zf, .ref ze, .int (nI n)]))]) [0, 1] rfl) hK rfl (q0 := 0) rfl) rfl rfl hl.1 rfl (lv_room (Nat.le_of_ble_eq_true rfl)) dX5_find_4 ⟨Nat.zero_le _, Nat.zero_le _⟩) (fun r hres => ?_)
  subst hres
  refine cx_if1 (tgt := 13) hx hb dX5_find_7 (by decide) (fun b0 => ?_) (fun b0 => ?_)
  · skip
    have hSh := of_decide_eq_true b0
    obtain ⟨x1, hx1, rfl⟩ := cx_A_x qn (cx_sh_a hSh).1
    obtain ⟨y1, hy1, rfl⟩ := cx_A_x qn (cx_sh_a hSh).2
    refine lv_iconst (v := nI 0) hx hb dX5_find_13 (by decide) ?_
    refine lv_istore hx hb dX5_find_14 hl (by decide) rfl (fun ls hl => ?_)
    have hl : lv_has ls 5 [(4, .int (nI 0)), (0, .ref za), (1, .int sy), (2, .int (aI x1)), (3, .int (aI y1))] := hl
    refine cx_loopR1 (fun (v : Nat) (ls : Array Slot) => lv_has ls 5 [(4, .int (nI v)), (0, .ref za), (1, .int sy), (2, .int (aI x1)), (3, .int (aI y1))] ∧ (v ≤ n) ∧ (∀ u, u < v → cg_PF S F E f sy x1 y1 u = false)) (fun v => n - v) (fun v ls hI ih1 => ?_) 0 ⟨lv_sub hl [0, 1, 2, 3, 4] rfl, (by first | assumption | omega | rfl), (fun u h => absurd h (Nat.not_lt_zero u))⟩
    obtain ⟨hl, hv1, hno⟩ := hI
    refine lv_iload hx hb dX5_find_16 (lv_at hl 0 rfl) ?_
    refine lv_aload_n hx hb dX5_find_18 rfl (lv_at hl 1 rfl) ?_
    refine va_get (D := (dC, dI)) (ci := 5) (v := .ref zt) (C := RX5) (T := TX5) (N := 7) hx hb hts (tb_c tbX5) hown hK hP 0 rfl rfl 0 (by decide) (hw _ tw_115) (fun _ h9 => h9) rfl dX5_find_19 ?_
    refine va_get (D := (dC, dI)) (ci := 3) (v := .int (nI n)) (C := RX3) (T := TX3) (N := 4) hx hb hts (tb_c tbX3) hown hK hP 1 rfl rfl 3 (by decide) (hw _ tw_35) (fun _ h9 => h9) rfl dX5_find_22 ?_
    refine cx_ge (x := v) (y := n) (tgt := 64) hx hb dX5_find_25 (by decide) (by first | omega | exact hB _ (by omega) | exact Nat.lt_of_lt_of_le (hB _ (by omega)) (by omega)) (by first | omega | exact hB _ (by omega) | exact Nat.lt_of_lt_of_le (hB _ (by omega)) (by omega)) (fun b1 => ?_) (fun b1 => ?_)
    · skip
      refine lv_iconst (v := (-1)) hx hb dX5_find_64 (by decide) ?_
      exact W.iret (v := (-1)) hx hb hr (fun t ht hW => ⟨_, rfl, an_find_n qn hSh hx1 hy1 hno b1, ht⟩) (fun _ h9 => by cases h9) dX5_find_65
    refine lv_aload_n hx hb dX5_find_28 rfl (lv_at hl 1 rfl) ?_
    refine va_get (D := (dC, dI)) (ci := 5) (v := .ref zc) (C := RX5) (T := TX5) (N := 7) hx hb hts (tb_c tbX5) hown hK hP 0 rfl rfl 4 (by decide) (hw _ tw_119) (fun _ h9 => h9) rfl dX5_find_29 ?_
    refine lv_aload_n hx hb dX5_find_32 rfl (lv_at hl 1 rfl) ?_
    refine va_get (D := (dC, dI)) (ci := 5) (v := .ref zt) (C := RX5) (T := TX5) (N := 7) hx hb hts (tb_c tbX5) hown hK hP 0 rfl rfl 0 (by decide) (hw _ tw_115) (fun _ h9 => h9) rfl dX5_find_33 ?_
    refine lv_iload hx hb dX5_find_36 (lv_at hl 0 rfl) ?_
    refine lv_iload_n hx hb dX5_find_38 rfl (lv_at hl 2 rfl) ?_
    refine lv_iload_n hx hb dX5_find_39 rfl (lv_at hl 3 rfl) ?_
    refine lv_iload_n hx hb dX5_find_40 rfl (lv_at hl 4 rfl) ?_
    refine cx_si (va_runV (As := [.ref zt, .int (nI v), .int sy, .int (aI x1), .int (aI y1)]) (rest := []) ⟨hx, hb, hml, hown, hts⟩ (c_X2_fits l dC dI kI kL zc zd f zt zs zf ze n S F E v sy x1 y1 (by first | assumption | omega | rfl) (by first | assumption | omega | rfl) (by first | assumption | omega | rfl) (by first | assumption | omega | rfl) (by first | assumption | omega | rfl) (by first | assumption | omega | rfl)) (cwV 5 hts gv_X5_119 rfl rfl rfl hdX2_fits ⟨Nat.le_of_ble_eq_true rfl, Nat.le_of_ble_eq_true rfl⟩) (cx_preV (hP.sub (ws' := [(zc, .inr (2, [.ref zd])), (zd, .inl (kI, 40, .inl (cI f))), (zt, .inr (3, [.ref zs, .ref zf, .ref ze, .int (nI n)])), (zs, .inl (kI, 40, .inl S)), (zf, .inl (kI, 40, .inl (cA F))), (ze, .inl (kI, 40, .inl (cA E)))]) [5, 6, 1, 2, 3, 4] rfl) hK rfl (q0 := 0) rfl) rfl rfl hl.1 rfl (lv_room (Nat.le_of_ble_eq_true rfl)) dX5_find_41 ⟨Nat.zero_le _, Nat.zero_le _⟩) (fun r hres => ?_)
    subst hres
    refine cx_if0 (tgt := 58) hx hb dX5_find_44 (by decide) (fun b2 => ?_) (fun b2 => ?_)
    · skip
      refine lv_iinc (k := 0) (v := nI (v + 1)) hx hb dX5_find_58 hl rfl cx_inc1 (by decide) rfl (fun ls hl => ?_)
      have hl : lv_has ls 5 [(4, .int (nI (v + 1))), (0, .ref za), (1, .int sy), (2, .int (aI x1)), (3, .int (aI y1))] := hl
      refine lv_goto (tgt := 16) hx hb dX5_find_61 (by decide) ?_
      exact ih1 (v + 1) _ ⟨lv_sub hl [0, 1, 2, 3, 4] rfl, (by first | assumption | omega | rfl), (cg_sr_s hno b2)⟩ (by show n - (v + 1) < n - v; omega)
    refine lv_aload_n hx hb dX5_find_47 rfl (lv_at hl 1 rfl) ?_
    refine va_get (D := (dC, dI)) (ci := 5) (v := .ref zc) (C := RX5) (T := TX5) (N := 7) hx hb hts (tb_c tbX5) hown hK hP 0 rfl rfl 4 (by decide) (hw _ tw_119) (fun _ h9 => h9) rfl dX5_find_48 ?_
    refine va_get (D := (dC, dI)) (ci := 2) (v := .ref zd) (C := RX2) (T := TX2) (N := 1) hx hb hts (tb_c tbX2) hown hK hP 5 rfl rfl 0 (by decide) (hw _ tw_100) (fun _ h9 => h9) rfl dX5_find_51 ?_
    refine lv_iload hx hb dX5_find_54 (lv_at hl 0 rfl) ?_
    refine cx_iald hx hb hK hP 6 0 rfl rfl (by first | decide | omega) (v := nI (f v)) (i := v) rfl (by first | omega | exact hB _ (by omega) | exact Nat.lt_of_lt_of_le (hB _ (by omega)) (by omega)) dX5_find_56 ?_
    exact W.iret (v := nI (f v)) hx hb hr (fun t ht hW => ⟨_, rfl, an_find_y qn hSh hx1 hy1 hno b2 b1, ht⟩) (fun _ h9 => by cases h9) dX5_find_57
  refine lv_bipush (v := (-2)) hx hb dX5_find_10 (by decide) ?_
  exact W.iret (v := (-2)) hx hb hr (fun t ht hW => ⟨_, rfl, an_find_b (of_decide_eq_false b0), ht⟩) (fun _ h9 => by cases h9) dX5_find_12

set_option maxHeartbeats 4000000 in
set_option maxRecDepth 100000 in
theorem c_X5_make (l : Launch) (dC : Nat → ClassId) (dI : Nat → Nat → Nat) (kI kL : ClassId) (za : Nat) (zt : Nat) (zp : Nat) (zq : Nat) (zv : Nat) (zc : Nat) (zx : Nat) (zw : Nat) (zd : Nat) (f : Nat → Nat) (zs : Nat) (zf : Nat) (ze : Nat) (n : Nat) (S : Nat → Int32) (F : Nat → Nat) (E : Nat → Nat) (zl : Nat) (zr : Nat) (k : Nat) (lf : Nat → Nat) (rt : Nat → Nat) (sy : Int32) (a : Int32) (b : Int32) (qn : n ≤ 40) (qw : cg_wf (S, F, E) n) (qk : k ≤ 24) (qe : cg_we n lf rt k) (qf : ∀ z, z < n → f z = cg_LA S F E n lf rt k z) (sz : Nat) : Met l yX5_make (.code yX5_make cX5_make 6 (some .int) :: tbw) { frames := 7, cells := 0, slots := 0, locals := 161 } (va_Pc [.ref za, .int sy, .int a, .int b] (cx_M (dC, dI) vwCl [(za, .inr (5, [.ref zt, .ref zp, .ref zq, .ref zv, .ref zc, .ref zx, .ref zw])), (zc, .inr (2, [.ref zd])), (zd, .inl (kI, 40, .inl (cI f))), (zt, .inr (3, [.ref zs, .ref zf, .ref ze, .int (nI n)])), (zs, .inl (kI, 40, .inl S)), (zf, .inl (kI, 40, .inl (cA F))), (ze, .inl (kI, 40, .inl (cA E))), (zp, .inr (1, [.ref zl, .ref zr, .int (nI k)])), (zl, .inl (kI, 24, .inl (cI lf))), (zr, .inl (kI, 24, .inl (cI rt)))] [(kI, .int), (kL, .long)] sz)) (va_Qi (fun (r : Int32) (u : cg_TS × (Nat → Nat)) => (r = (an_make n S F E sy a b)) ∧ (u.1 = st_make n S F E sy a b ∧ ∀ z, z < u.1.1 → u.2 z = cg_LA u.1.2.1 u.1.2.2.1 u.1.2.2.2 u.1.1 lf rt k z)) (cx_B (dC, dI) vwCl (va_A [(za, .inr (5, [.ref zt, .ref zp, .ref zq, .ref zv, .ref zc, .ref zx, .ref zw])), (zc, .inr (2, [.ref zd])), (zd, .inl (kI, 40, .inl (cI f))), (zt, .inr (3, [.ref zs, .ref zf, .ref ze, .int (nI n)])), (zs, .inl (kI, 40, .inl S)), (zf, .inl (kI, 40, .inl (cA F))), (ze, .inl (kI, 40, .inl (cA E))), (zp, .inr (1, [.ref zl, .ref zr, .int (nI k)])), (zl, .inl (kI, 24, .inl (cI lf))), (zr, .inl (kI, 24, .inl (cI rt)))] sz) (fun u : cg_TS × (Nat → Nat) => [(za, .inr (5, [.ref zt, .ref zp, .ref zq, .ref zv, .ref zc, .ref zx, .ref zw])), (zc, .inr (2, [.ref zd])), (zd, .inl (kI, 40, .inl (cI u.2))), (zt, .inr (3, [.ref zs, .ref zf, .ref ze, .int (nI u.1.1)])), (zs, .inl (kI, 40, .inl u.1.2.1)), (zf, .inl (kI, 40, .inl (cA u.1.2.2.1))), (ze, .inl (kI, 40, .inl (cA u.1.2.2.2))), (zp, .inr (1, [.ref zl, .ref zr, .int (nI k)])), (zl, .inl (kI, 24, .inl (cI lf))), (zr, .inl (kI, 24, .inl (cI rt)))])) (va_A [(za, .inr (5, [.ref zt, .ref zp, .ref zq, .ref zv, .ref zc, .ref zx, .ref zw])), (zc, .inr (2, [.ref zd])), (zd, .inl (kI, 40, .inl (cI f))), (zt, .inr (3, [.ref zs, .ref zf, .ref ze, .int (nI n)])), (zs, .inl (kI, 40, .inl S)), (zf, .inl (kI, 40, .inl (cA F))), (ze, .inl (kI, 40, .inl (cA E))), (zp, .inr (1, [.ref zl, .ref zr, .int (nI k)])), (zl, .inl (kI, 24, .inl (cI lf))), (zr, .inl (kI, 24, .inl (cI rt)))] sz)) 0 0 (va_A [(za, .inr (5, [.ref zt, .ref zp, .ref zq, .ref zv, .ref zc, .ref zx, .ref zw])), (zc, .inr (2, [.ref zd])), (zd, .inl (kI, 40, .inl (cI f))), (zt, .inr (3, [.ref zs, .ref zf, .ref ze, .int (nI n)])), (zs, .inl (kI, 40, .inl S)), (zf, .inl (kI, 40, .inl (cA F))), (ze, .inl (kI, 40, .inl (cA E))), (zp, .inr (1, [.ref zl, .ref zr, .int (nI k)])), (zl, .inl (kI, 24, .inl (cI lf))), (zr, .inl (kI, 24, .inl (cI rt)))] sz) := by
  refine Met.ofW (cc := cX5_make) (maxL := 6) (ret := (some .int)) (by decide) rfl ?_
  intro p e s m args below meth c s₁ B hml hv
  obtain ⟨rfl, hsz, hP, hK, hD0⟩ := hv
  have hx := B.exec
  have hb := B.bytes
  have hr := B.returns
  have hts := atoms_spec (ws := .code yX5_make cX5_make 6 (some .int) :: tbw) B.pre
  have hw : ∀ w ∈ tbw, w.before _ s = true := fun w h => hts w (List.mem_cons_of_mem _ h)
  have hown : s.vm.findClass RX5 = some m.cls := findClass_of_methodNamed B.named
  subst hsz
  have hD := hD0.self (sz := s.heap.size)
  generalize hAe : va_A [(za, .inr (5, [.ref zt, .ref zp, .ref zq, .ref zv, .ref zc, .ref zx, .ref zw])), (zc, .inr (2, [.ref zd])), (zd, .inl (kI, 40, .inl (cI f))), (zt, .inr (3, [.ref zs, .ref zf, .ref ze, .int (nI n)])), (zs, .inl (kI, 40, .inl S)), (zf, .inl (kI, 40, .inl (cA F))), (ze, .inl (kI, 40, .inl (cA E))), (zp, .inr (1, [.ref zl, .ref zr, .int (nI k)])), (zl, .inl (kI, 24, .inl (cI lf))), (zr, .inl (kI, 24, .inl (cI rt)))] s.heap.size = AA at hD ⊢
  have hA : ∀ q : Nat, s.heap.size ≤ q → AA q := fun q h => by rw [← hAe]; exact Or.inr h
  have hS : va_S AA s.heap s.heap [] := va_S.rf
  have hP : va_P (dC, dI) vwCl [(za, .inr (5, [.ref zt, .ref zp, .ref zq, .ref zv, .ref zc, .ref zx, .ref zw])), (zc, .inr (2, [.ref zd])), (zd, .inl (kI, 40, .inl (cI f))), (zt, .inr (3, [.ref zs, .ref zf, .ref ze, .int (nI n)])), (zs, .inl (kI, 40, .inl S)), (zf, .inl (kI, 40, .inl (cA F))), (ze, .inl (kI, 40, .inl (cA E))), (zp, .inr (1, [.ref zl, .ref zr, .int (nI k)])), (zl, .inl (kI, 24, .inl (cI lf))), (zr, .inl (kI, 24, .inl (cI rt)))] s.heap := hP
  have hl := lv_entry ([.ref za, .int sy, .int a, .int b]) (n := 6) (Nat.le_of_ble_eq_true rfl)
  rw [lg_entry_eq]
  generalize (lg_sl ([.ref za, .int sy, .int a, .int b]) ++ List.replicate (6 - (lg_sl ([.ref za, .int sy, .int a, .int b])).length) Slot.unset).toArray = ls at hl ⊢
  have hl : lv_has ls 6 [(0, .ref za), (1, .int sy), (2, .int a), (3, .int b)] := hl
  refine lv_aload_n hx hb dX5_make_0 rfl (lv_at hl 0 rfl) ?_
  refine lv_iload_n hx hb dX5_make_1 rfl (lv_at hl 1 rfl) ?_
  refine lv_iload_n hx hb dX5_make_2 rfl (lv_at hl 2 rfl) ?_
  refine lv_iload_n hx hb dX5_make_3 rfl (lv_at hl 3 rfl) ?_
  refine cx_si (va_runV (As := [.int sy, .int a, .int b]) (rest := []) ⟨hx, hb, hml, hown, hts⟩ (c_X5_isShape l dC dI kI kL za zt zp zq zv zc zx zw zs zf ze n sy a b ) (cwV 3 hts gv_X5_52 rfl rfl rfl hdX5_isShape ⟨Nat.le_of_ble_eq_true rfl, Nat.le_of_ble_eq_true rfl⟩) (cx_preV (hP.sub (ws' := [(za, .inr (5, [.ref zt, .ref zp, .ref zq, .ref zv, .ref zc, .ref zx, .ref zw])), (zt, .inr (3, [.ref zs, .ref zf, .ref ze, .int (nI n)]))]) [0, 3] rfl) hK rfl (q0 := 0) rfl) rfl rfl hl.1 rfl (lv_room (Nat.le_of_ble_eq_true rfl)) dX5_make_4 ⟨Nat.zero_le _, Nat.zero_le _⟩) (fun r hres => ?_)
  subst hres
  refine cx_if1 (tgt := 13) hx hb dX5_make_7 (by decide) (fun b0 => ?_) (fun b0 => ?_)
  · skip
    have hSh := of_decide_eq_true b0
    obtain ⟨x1, hx1, rfl⟩ := cx_A_x qn (cx_sh_a hSh).1
    obtain ⟨y1, hy1, rfl⟩ := cx_A_x qn (cx_sh_a hSh).2
    refine lv_aload_n hx hb dX5_make_13 rfl (lv_at hl 0 rfl) ?_
    refine va_get (D := (dC, dI)) (ci := 5) (v := .ref zt) (C := RX5) (T := TX5) (N := 7) hx hb hts (tb_c tbX5) hown hK hP 0 rfl rfl 0 (by decide) (hw _ tw_115) (fun _ h9 => h9) rfl dX5_make_14 ?_
    refine lv_iload_n hx hb dX5_make_17 rfl (lv_at hl 1 rfl) ?_
    refine lv_iload_n hx hb dX5_make_18 rfl (lv_at hl 2 rfl) ?_
    refine lv_iload_n hx hb dX5_make_19 rfl (lv_at hl 3 rfl) ?_
    refine cx_si (va_runV (As := [.int sy, .int (aI x1), .int (aI y1)]) (rest := []) ⟨hx, hb, hml, hown, hts⟩ (c_X3_numberOf l dC dI kI kL zt zs zf ze n S F E sy x1 y1 (by first | assumption | omega | rfl) (by first | assumption | omega | rfl) (by first | assumption | omega | rfl) (by first | assumption | omega | rfl)) (cwV 3 hts gv_X5_56 rfl rfl rfl hdX3_numberOf ⟨Nat.le_of_ble_eq_true rfl, Nat.le_of_ble_eq_true rfl⟩) (cx_preV (hP.sub (ws' := [(zt, .inr (3, [.ref zs, .ref zf, .ref ze, .int (nI n)])), (zs, .inl (kI, 40, .inl S)), (zf, .inl (kI, 40, .inl (cA F))), (ze, .inl (kI, 40, .inl (cA E)))]) [3, 4, 5, 6] rfl) hK rfl (q0 := 0) rfl) rfl rfl hl.1 rfl (lv_room (Nat.le_of_ble_eq_true rfl)) dX5_make_20 ⟨Nat.zero_le _, Nat.zero_le _⟩) (fun r hres => ?_)
    subst hres
    have e1 := cg_sr_le (cg_PN S F E sy x1 y1) n
    refine lv_istore hx hb dX5_make_23 hl (by decide) rfl (fun ls hl => ?_)
    have hl : lv_has ls 6 [(4, .int (aI (cg_sr (cg_PN S F E sy x1 y1) n))), (0, .ref za), (1, .int sy), (2, .int (aI x1)), (3, .int (aI y1))] := hl
    refine lv_iload hx hb dX5_make_25 (lv_at hl 0 rfl) ?_
    refine lv_iconst (v := (-1)) hx hb dX5_make_27 (by decide) ?_
    refine cx_aeq (x := (cg_sr (cg_PN S F E sy x1 y1) n)) (y := 0) (tgt := 34) hx hb dX5_make_28 (by decide) (by first | omega | exact hB _ (by omega) | exact Nat.lt_of_lt_of_le (hB _ (by omega)) (by omega)) (by first | omega | exact hB _ (by omega) | exact Nat.lt_of_lt_of_le (hB _ (by omega)) (by omega)) (fun b1 => ?_) (fun b1 => ?_)
    · skip
      refine lv_aload_n hx hb dX5_make_34 rfl (lv_at hl 1 rfl) ?_
      refine va_get (D := (dC, dI)) (ci := 5) (v := .ref zt) (C := RX5) (T := TX5) (N := 7) hx hb hts (tb_c tbX5) hown hK hP 0 rfl rfl 0 (by decide) (hw _ tw_115) (fun _ h9 => h9) rfl dX5_make_35 ?_
      refine va_get (D := (dC, dI)) (ci := 3) (v := .int (nI n)) (C := RX3) (T := TX3) (N := 4) hx hb hts (tb_c tbX3) hown hK hP 3 rfl rfl 3 (by decide) (hw _ tw_35) (fun _ h9 => h9) rfl dX5_make_38 ?_
      refine lv_bipush (v := nI 40) hx hb dX5_make_41 (by decide) ?_
      refine cx_lt (x := n) (y := 40) (tgt := 49) hx hb dX5_make_43 (by decide) (by first | omega | exact hB _ (by omega) | exact Nat.lt_of_lt_of_le (hB _ (by omega)) (by omega)) (by first | omega | exact hB _ (by omega) | exact Nat.lt_of_lt_of_le (hB _ (by omega)) (by omega)) (fun b2 => ?_) (fun b2 => ?_)
      · skip
        refine lv_aload_n hx hb dX5_make_49 rfl (lv_at hl 1 rfl) ?_
        refine va_get (D := (dC, dI)) (ci := 5) (v := .ref zt) (C := RX5) (T := TX5) (N := 7) hx hb hts (tb_c tbX5) hown hK hP 0 rfl rfl 0 (by decide) (hw _ tw_115) (fun _ h9 => h9) rfl dX5_make_50 ?_
        refine lv_iload_n hx hb dX5_make_53 rfl (lv_at hl 2 rfl) ?_
        refine lv_iload_n hx hb dX5_make_54 rfl (lv_at hl 3 rfl) ?_
        refine lv_iload_n hx hb dX5_make_55 rfl (lv_at hl 4 rfl) ?_
        refine cx_mi (wc := [(zt, .inr (3, [.ref zs, .ref zf, .ref ze, .int (nI n)])), (zs, .inl (kI, 40, .inl S)), (zf, .inl (kI, 40, .inl (cA F))), (ze, .inl (kI, 40, .inl (cA E)))]) (wr := [(za, .inr (5, [.ref zt, .ref zp, .ref zq, .ref zv, .ref zc, .ref zx, .ref zw])), (zc, .inr (2, [.ref zd])), (zd, .inl (kI, 40, .inl (cI f))), (zp, .inr (1, [.ref zl, .ref zr, .int (nI k)])), (zl, .inl (kI, 24, .inl (cI lf))), (zr, .inl (kI, 24, .inl (cI rt)))]) hP hD hS hA [3, 4, 5, 6] [0, 1, 2, 7, 8, 9] rfl rfl (by decide) (by decide) (va_runV (As := [.int sy, .int (aI x1), .int (aI y1)]) (rest := []) ⟨hx, hb, hml, hown, hts⟩ (c_X3_add l dC dI kI kL zt zs zf ze n S F E sy x1 y1 (b2) _) (cwV 3 hts gv_X5_64 rfl rfl rfl hdX3_add ⟨Nat.le_of_ble_eq_true rfl, Nat.le_of_ble_eq_true rfl⟩) (cx_mreV (hP.sub (ws' := [(zt, .inr (3, [.ref zs, .ref zf, .ref ze, .int (nI n)])), (zs, .inl (kI, 40, .inl S)), (zf, .inl (kI, 40, .inl (cA F))), (ze, .inl (kI, 40, .inl (cA E)))]) [3, 4, 5, 6] rfl) hK (hD.sub (ws' := [(zt, .inr (3, [.ref zs, .ref zf, .ref ze, .int (nI n)])), (zs, .inl (kI, 40, .inl S)), (zf, .inl (kI, 40, .inl (cA F))), (ze, .inl (kI, 40, .inl (cA E)))]) [3, 4, 5, 6] (by decide) rfl) rfl (q0 := 0) rfl) rfl rfl hl.1 rfl (lv_room (Nat.le_of_ble_eq_true rfl)) dX5_make_56 ⟨Nat.zero_le _, Nat.zero_le _⟩) (fun r u56 H locs hres hP hD hS => ?_)
        subst hres
        have hP : va_P (dC, dI) vwCl [(za, .inr (5, [.ref zt, .ref zp, .ref zq, .ref zv, .ref zc, .ref zx, .ref zw])), (zc, .inr (2, [.ref zd])), (zd, .inl (kI, 40, .inl (cI f))), (zt, .inr (3, [.ref zs, .ref zf, .ref ze, .int (nI (n + 1))])), (zs, .inl (kI, 40, .inl (upd S n sy))), (zf, .inl (kI, 40, .inl (cA (wt_u F n x1)))), (ze, .inl (kI, 40, .inl (cA (wt_u E n y1)))), (zp, .inr (1, [.ref zl, .ref zr, .int (nI k)])), (zl, .inl (kI, 24, .inl (cI lf))), (zr, .inl (kI, 24, .inl (cI rt)))] H := hP.sub (ws' := [(za, .inr (5, [.ref zt, .ref zp, .ref zq, .ref zv, .ref zc, .ref zx, .ref zw])), (zc, .inr (2, [.ref zd])), (zd, .inl (kI, 40, .inl (cI f))), (zt, .inr (3, [.ref zs, .ref zf, .ref ze, .int (nI (n + 1))])), (zs, .inl (kI, 40, .inl (upd S n sy))), (zf, .inl (kI, 40, .inl (cA (wt_u F n x1)))), (ze, .inl (kI, 40, .inl (cA (wt_u E n y1)))), (zp, .inr (1, [.ref zl, .ref zr, .int (nI k)])), (zl, .inl (kI, 24, .inl (cI lf))), (zr, .inl (kI, 24, .inl (cI rt)))]) [0, 1, 2, 6, 7, 8, 9, 3, 4, 5] rfl
        have hD : va_D AA [(za, .inr (5, [.ref zt, .ref zp, .ref zq, .ref zv, .ref zc, .ref zx, .ref zw])), (zc, .inr (2, [.ref zd])), (zd, .inl (kI, 40, .inl (cI f))), (zt, .inr (3, [.ref zs, .ref zf, .ref ze, .int (nI (n + 1))])), (zs, .inl (kI, 40, .inl (upd S n sy))), (zf, .inl (kI, 40, .inl (cA (wt_u F n x1)))), (ze, .inl (kI, 40, .inl (cA (wt_u E n y1)))), (zp, .inr (1, [.ref zl, .ref zr, .int (nI k)])), (zl, .inl (kI, 24, .inl (cI lf))), (zr, .inl (kI, 24, .inl (cI rt)))] := hD.sub (ws' := [(za, .inr (5, [.ref zt, .ref zp, .ref zq, .ref zv, .ref zc, .ref zx, .ref zw])), (zc, .inr (2, [.ref zd])), (zd, .inl (kI, 40, .inl (cI f))), (zt, .inr (3, [.ref zs, .ref zf, .ref ze, .int (nI (n + 1))])), (zs, .inl (kI, 40, .inl (upd S n sy))), (zf, .inl (kI, 40, .inl (cA (wt_u F n x1)))), (ze, .inl (kI, 40, .inl (cA (wt_u E n y1)))), (zp, .inr (1, [.ref zl, .ref zr, .int (nI k)])), (zl, .inl (kI, 24, .inl (cI lf))), (zr, .inl (kI, 24, .inl (cI rt)))]) [0, 1, 2, 6, 7, 8, 9, 3, 4, 5] (by decide) rfl
        refine lv_istore hx hb dX5_make_59 hl (by decide) rfl (fun ls hl => ?_)
        have hl : lv_has ls 6 [(5, .int (nI n)), (4, .int (aI (cg_sr (cg_PN S F E sy x1 y1) n))), (0, .ref za), (1, .int sy), (2, .int (aI x1)), (3, .int (aI y1))] := hl
        refine lv_aload_n hx hb dX5_make_61 rfl (lv_at hl 2 rfl) ?_
        refine cx_mv (wc := [(za, .inr (5, [.ref zt, .ref zp, .ref zq, .ref zv, .ref zc, .ref zx, .ref zw])), (zc, .inr (2, [.ref zd])), (zd, .inl (kI, 40, .inl (cI f))), (zt, .inr (3, [.ref zs, .ref zf, .ref ze, .int (nI (n + 1))])), (zs, .inl (kI, 40, .inl (upd S n sy))), (zf, .inl (kI, 40, .inl (cA (wt_u F n x1)))), (ze, .inl (kI, 40, .inl (cA (wt_u E n y1)))), (zp, .inr (1, [.ref zl, .ref zr, .int (nI k)])), (zl, .inl (kI, 24, .inl (cI lf))), (zr, .inl (kI, 24, .inl (cI rt)))]) (wr := []) hP hD hS hA [0, 1, 2, 3, 4, 5, 6, 7, 8, 9] [] rfl rfl (by decide) (by decide) (va_runV (As := []) (rest := []) ⟨hx, hb, hml, hown, hts⟩ (c_X5_settleCurrent l dC dI kI kL za zt zp zq zv zc zx zw zd f zs zf ze (n + 1) (upd S n sy) (wt_u F n x1) (wt_u E n y1) zl zr k lf rt (by first | assumption | omega | rfl) (cg_wf_add qw hx1 hy1) (by first | assumption | omega | rfl) (cg_we_up qe) _) (cwV 0 hts gv_X5_67 rfl rfl rfl hdX5_settleCurrent ⟨Nat.le_of_ble_eq_true rfl, Nat.le_of_ble_eq_true rfl⟩) (cx_mreV (hP.sub (ws' := [(za, .inr (5, [.ref zt, .ref zp, .ref zq, .ref zv, .ref zc, .ref zx, .ref zw])), (zc, .inr (2, [.ref zd])), (zd, .inl (kI, 40, .inl (cI f))), (zt, .inr (3, [.ref zs, .ref zf, .ref ze, .int (nI (n + 1))])), (zs, .inl (kI, 40, .inl (upd S n sy))), (zf, .inl (kI, 40, .inl (cA (wt_u F n x1)))), (ze, .inl (kI, 40, .inl (cA (wt_u E n y1)))), (zp, .inr (1, [.ref zl, .ref zr, .int (nI k)])), (zl, .inl (kI, 24, .inl (cI lf))), (zr, .inl (kI, 24, .inl (cI rt)))]) [0, 1, 2, 3, 4, 5, 6, 7, 8, 9] rfl) hK (hD.sub (ws' := [(za, .inr (5, [.ref zt, .ref zp, .ref zq, .ref zv, .ref zc, .ref zx, .ref zw])), (zc, .inr (2, [.ref zd])), (zd, .inl (kI, 40, .inl (cI f))), (zt, .inr (3, [.ref zs, .ref zf, .ref ze, .int (nI (n + 1))])), (zs, .inl (kI, 40, .inl (upd S n sy))), (zf, .inl (kI, 40, .inl (cA (wt_u F n x1)))), (ze, .inl (kI, 40, .inl (cA (wt_u E n y1)))), (zp, .inr (1, [.ref zl, .ref zr, .int (nI k)])), (zl, .inl (kI, 24, .inl (cI lf))), (zr, .inl (kI, 24, .inl (cI rt)))]) [0, 1, 2, 3, 4, 5, 6, 7, 8, 9] (by decide) rfl) rfl (q0 := 0) rfl) rfl rfl hl.1 rfl (lv_room (Nat.le_of_ble_eq_true rfl)) dX5_make_62 ⟨Nat.zero_le _, Nat.zero_le _⟩) (fun g9 H locs hres hP hD hS => ?_)
        have hg9 := hres
        have hP : va_P (dC, dI) vwCl [(za, .inr (5, [.ref zt, .ref zp, .ref zq, .ref zv, .ref zc, .ref zx, .ref zw])), (zc, .inr (2, [.ref zd])), (zd, .inl (kI, 40, .inl (cI g9))), (zt, .inr (3, [.ref zs, .ref zf, .ref ze, .int (nI (n + 1))])), (zs, .inl (kI, 40, .inl (upd S n sy))), (zf, .inl (kI, 40, .inl (cA (wt_u F n x1)))), (ze, .inl (kI, 40, .inl (cA (wt_u E n y1)))), (zp, .inr (1, [.ref zl, .ref zr, .int (nI k)])), (zl, .inl (kI, 24, .inl (cI lf))), (zr, .inl (kI, 24, .inl (cI rt)))] H := hP.sub (ws' := [(za, .inr (5, [.ref zt, .ref zp, .ref zq, .ref zv, .ref zc, .ref zx, .ref zw])), (zc, .inr (2, [.ref zd])), (zd, .inl (kI, 40, .inl (cI g9))), (zt, .inr (3, [.ref zs, .ref zf, .ref ze, .int (nI (n + 1))])), (zs, .inl (kI, 40, .inl (upd S n sy))), (zf, .inl (kI, 40, .inl (cA (wt_u F n x1)))), (ze, .inl (kI, 40, .inl (cA (wt_u E n y1)))), (zp, .inr (1, [.ref zl, .ref zr, .int (nI k)])), (zl, .inl (kI, 24, .inl (cI lf))), (zr, .inl (kI, 24, .inl (cI rt)))]) [0, 1, 2, 3, 4, 5, 6, 7, 8, 9] rfl
        have hD : va_D AA [(za, .inr (5, [.ref zt, .ref zp, .ref zq, .ref zv, .ref zc, .ref zx, .ref zw])), (zc, .inr (2, [.ref zd])), (zd, .inl (kI, 40, .inl (cI g9))), (zt, .inr (3, [.ref zs, .ref zf, .ref ze, .int (nI (n + 1))])), (zs, .inl (kI, 40, .inl (upd S n sy))), (zf, .inl (kI, 40, .inl (cA (wt_u F n x1)))), (ze, .inl (kI, 40, .inl (cA (wt_u E n y1)))), (zp, .inr (1, [.ref zl, .ref zr, .int (nI k)])), (zl, .inl (kI, 24, .inl (cI lf))), (zr, .inl (kI, 24, .inl (cI rt)))] := hD.sub (ws' := [(za, .inr (5, [.ref zt, .ref zp, .ref zq, .ref zv, .ref zc, .ref zx, .ref zw])), (zc, .inr (2, [.ref zd])), (zd, .inl (kI, 40, .inl (cI g9))), (zt, .inr (3, [.ref zs, .ref zf, .ref ze, .int (nI (n + 1))])), (zs, .inl (kI, 40, .inl (upd S n sy))), (zf, .inl (kI, 40, .inl (cA (wt_u F n x1)))), (ze, .inl (kI, 40, .inl (cA (wt_u E n y1)))), (zp, .inr (1, [.ref zl, .ref zr, .int (nI k)])), (zl, .inl (kI, 24, .inl (cI lf))), (zr, .inl (kI, 24, .inl (cI rt)))]) [0, 1, 2, 3, 4, 5, 6, 7, 8, 9] (by decide) rfl
        refine lv_iload hx hb dX5_make_65 (lv_at hl 0 rfl) ?_
        exact W.iret (v := nI n) hx hb hr (fun t ht hW => ⟨⟨_, ((n + 1, upd S n sy, wt_u F n x1, wt_u E n y1), g9), rfl, ⟨an_make_4 qn hSh hx1 hy1 b1 b2, st_make_4 qn hSh hx1 hy1 b1 b2, hg9⟩, by rw [ht]; exact hP, hD⟩, hS.F ht⟩) hS.2.2 dX5_make_67
      refine lv_bipush (v := (-3)) hx hb dX5_make_46 (by decide) ?_
      exact W.iret (v := (-3)) hx hb hr (fun t ht hW => ⟨⟨_, ((n, S, F, E), f), rfl, ⟨an_make_3 qn hSh hx1 hy1 b1 b2, st_make_3 b2, qf⟩, by rw [ht]; exact hP, hD⟩, hS.F ht⟩) hS.2.2 dX5_make_48
    refine lv_iload hx hb dX5_make_31 (lv_at hl 0 rfl) ?_
    exact W.iret (v := aI (cg_sr (cg_PN S F E sy x1 y1) n)) hx hb hr (fun t ht hW => ⟨⟨_, ((n, S, F, E), f), rfl, ⟨an_make_2 qn hSh hx1 hy1 b1, st_make_2 qn hx1 hy1 b1, qf⟩, by rw [ht]; exact hP, hD⟩, hS.F ht⟩) hS.2.2 dX5_make_33
  refine lv_bipush (v := (-2)) hx hb dX5_make_10 (by decide) ?_
  exact W.iret (v := (-2)) hx hb hr (fun t ht hW => ⟨⟨_, ((n, S, F, E), f), rfl, ⟨an_make_1 (of_decide_eq_false b0), st_make_1 (of_decide_eq_false b0), qf⟩, by rw [ht]; exact hP, hD⟩, hS.F ht⟩) hS.2.2 dX5_make_12
