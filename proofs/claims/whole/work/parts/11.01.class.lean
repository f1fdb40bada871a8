set_option maxHeartbeats 4000000 in
set_option maxRecDepth 100000 in
theorem c_X5_isTerm (l : Launch) (dC : Nat → ClassId) (dI : Nat → Nat → Nat) (kI kL : ClassId) (za : Nat) (zt : Nat) (zp : Nat) (zq : Nat) (zv : Nat) (zc : Nat) (zx : Nat) (zw : Nat) (zs : Nat) (zf : Nat) (ze : Nat) (n : Nat) (x : Int32) : Met l yX5_isTerm (.code yX5_isTerm cX5_isTerm 2 (some .boolean) :: tbw) { frames := 0, cells := 0, slots := 0, locals := 0 } (va_Pc [.ref za, .int x] (cx_R (dC, dI) vwCl [(za, .inr (5, [.ref zt, .ref zp, .ref zq, .ref zv, .ref zc, .ref zx, .ref zw])), (zt, .inr (3, [.ref zs, .ref zf, .ref ze, .int (nI n)]))] [(kI, .int), (kL, .long)])) (vp_Si (fun r => r = bI (decide (cx_T n x)))) 0 0 (fun _ => False) := by
  refine Met.ofW (cc := cX5_isTerm) (maxL := 2) (ret := (some .boolean)) (by decide) rfl ?_
  intro p e s m args below meth c s₁ B hml hv
  obtain ⟨rfl, hP, hK⟩ := hv
  have hx := B.exec
  have hb := B.bytes
  have hr := B.returns
  have hts := atoms_spec (ws := .code yX5_isTerm cX5_isTerm 2 (some .boolean) :: tbw) B.pre
  have hw : ∀ w ∈ tbw, w.before _ s = true := fun w h => hts w (List.mem_cons_of_mem _ h)
  have hown : s.vm.findClass RX5 = some m.cls := findClass_of_methodNamed B.named
  have hP : va_P (dC, dI) vwCl [(za, .inr (5, [.ref zt, .ref zp, .ref zq, .ref zv, .ref zc, .ref zx, .ref zw])), (zt, .inr (3, [.ref zs, .ref zf, .ref ze, .int (nI n)]))] s.heap := hP
  have hl := lv_entry ([.ref za, .int x]) (n := 2) (Nat.le_of_ble_eq_true rfl)
  rw [lg_entry_eq]
  generalize (lg_sl ([.ref za, .int x]) ++ List.replicate (2 - (lg_sl ([.ref za, .int x])).length) Slot.unset).toArray = ls at hl ⊢
  have hl : lv_has ls 2 [(0, .ref za), (1, .int x)] := hl
  refine lv_iload_n hx hb dX5_isTerm_0 rfl (lv_at hl 1 rfl) ?_
  refine lv_if_lt (tgt := 19) hx hb dX5_isTerm_1 (by decide) (fun b0 => ?_) (fun b0 => ?_)
  · skip
    refine lv_iconst (v := nI 0) hx hb dX5_isTerm_19 (by decide) ?_
    exact W.zret (v := nI 0) hx hb hr (cx_narB false) (fun t ht hW => ⟨_, rfl, cx_bf (by first | exact cx_Tn1 b0 | exact cx_Tn2 b1), ht⟩) (fun _ h9 => by cases h9) dX5_isTerm_20
  refine lv_iload_n hx hb dX5_isTerm_4 rfl (lv_at hl 1 rfl) ?_
  refine lv_aload_n hx hb dX5_isTerm_5 rfl (lv_at hl 0 rfl) ?_
  refine va_get (D := (dC, dI)) (ci := 5) (v := .ref zt) (C := RX5) (T := TX5) (N := 7) hx hb hts (tb_c tbX5) hown hK hP 0 rfl rfl 0 (by decide) (hw _ tw_115) (fun _ h9 => h9) rfl dX5_isTerm_6 ?_
  refine va_get (D := (dC, dI)) (ci := 3) (v := .int (nI n)) (C := RX3) (T := TX3) (N := 4) hx hb hts (tb_c tbX3) hown hK hP 1 rfl rfl 3 (by decide) (hw _ tw_35) (fun _ h9 => h9) rfl dX5_isTerm_9 ?_
  refine lv_icmp_ge (tgt := 19) hx hb dX5_isTerm_12 (by decide) (fun b1 => ?_) (fun b1 => ?_)
  · skip
    refine lv_iconst (v := nI 0) hx hb dX5_isTerm_19 (by decide) ?_
    exact W.zret (v := nI 0) hx hb hr (cx_narB false) (fun t ht hW => ⟨_, rfl, cx_bf (by first | exact cx_Tn1 b0 | exact cx_Tn2 b1), ht⟩) (fun _ h9 => by cases h9) dX5_isTerm_20
  refine lv_iconst (v := nI 1) hx hb dX5_isTerm_15 (by decide) ?_
  refine lv_goto (tgt := 20) hx hb dX5_isTerm_16 (by decide) ?_
  exact W.zret (v := nI 1) hx hb hr (cx_narB true) (fun t ht hW => ⟨_, rfl, cx_bt (cx_Ty b0 b1), ht⟩) (fun _ h9 => by cases h9) dX5_isTerm_20

set_option maxHeartbeats 4000000 in
set_option maxRecDepth 100000 in
theorem c_X5_areTerms (l : Launch) (dC : Nat → ClassId) (dI : Nat → Nat → Nat) (kI kL : ClassId) (za : Nat) (zt : Nat) (zp : Nat) (zq : Nat) (zv : Nat) (zc : Nat) (zx : Nat) (zw : Nat) (zs : Nat) (zf : Nat) (ze : Nat) (n : Nat) (x : Int32) (y : Int32) : Met l yX5_areTerms (.code yX5_areTerms cX5_areTerms 3 (some .boolean) :: tbw) { frames := 1, cells := 0, slots := 0, locals := 21 } (va_Pc [.ref za, .int x, .int y] (cx_R (dC, dI) vwCl [(za, .inr (5, [.ref zt, .ref zp, .ref zq, .ref zv, .ref zc, .ref zx, .ref zw])), (zt, .inr (3, [.ref zs, .ref zf, .ref ze, .int (nI n)]))] [(kI, .int), (kL, .long)])) (vp_Si (fun r => r = bI (decide (cx_T n x ∧ cx_T n y)))) 0 0 (fun _ => False) := by
  refine Met.ofW (cc := cX5_areTerms) (maxL := 3) (ret := (some .boolean)) (by decide) rfl ?_
  intro p e s m args below meth c s₁ B hml hv
  obtain ⟨rfl, hP, hK⟩ := hv
  have hx := B.exec
  have hb := B.bytes
  have hr := B.returns
  have hts := atoms_spec (ws := .code yX5_areTerms cX5_areTerms 3 (some .boolean) :: tbw) B.pre
  have hw : ∀ w ∈ tbw, w.before _ s = true := fun w h => hts w (List.mem_cons_of_mem _ h)
  have hown : s.vm.findClass RX5 = some m.cls := findClass_of_methodNamed B.named
  have hP : va_P (dC, dI) vwCl [(za, .inr (5, [.ref zt, .ref zp, .ref zq, .ref zv, .ref zc, .ref zx, .ref zw])), (zt, .inr (3, [.ref zs, .ref zf, .ref ze, .int (nI n)]))] s.heap := hP
  have hl := lv_entry ([.ref za, .int x, .int y]) (n := 3) (Nat.le_of_ble_eq_true rfl)
  rw [lg_entry_eq]
  generalize (lg_sl ([.ref za, .int x, .int y]) ++ List.replicate (3 - (lg_sl ([.ref za, .int x, .int y])).length) Slot.unset).toArray = ls at hl ⊢
  have hl : lv_has ls 3 [(0, .ref za), (1, .int x), (2, .int y)] := hl
  refine lv_aload_n hx hb dX5_areTerms_0 rfl (lv_at hl 0 rfl) ?_
  refine lv_iload_n hx hb dX5_areTerms_1 rfl (lv_at hl 1 rfl) ?_
  refine cx_si (va_runV (As := [.int x]) (rest := []) ⟨hx, hb, hml, hown, hts⟩ (c_X5_isTerm l dC dI kI kL za zt zp zq zv zc zx zw zs zf ze n x ) (cwV 1 hts gv_X5_112 rfl rfl rfl hdX5_isTerm ⟨Nat.le_of_ble_eq_true rfl, Nat.le_of_ble_eq_true rfl⟩) (cx_preV (hP.sub (ws' := [(za, .inr (5, [.ref zt, .ref zp, .ref zq, .ref zv, .ref zc, .ref zx, .ref zw])), (zt, .inr (3, [.ref zs, .ref zf, .ref ze, .int (nI n)]))]) [0, 1] rfl) hK rfl (q0 := 0) rfl) rfl rfl hl.1 rfl (lv_room (Nat.le_of_ble_eq_true rfl)) dX5_areTerms_2 ⟨Nat.zero_le _, Nat.zero_le _⟩) (fun r hres => ?_)
  subst hres
  refine cx_if0 (tgt := 20) hx hb dX5_areTerms_5 (by decide) (fun b0 => ?_) (fun b0 => ?_)
  · skip
    refine lv_iconst (v := nI 0) hx hb dX5_areTerms_20 (by decide) ?_
    exact W.zret (v := nI 0) hx hb hr (cx_narB false) (fun t ht hW => ⟨_, rfl, cx_bf (by first | exact fun h => of_decide_eq_false b0 h.1 | exact fun h => of_decide_eq_false b1 h.2), ht⟩) (fun _ h9 => by cases h9) dX5_areTerms_21
  refine lv_aload_n hx hb dX5_areTerms_8 rfl (lv_at hl 0 rfl) ?_
  refine lv_iload_n hx hb dX5_areTerms_9 rfl (lv_at hl 2 rfl) ?_
  refine cx_si (va_runV (As := [.int y]) (rest := []) ⟨hx, hb, hml, hown, hts⟩ (c_X5_isTerm l dC dI kI kL za zt zp zq zv zc zx zw zs zf ze n y ) (cwV 1 hts gv_X5_112 rfl rfl rfl hdX5_isTerm ⟨Nat.le_of_ble_eq_true rfl, Nat.le_of_ble_eq_true rfl⟩) (cx_preV (hP.sub (ws' := [(za, .inr (5, [.ref zt, .ref zp, .ref zq, .ref zv, .ref zc, .ref zx, .ref zw])), (zt, .inr (3, [.ref zs, .ref zf, .ref ze, .int (nI n)]))]) [0, 1] rfl) hK rfl (q0 := 0) rfl) rfl rfl hl.1 rfl (lv_room (Nat.le_of_ble_eq_true rfl)) dX5_areTerms_10 ⟨Nat.zero_le _, Nat.zero_le _⟩) (fun r hres => ?_)
  subst hres
  refine cx_if0 (tgt := 20) hx hb dX5_areTerms_13 (by decide) (fun b1 => ?_) (fun b1 => ?_)
  · skip
    refine lv_iconst (v := nI 0) hx hb dX5_areTerms_20 (by decide) ?_
    exact W.zret (v := nI 0) hx hb hr (cx_narB false) (fun t ht hW => ⟨_, rfl, cx_bf (by first | exact fun h => of_decide_eq_false b0 h.1 | exact fun h => of_decide_eq_false b1 h.2), ht⟩) (fun _ h9 => by cases h9) dX5_areTerms_21
  refine lv_iconst (v := nI 1) hx hb dX5_areTerms_16 (by decide) ?_
  refine lv_goto (tgt := 21) hx hb dX5_areTerms_17 (by decide) ?_
  exact W.zret (v := nI 1) hx hb hr (cx_narB true) (fun t ht hW => ⟨_, rfl, cx_bt ⟨of_decide_eq_true b0, of_decide_eq_true b1⟩, ht⟩) (fun _ h9 => by cases h9) dX5_areTerms_21

set_option maxHeartbeats 4000000 in
set_option maxRecDepth 100000 in
theorem c_X5_isShape (l : Launch) (dC : Nat → ClassId) (dI : Nat → Nat → Nat) (kI kL : ClassId) (za : Nat) (zt : Nat) (zp : Nat) (zq : Nat) (zv : Nat) (zc : Nat) (zx : Nat) (zw : Nat) (zs : Nat) (zf : Nat) (ze : Nat) (n : Nat) (sy : Int32) (a : Int32) (b : Int32) : Met l yX5_isShape (.code yX5_isShape cX5_isShape 4 (some .boolean) :: tbw) { frames := 1, cells := 0, slots := 0, locals := 21 } (va_Pc [.ref za, .int sy, .int a, .int b] (cx_R (dC, dI) vwCl [(za, .inr (5, [.ref zt, .ref zp, .ref zq, .ref zv, .ref zc, .ref zx, .ref zw])), (zt, .inr (3, [.ref zs, .ref zf, .ref ze, .int (nI n)]))] [(kI, .int), (kL, .long)])) (vp_Si (fun r => r = bI (decide (cx_sh n sy a b)))) 0 0 (fun _ => False) := by
  refine Met.ofW (cc := cX5_isShape) (maxL := 4) (ret := (some .boolean)) (by decide) rfl ?_
  intro p e s m args below meth c s₁ B hml hv
  obtain ⟨rfl, hP, hK⟩ := hv
  have hx := B.exec
  have hb := B.bytes
  have hr := B.returns
  have hts := atoms_spec (ws := .code yX5_isShape cX5_isShape 4 (some .boolean) :: tbw) B.pre
  have hw : ∀ w ∈ tbw, w.before _ s = true := fun w h => hts w (List.mem_cons_of_mem _ h)
  have hown : s.vm.findClass RX5 = some m.cls := findClass_of_methodNamed B.named
  have hP : va_P (dC, dI) vwCl [(za, .inr (5, [.ref zt, .ref zp, .ref zq, .ref zv, .ref zc, .ref zx, .ref zw])), (zt, .inr (3, [.ref zs, .ref zf, .ref ze, .int (nI n)]))] s.heap := hP
  have hl := lv_entry ([.ref za, .int sy, .int a, .int b]) (n := 4) (Nat.le_of_ble_eq_true rfl)
  rw [lg_entry_eq]
  generalize (lg_sl ([.ref za, .int sy, .int a, .int b]) ++ List.replicate (4 - (lg_sl ([.ref za, .int sy, .int a, .int b])).length) Slot.unset).toArray = ls at hl ⊢
  have hl : lv_has ls 4 [(0, .ref za), (1, .int sy), (2, .int a), (3, .int b)] := hl
  refine lv_iload_n hx hb dX5_isShape_0 rfl (lv_at hl 1 rfl) ?_
  refine lv_if_lt (tgt := 10) hx hb dX5_isShape_1 (by decide) (fun b0 => ?_) (fun b0 => ?_)
  · skip
    refine lv_iconst (v := nI 0) hx hb dX5_isShape_10 (by decide) ?_
    exact W.zret (v := nI 0) hx hb hr (cx_narB false) (fun t ht hW => ⟨_, rfl, cx_bf (by first | exact cx_sh1 b0 | exact cx_sh2 b1), ht⟩) (fun _ h9 => by cases h9) dX5_isShape_11
  refine lv_iload_n hx hb dX5_isShape_4 rfl (lv_at hl 1 rfl) ?_
  refine lv_bipush (v := nI 16) hx hb dX5_isShape_5 (by decide) ?_
  refine lv_icmp_lt (tgt := 12) hx hb dX5_isShape_7 (by decide) (fun b1 => ?_) (fun b1 => ?_)
  · skip
    refine lv_iload_n hx hb dX5_isShape_12 rfl (lv_at hl 2 rfl) ?_
    refine lv_iconst (v := (-1)) hx hb dX5_isShape_13 (by decide) ?_
    refine lv_icmp_ne (tgt := 28) hx hb dX5_isShape_14 (by decide) (fun b2 => ?_) (fun b2 => ?_)
    · skip
      refine lv_aload_n hx hb dX5_isShape_28 rfl (lv_at hl 0 rfl) ?_
      refine lv_iload_n hx hb dX5_isShape_29 rfl (lv_at hl 2 rfl) ?_
      refine cx_si (va_runV (As := [.int a]) (rest := []) ⟨hx, hb, hml, hown, hts⟩ (c_X5_isTerm l dC dI kI kL za zt zp zq zv zc zx zw zs zf ze n a ) (cwV 1 hts gv_X5_112 rfl rfl rfl hdX5_isTerm ⟨Nat.le_of_ble_eq_true rfl, Nat.le_of_ble_eq_true rfl⟩) (cx_preV (hP.sub (ws' := [(za, .inr (5, [.ref zt, .ref zp, .ref zq, .ref zv, .ref zc, .ref zx, .ref zw])), (zt, .inr (3, [.ref zs, .ref zf, .ref ze, .int (nI n)]))]) [0, 1] rfl) hK rfl (q0 := 0) rfl) rfl rfl hl.1 rfl (lv_room (Nat.le_of_ble_eq_true rfl)) dX5_isShape_30 ⟨Nat.zero_le _, Nat.zero_le _⟩) (fun r hres => ?_)
      subst hres
      refine cx_if0 (tgt := 53) hx hb dX5_isShape_33 (by decide) (fun b4 => ?_) (fun b4 => ?_)
      · skip
        refine lv_iconst (v := nI 0) hx hb dX5_isShape_53 (by decide) ?_
        exact W.zret (v := nI 0) hx hb hr (cx_narB false) (fun t ht hW => ⟨_, rfl, cx_bf (by first | exact cx_sh6 b2 (of_decide_eq_false b4) | exact cx_sh7 b2 b5 (of_decide_eq_false b6)), ht⟩) (fun _ h9 => by cases h9) dX5_isShape_54
      refine lv_iload_n hx hb dX5_isShape_36 rfl (lv_at hl 3 rfl) ?_
      refine lv_iconst (v := (-1)) hx hb dX5_isShape_37 (by decide) ?_
      refine lv_icmp_eq (tgt := 49) hx hb dX5_isShape_38 (by decide) (fun b5 => ?_) (fun b5 => ?_)
      · skip
        refine lv_iconst (v := nI 1) hx hb dX5_isShape_49 (by decide) ?_
        refine lv_goto (tgt := 54) hx hb dX5_isShape_50 (by decide) ?_
        exact W.zret (v := nI 1) hx hb hr (cx_narB true) (fun t ht hW => ⟨_, rfl, cx_bt (cx_sh5 b0 b1 (of_decide_eq_true b4) (by first | exact Or.inl b5 | exact Or.inr (of_decide_eq_true b6))), ht⟩) (fun _ h9 => by cases h9) dX5_isShape_54
      refine lv_aload_n hx hb dX5_isShape_41 rfl (lv_at hl 0 rfl) ?_
      refine lv_iload_n hx hb dX5_isShape_42 rfl (lv_at hl 3 rfl) ?_
      refine cx_si (va_runV (As := [.int b]) (rest := []) ⟨hx, hb, hml, hown, hts⟩ (c_X5_isTerm l dC dI kI kL za zt zp zq zv zc zx zw zs zf ze n b ) (cwV 1 hts gv_X5_112 rfl rfl rfl hdX5_isTerm ⟨Nat.le_of_ble_eq_true rfl, Nat.le_of_ble_eq_true rfl⟩) (cx_preV (hP.sub (ws' := [(za, .inr (5, [.ref zt, .ref zp, .ref zq, .ref zv, .ref zc, .ref zx, .ref zw])), (zt, .inr (3, [.ref zs, .ref zf, .ref ze, .int (nI n)]))]) [0, 1] rfl) hK rfl (q0 := 0) rfl) rfl rfl hl.1 rfl (lv_room (Nat.le_of_ble_eq_true rfl)) dX5_isShape_43 ⟨Nat.zero_le _, Nat.zero_le _⟩) (fun r hres => ?_)
      subst hres
      refine cx_if0 (tgt := 53) hx hb dX5_isShape_46 (by decide) (fun b6 => ?_) (fun b6 => ?_)
      · skip
        refine lv_iconst (v := nI 0) hx hb dX5_isShape_53 (by decide) ?_
        exact W.zret (v := nI 0) hx hb hr (cx_narB false) (fun t ht hW => ⟨_, rfl, cx_bf (by first | exact cx_sh6 b2 (of_decide_eq_false b4) | exact cx_sh7 b2 b5 (of_decide_eq_false b6)), ht⟩) (fun _ h9 => by cases h9) dX5_isShape_54
      refine lv_iconst (v := nI 1) hx hb dX5_isShape_49 (by decide) ?_
      refine lv_goto (tgt := 54) hx hb dX5_isShape_50 (by decide) ?_
      exact W.zret (v := nI 1) hx hb hr (cx_narB true) (fun t ht hW => ⟨_, rfl, cx_bt (cx_sh5 b0 b1 (of_decide_eq_true b4) (by first | exact Or.inl b5 | exact Or.inr (of_decide_eq_true b6))), ht⟩) (fun _ h9 => by cases h9) dX5_isShape_54
    refine lv_iload_n hx hb dX5_isShape_17 rfl (lv_at hl 3 rfl) ?_
    refine lv_iconst (v := (-1)) hx hb dX5_isShape_18 (by decide) ?_
    refine lv_icmp_ne (tgt := 26) hx hb dX5_isShape_19 (by decide) (fun b3 => ?_) (fun b3 => ?_)
    · skip
      refine lv_iconst (v := nI 0) hx hb dX5_isShape_26 (by decide) ?_
      exact W.zret (v := nI 0) hx hb hr (cx_narB false) (fun t ht hW => ⟨_, rfl, cx_bf (cx_sh4 b2 b3), ht⟩) (fun _ h9 => by cases h9) dX5_isShape_27
    refine lv_iconst (v := nI 1) hx hb dX5_isShape_22 (by decide) ?_
    refine lv_goto (tgt := 27) hx hb dX5_isShape_23 (by decide) ?_
    exact W.zret (v := nI 1) hx hb hr (cx_narB true) (fun t ht hW => ⟨_, rfl, cx_bt (cx_sh3 b0 b1 b2 b3), ht⟩) (fun _ h9 => by cases h9) dX5_isShape_27
  refine lv_iconst (v := nI 0) hx hb dX5_isShape_10 (by decide) ?_
  exact W.zret (v := nI 0) hx hb hr (cx_narB false) (fun t ht hW => ⟨_, rfl, cx_bf (by first | exact cx_sh1 b0 | exact cx_sh2 b1), ht⟩) (fun _ h9 => by cases h9) dX5_isShape_11

set_option maxHeartbeats 4000000 in
set_option maxRecDepth 100000 in
theorem c_X5_allBelow (l : Launch) (dC : Nat → ClassId) (dI : Nat → Nat → Nat) (kI kL : ClassId) (k : Nat) : Met l yX5_allBelow (.code yX5_allBelow cX5_allBelow 1 (some .int) :: tbw) { frames := 0, cells := 0, slots := 0, locals := 0 } (va_Pc [.int (nI k)] (cx_R (dC, dI) vwCl [] [(kI, .int), (kL, .long)])) (vp_Si (fun r => r = (cb_ab k))) 0 0 (fun _ => False) := by
  refine Met.ofW (cc := cX5_allBelow) (maxL := 1) (ret := (some .int)) (by decide) rfl ?_
  intro p e s m args below meth c s₁ B hml hv
  obtain ⟨rfl, hP, hK⟩ := hv
  have hx := B.exec
  have hb := B.bytes
  have hr := B.returns
  have hts := atoms_spec (ws := .code yX5_allBelow cX5_allBelow 1 (some .int) :: tbw) B.pre
  have hw : ∀ w ∈ tbw, w.before _ s = true := fun w h => hts w (List.mem_cons_of_mem _ h)
  have hown : s.vm.findClass RX5 = some m.cls := findClass_of_methodNamed B.named
  have hP : va_P (dC, dI) vwCl [] s.heap := hP
  have hl := lv_entry ([.int (nI k)]) (n := 1) (Nat.le_of_ble_eq_true rfl)
  rw [lg_entry_eq]
  generalize (lg_sl ([.int (nI k)]) ++ List.replicate (1 - (lg_sl ([.int (nI k)])).length) Slot.unset).toArray = ls at hl ⊢
  have hl : lv_has ls 1 [(0, .int (nI k))] := hl
  refine lv_iconst (v := nI 1) hx hb dX5_allBelow_0 (by decide) ?_
  refine lv_iload_n hx hb dX5_allBelow_1 rfl (lv_at hl 0 rfl) ?_
  refine lv_ishl hx hb dX5_allBelow_2 ?_
  refine lv_iconst (v := nI 1) hx hb dX5_allBelow_3 (by decide) ?_
  refine lv_isub hx hb dX5_allBelow_4 ?_
  exact W.iret (v := (((nI 1) <<< ((nI k) &&& 31)) - nI 1)) hx hb hr (fun t ht hW => ⟨_, rfl, rfl, ht⟩) (fun _ h9 => by cases h9) dX5_allBelow_5
