set_option maxHeartbeats 4000000 in
set_option maxRecDepth 100000 in
theorem c_X4_symbolAt (l : Launch) (dC : Nat → ClassId) (dI : Nat → Nat → Nat) (kI kL : ClassId) (zw : Nat) (zg : Nat) (zc : Nat) (zd : Nat) (f : Nat → Nat) (zt : Nat) (zs : Nat) (zf : Nat) (ze : Nat) (n : Nat) (S : Nat → Int32) (F : Nat → Nat) (E : Nat → Nat) (i : Nat) (z : Nat) (qn : n ≤ 40) (hB : ∀ u, u < n → f u < n) (qw : cg_wf (S, F, E) n) (qi : i < n) (qz : z < wt_f (S, F, E) f n (f i)) (qz2 : z < 2 ^ 31) : Met l yX4_symbolAt (.code yX4_symbolAt cX4_symbolAt 12 (some .int) :: tbw) { frames := 4, cells := 0, slots := 0, locals := 91 } (va_Pc [.ref zw, .ref zt, .ref zc, .int (nI i), .int (nI z)] (cx_R (dC, dI) vwCl [(zw, .inr (4, [.ref zg])), (zg, .inl (kL, 40, .inr (.inl (cL (wt_f (S, F, E) f n))))), (zc, .inr (2, [.ref zd])), (zd, .inl (kI, 40, .inl (cI f))), (zt, .inr (3, [.ref zs, .ref zf, .ref ze, .int (nI n)])), (zs, .inl (kI, 40, .inl S)), (zf, .inl (kI, 40, .inl (cA F))), (ze, .inl (kI, 40, .inl (cA E)))] [(kI, .int), (kL, .long)])) (vp_Si (fun r => r = (wt_y4 (S, F, E) f n i z))) 0 0 (fun _ => False) := by
  refine Met.ofW (cc := cX4_symbolAt) (maxL := 12) (ret := (some .int)) (by decide) rfl ?_
  intro p e s m args below meth c s₁ B hml hv
  obtain ⟨rfl, hP, hK⟩ := hv
  have hx := B.exec
  have hb := B.bytes
  have hr := B.returns
  have hts := atoms_spec (ws := .code yX4_symbolAt cX4_symbolAt 12 (some .int) :: tbw) B.pre
  have hw : ∀ w ∈ tbw, w.before _ s = true := fun w h => hts w (List.mem_cons_of_mem _ h)
  have hown : s.vm.findClass RX4 = some m.cls := findClass_of_methodNamed B.named
  have hP : va_P (dC, dI) vwCl [(zw, .inr (4, [.ref zg])), (zg, .inl (kL, 40, .inr (.inl (cL (wt_f (S, F, E) f n))))), (zc, .inr (2, [.ref zd])), (zd, .inl (kI, 40, .inl (cI f))), (zt, .inr (3, [.ref zs, .ref zf, .ref ze, .int (nI n)])), (zs, .inl (kI, 40, .inl S)), (zf, .inl (kI, 40, .inl (cA F))), (ze, .inl (kI, 40, .inl (cA E)))] s.heap := hP
  have hl := lv_entry ([.ref zw, .ref zt, .ref zc, .int (nI i), .int (nI z)]) (n := 12) (Nat.le_of_ble_eq_true rfl)
  rw [lg_entry_eq]
  generalize (lg_sl ([.ref zw, .ref zt, .ref zc, .int (nI i), .int (nI z)]) ++ List.replicate (12 - (lg_sl ([.ref zw, .ref zt, .ref zc, .int (nI i), .int (nI z)])).length) Slot.unset).toArray = ls at hl ⊢
  have hl : lv_has ls 12 [(0, .ref zw), (1, .ref zt), (2, .ref zc), (3, .int (nI i)), (4, .int (nI z))] := hl
  have hW := wt_f_u (T := (S, F, E)) (L := f) (n := n)
  have g0 := wt_g_b (T := (S, F, E)) qw hB qn qi qz
  refine lv_aload_n hx hb dX4_symbolAt_0 rfl (lv_at hl 0 rfl) ?_
  refine lv_aload_n hx hb dX4_symbolAt_1 rfl (lv_at hl 1 rfl) ?_
  refine lv_aload_n hx hb dX4_symbolAt_2 rfl (lv_at hl 2 rfl) ?_
  refine lv_iload_n hx hb dX4_symbolAt_3 rfl (lv_at hl 3 rfl) ?_
  refine cx_si (va_runV (As := [.ref zt, .ref zc, .int (nI i)]) (rest := []) ⟨hx, hb, hml, hown, hts⟩ (c_X4_lightest l dC dI kI kL zw zg zc zd f zt zs zf ze n S F E i (by first | assumption | omega | rfl) (by first | assumption | omega | rfl) (by first | assumption | omega | rfl) (by first | assumption | omega | rfl)) (cwV 3 hts gv_X4_60 rfl rfl rfl hdX4_lightest ⟨Nat.le_of_ble_eq_true rfl, Nat.le_of_ble_eq_true rfl⟩) (cx_preV (hP.sub (ws' := [(zw, .inr (4, [.ref zg])), (zg, .inl (kL, 40, .inr (.inl (cL (wt_f (S, F, E) f n))))), (zc, .inr (2, [.ref zd])), (zd, .inl (kI, 40, .inl (cI f))), (zt, .inr (3, [.ref zs, .ref zf, .ref ze, .int (nI n)])), (zs, .inl (kI, 40, .inl S)), (zf, .inl (kI, 40, .inl (cA F))), (ze, .inl (kI, 40, .inl (cA E)))]) [0, 1, 2, 3, 4, 5, 6, 7] rfl) hK rfl (q0 := 0) rfl) rfl rfl hl.1 rfl (lv_room (Nat.le_of_ble_eq_true rfl)) dX4_symbolAt_4 ⟨Nat.zero_le _, Nat.zero_le _⟩) (fun r hres => ?_)
  subst hres
  refine lv_istore hx hb dX4_symbolAt_7 hl (by decide) rfl (fun ls hl => ?_)
  have hl : lv_has ls 12 [(5, .int (nI (wt_b (S, F, E) f n i))), (0, .ref zw), (1, .ref zt), (2, .ref zc), (3, .int (nI i)), (4, .int (nI z))] := hl
  refine lv_iload hx hb dX4_symbolAt_9 (lv_at hl 5 rfl) ?_
  refine lv_i2l (v := lN z) hx hb dX4_symbolAt_11 (nI_l (by first | omega | exact hB _ (by omega) | exact Nat.lt_of_lt_of_le (hB _ (by omega)) (by omega))) ?_
  refine lv_lstore hx hb dX4_symbolAt_12 hl (by decide) rfl (fun ls hl => ?_)
  have hl : lv_has ls 12 [(6, .long (lN z)), (5, .int (nI (wt_b (S, F, E) f n i))), (0, .ref zw), (1, .ref zt), (2, .ref zc), (3, .int (nI i)), (4, .int (nI z))] := hl
  refine lv_iconst (v := nI 0) hx hb dX4_symbolAt_14 (by decide) ?_
  refine lv_istore hx hb dX4_symbolAt_15 hl (by decide) rfl (fun ls hl => ?_)
  have hl : lv_has ls 12 [(8, .int (nI 0)), (6, .long (lN z)), (5, .int (nI (wt_b (S, F, E) f n i))), (0, .ref zw), (1, .ref zt), (2, .ref zc), (3, .int (nI i)), (4, .int (nI z))] := hl
  refine cx_loopR3 (fun (x : Nat) (y : Nat) (r9 : Nat) (ls : Array Slot) => lv_has ls 12 [(5, .int (nI x)), (6, .long (lN y)), (8, .int (nI r9)), (0, .ref zw), (1, .ref zt), (2, .ref zc), (3, .int (nI i)), (4, .int (nI z))] ∧ (r9 ≤ 40) ∧ ((x, y) = wt_w (S, F, E) f n (wt_b (S, F, E) f n i, z) r9)) (fun x y r9 => 40 - r9) (fun x y r9 ls hI ih1 => ?_) (wt_b (S, F, E) f n i) z 0 ⟨lv_sub hl [2, 1, 0, 3, 4, 5, 6, 7] rfl, (by first | assumption | omega | rfl), (rfl)⟩
  obtain ⟨hl, hr9, hxy⟩ := hI
  have gx := (wt_w_g qw hB qn g0 r9).1
  rw [← hxy] at gx
  have gx1 : x < n := gx.1
  have gx2 : y < wt_f (S, F, E) f n (f x) := gx.2.2
  have gx3 := hW (f x)
  have gx4 : F x ≤ x ∧ E x ≤ x := qw x gx1
  have gx5 := wt_a_b (L := f) hW (F x)
  refine lv_iload hx hb dX4_symbolAt_17 (lv_at hl 2 rfl) ?_
  refine lv_bipush (v := nI 40) hx hb dX4_symbolAt_19 (by decide) ?_
  refine cx_ge (x := r9) (y := 40) (tgt := 103) hx hb dX4_symbolAt_21 (by decide) (by first | omega | exact hB _ (by omega) | exact Nat.lt_of_lt_of_le (hB _ (by omega)) (by omega)) (by first | omega | exact hB _ (by omega) | exact Nat.lt_of_lt_of_le (hB _ (by omega)) (by omega)) (fun b0 => ?_) (fun b0 => ?_)
  · skip
    refine lv_aload_n hx hb dX4_symbolAt_103 rfl (lv_at hl 4 rfl) ?_
    refine va_get (D := (dC, dI)) (ci := 3) (v := .ref zs) (C := RX3) (T := TX3) (N := 4) hx hb hts (tb_c tbX3) hown hK hP 4 rfl rfl 0 (by decide) (hw _ tw_26) (fun _ h9 => h9) rfl dX4_symbolAt_104 ?_
    refine lv_iload hx hb dX4_symbolAt_107 (lv_at hl 0 rfl) ?_
    refine cx_iald hx hb hK hP 5 0 rfl rfl (by first | decide | omega) (v := (S x)) (i := x) rfl (by first | omega | exact hB _ (by omega) | exact Nat.lt_of_lt_of_le (hB _ (by omega)) (by omega)) dX4_symbolAt_109 ?_
    exact W.iret (v := (S x)) hx hb hr (fun t ht hW => ⟨_, rfl, wt_y4_e qw hB qn g0 hxy (by first | exact Or.inr b0 | exact Or.inl (Nat.le_zero.mp b1)), ht⟩) (fun _ h9 => by cases h9) dX4_symbolAt_110
  refine lv_lload hx hb dX4_symbolAt_24 (lv_at hl 1 rfl) ?_
  refine lv_lconst (v := lN 0) hx hb dX4_symbolAt_26 (by decide) ?_
  refine cx_lle (tgt := 103) hx hb dX4_symbolAt_27 dX4_symbolAt_28 (by decide) (by first | omega | exact hB _ (by omega) | exact Nat.lt_of_lt_of_le (hB _ (by omega)) (by omega)) (by first | omega | exact hB _ (by omega) | exact Nat.lt_of_lt_of_le (hB _ (by omega)) (by omega)) (fun b1 => ?_) (fun b1 => ?_)
  · skip
    refine lv_aload_n hx hb dX4_symbolAt_103 rfl (lv_at hl 4 rfl) ?_
    refine va_get (D := (dC, dI)) (ci := 3) (v := .ref zs) (C := RX3) (T := TX3) (N := 4) hx hb hts (tb_c tbX3) hown hK hP 4 rfl rfl 0 (by decide) (hw _ tw_26) (fun _ h9 => h9) rfl dX4_symbolAt_104 ?_
    refine lv_iload hx hb dX4_symbolAt_107 (lv_at hl 0 rfl) ?_
    refine cx_iald hx hb hK hP 5 0 rfl rfl (by first | decide | omega) (v := (S x)) (i := x) rfl (by first | omega | exact hB _ (by omega) | exact Nat.lt_of_lt_of_le (hB _ (by omega)) (by omega)) dX4_symbolAt_109 ?_
    exact W.iret (v := (S x)) hx hb hr (fun t ht hW => ⟨_, rfl, wt_y4_e qw hB qn g0 hxy (by first | exact Or.inr b0 | exact Or.inl (Nat.le_zero.mp b1)), ht⟩) (fun _ h9 => by cases h9) dX4_symbolAt_110
  have gn := wt_n_g qw hB qn gx (by show ¬ y = 0; omega)
  refine lv_lload hx hb dX4_symbolAt_31 (lv_at hl 1 rfl) ?_
  refine lv_lconst (v := lN 1) hx hb dX4_symbolAt_33 (by decide) ?_
  refine cx_lsub hx hb dX4_symbolAt_34 (by omega) ?_
  refine lv_lstore hx hb dX4_symbolAt_35 hl (by decide) rfl (fun ls hl => ?_)
  have hl : lv_has ls 12 [(6, .long (lN (y - 1))), (5, .int (nI x)), (8, .int (nI r9)), (0, .ref zw), (1, .ref zt), (2, .ref zc), (3, .int (nI i)), (4, .int (nI z))] := hl
  refine lv_aload_n hx hb dX4_symbolAt_37 rfl (lv_at hl 4 rfl) ?_
  refine va_get (D := (dC, dI)) (ci := 3) (v := .ref zf) (C := RX3) (T := TX3) (N := 4) hx hb hts (tb_c tbX3) hown hK hP 4 rfl rfl 1 (by decide) (hw _ tw_28) (fun _ h9 => h9) rfl dX4_symbolAt_38 ?_
  refine lv_iload hx hb dX4_symbolAt_41 (lv_at hl 1 rfl) ?_
  refine cx_iald hx hb hK hP 6 0 rfl rfl (by first | decide | omega) (v := aI (F x)) (i := x) rfl (by first | omega | exact hB _ (by omega) | exact Nat.lt_of_lt_of_le (hB _ (by omega)) (by omega)) dX4_symbolAt_43 ?_
  refine lv_istore hx hb dX4_symbolAt_44 hl (by decide) rfl (fun ls hl => ?_)
  have hl : lv_has ls 12 [(9, .int (aI (F x))), (6, .long (lN (y - 1))), (5, .int (nI x)), (8, .int (nI r9)), (0, .ref zw), (1, .ref zt), (2, .ref zc), (3, .int (nI i)), (4, .int (nI z))] := hl
  refine lv_aload_n hx hb dX4_symbolAt_46 rfl (lv_at hl 4 rfl) ?_
  refine lv_aload_n hx hb dX4_symbolAt_47 rfl (lv_at hl 6 rfl) ?_
  refine lv_iload hx hb dX4_symbolAt_48 (lv_at hl 0 rfl) ?_
  refine cx_sl (va_runV (As := [.ref zc, .int (aI (F x))]) (rest := []) ⟨hx, hb, hml, hown, hts⟩ (c_X4_ofArgument l dC dI kI kL zw zg (wt_f (S, F, E) f n) zc zd f n (F x) (by first | assumption | omega | rfl) (by first | assumption | omega | rfl) (by first | assumption | omega | rfl)) (cwV 2 hts gv_X4_46 rfl rfl rfl hdX4_ofArgument ⟨Nat.le_of_ble_eq_true rfl, Nat.le_of_ble_eq_true rfl⟩) (cx_preV (hP.sub (ws' := [(zw, .inr (4, [.ref zg])), (zg, .inl (kL, 40, .inr (.inl (cL (wt_f (S, F, E) f n))))), (zc, .inr (2, [.ref zd])), (zd, .inl (kI, 40, .inl (cI f)))]) [0, 1, 2, 3] rfl) hK rfl (q0 := 0) rfl) rfl rfl hl.1 rfl (lv_room (Nat.le_of_ble_eq_true rfl)) dX4_symbolAt_50 ⟨Nat.zero_le _, Nat.zero_le _⟩) (fun r hres => ?_)
  subst hres
  refine lv_lstore hx hb dX4_symbolAt_53 hl (by decide) rfl (fun ls hl => ?_)
  have hl : lv_has ls 12 [(10, .long (lN (wt_a f (wt_f (S, F, E) f n) (F x)))), (9, .int (aI (F x))), (6, .long (lN (y - 1))), (5, .int (nI x)), (8, .int (nI r9)), (0, .ref zw), (1, .ref zt), (2, .ref zc), (3, .int (nI i)), (4, .int (nI z))] := hl
  refine lv_lload hx hb dX4_symbolAt_55 (lv_at hl 2 rfl) ?_
  refine lv_lload hx hb dX4_symbolAt_57 (lv_at hl 0 rfl) ?_
  refine cx_llt (tgt := 79) hx hb dX4_symbolAt_59 dX4_symbolAt_60 (by decide) (by first | omega | exact hB _ (by omega) | exact Nat.lt_of_lt_of_le (hB _ (by omega)) (by omega)) (by first | omega | exact hB _ (by omega) | exact Nat.lt_of_lt_of_le (hB _ (by omega)) (by omega)) (fun b2 => ?_) (fun b2 => ?_)
  · skip
    refine lv_iload hx hb dX4_symbolAt_79 (lv_at hl 1 rfl) ?_
    refine lv_iconst (v := (-1)) hx hb dX4_symbolAt_81 (by decide) ?_
    refine cx_ane (x := (F x)) (y := 0) (tgt := 87) hx hb dX4_symbolAt_82 (by decide) (by first | omega | exact hB _ (by omega) | exact Nat.lt_of_lt_of_le (hB _ (by omega)) (by omega)) (by first | omega | exact hB _ (by omega) | exact Nat.lt_of_lt_of_le (hB _ (by omega)) (by omega)) (fun b3 => ?_) (fun b3 => ?_)
    · skip
      rw [show aI (F x) = nI (F x - 1) from aI_p b3] at hl
      refine lv_aload_n hx hb dX4_symbolAt_87 rfl (lv_at hl 5 rfl) ?_
      refine lv_aload_n hx hb dX4_symbolAt_88 rfl (lv_at hl 6 rfl) ?_
      refine lv_aload_n hx hb dX4_symbolAt_89 rfl (lv_at hl 7 rfl) ?_
      refine lv_iload hx hb dX4_symbolAt_90 (lv_at hl 1 rfl) ?_
      refine cx_si (va_runV (As := [.ref zt, .ref zc, .int (nI (F x - 1))]) (rest := []) ⟨hx, hb, hml, hown, hts⟩ (c_X4_lightest l dC dI kI kL zw zg zc zd f zt zs zf ze n S F E (F x - 1) (by first | assumption | omega | rfl) (by first | assumption | omega | rfl) (by first | assumption | omega | rfl) (by first | assumption | omega | rfl)) (cwV 3 hts gv_X4_60 rfl rfl rfl hdX4_lightest ⟨Nat.le_of_ble_eq_true rfl, Nat.le_of_ble_eq_true rfl⟩) (cx_preV (hP.sub (ws' := [(zw, .inr (4, [.ref zg])), (zg, .inl (kL, 40, .inr (.inl (cL (wt_f (S, F, E) f n))))), (zc, .inr (2, [.ref zd])), (zd, .inl (kI, 40, .inl (cI f))), (zt, .inr (3, [.ref zs, .ref zf, .ref ze, .int (nI n)])), (zs, .inl (kI, 40, .inl S)), (zf, .inl (kI, 40, .inl (cA F))), (ze, .inl (kI, 40, .inl (cA E)))]) [0, 1, 2, 3, 4, 5, 6, 7] rfl) hK rfl (q0 := 0) rfl) rfl rfl hl.1 rfl (lv_room (Nat.le_of_ble_eq_true rfl)) dX4_symbolAt_92 ⟨Nat.zero_le _, Nat.zero_le _⟩) (fun r hres => ?_)
      subst hres
      refine lv_istore hx hb dX4_symbolAt_95 hl (by decide) rfl (fun ls hl => ?_)
      have hl : lv_has ls 12 [(5, .int (nI (wt_b (S, F, E) f n (F x - 1)))), (10, .long (lN (wt_a f (wt_f (S, F, E) f n) (F x)))), (9, .int (nI (F x - 1))), (6, .long (lN (y - 1))), (8, .int (nI r9)), (0, .ref zw), (1, .ref zt), (2, .ref zc), (3, .int (nI i)), (4, .int (nI z))] := hl
      refine lv_iinc (k := 4) (v := nI (r9 + 1)) hx hb dX4_symbolAt_97 hl rfl cx_inc1 (by decide) rfl (fun ls hl => ?_)
      have hl : lv_has ls 12 [(8, .int (nI (r9 + 1))), (5, .int (nI (wt_b (S, F, E) f n (F x - 1)))), (10, .long (lN (wt_a f (wt_f (S, F, E) f n) (F x)))), (9, .int (nI (F x - 1))), (6, .long (lN (y - 1))), (0, .ref zw), (1, .ref zt), (2, .ref zc), (3, .int (nI i)), (4, .int (nI z))] := hl
      refine lv_goto (tgt := 17) hx hb dX4_symbolAt_100 (by decide) ?_
      exact ih1 (wt_b (S, F, E) f n (F x - 1)) (y - 1) (r9 + 1) _ ⟨lv_sub hl [1, 4, 0, 5, 6, 7, 8, 9] rfl, (by first | assumption | omega | rfl), (by rw [← wt_w_s hxy]; first | exact (wt_n_r b1 b2).symm | exact (wt_n_l b1 (Nat.not_le_of_lt b2)).symm)⟩ (by show 40 - (r9 + 1) < 40 - r9; omega)
    first | exact absurd b3 (gn.1 b2) | exact absurd b3 (gn.2.1 (Nat.not_le_of_lt b2))
  refine lv_lload hx hb dX4_symbolAt_63 (lv_at hl 2 rfl) ?_
  refine lv_lload hx hb dX4_symbolAt_65 (lv_at hl 0 rfl) ?_
  refine cx_lsub hx hb dX4_symbolAt_67 (by omega) ?_
  refine lv_lstore hx hb dX4_symbolAt_68 hl (by decide) rfl (fun ls hl => ?_)
  have hl : lv_has ls 12 [(6, .long (lN ((y - 1) - (wt_a f (wt_f (S, F, E) f n) (F x))))), (10, .long (lN (wt_a f (wt_f (S, F, E) f n) (F x)))), (9, .int (aI (F x))), (5, .int (nI x)), (8, .int (nI r9)), (0, .ref zw), (1, .ref zt), (2, .ref zc), (3, .int (nI i)), (4, .int (nI z))] := hl
  refine lv_aload_n hx hb dX4_symbolAt_70 rfl (lv_at hl 6 rfl) ?_
  refine va_get (D := (dC, dI)) (ci := 3) (v := .ref ze) (C := RX3) (T := TX3) (N := 4) hx hb hts (tb_c tbX3) hown hK hP 4 rfl rfl 2 (by decide) (hw _ tw_31) (fun _ h9 => h9) rfl dX4_symbolAt_71 ?_
  refine lv_iload hx hb dX4_symbolAt_74 (lv_at hl 3 rfl) ?_
  refine cx_iald hx hb hK hP 7 0 rfl rfl (by first | decide | omega) (v := aI (E x)) (i := x) rfl (by first | omega | exact hB _ (by omega) | exact Nat.lt_of_lt_of_le (hB _ (by omega)) (by omega)) dX4_symbolAt_76 ?_
  refine lv_istore hx hb dX4_symbolAt_77 hl (by decide) rfl (fun ls hl => ?_)
  have hl : lv_has ls 12 [(9, .int (aI (E x))), (6, .long (lN ((y - 1) - (wt_a f (wt_f (S, F, E) f n) (F x))))), (10, .long (lN (wt_a f (wt_f (S, F, E) f n) (F x)))), (5, .int (nI x)), (8, .int (nI r9)), (0, .ref zw), (1, .ref zt), (2, .ref zc), (3, .int (nI i)), (4, .int (nI z))] := hl
  refine lv_iload hx hb dX4_symbolAt_79 (lv_at hl 0 rfl) ?_
  refine lv_iconst (v := (-1)) hx hb dX4_symbolAt_81 (by decide) ?_
  refine cx_ane (x := (E x)) (y := 0) (tgt := 87) hx hb dX4_symbolAt_82 (by decide) (by first | omega | exact hB _ (by omega) | exact Nat.lt_of_lt_of_le (hB _ (by omega)) (by omega)) (by first | omega | exact hB _ (by omega) | exact Nat.lt_of_lt_of_le (hB _ (by omega)) (by omega)) (fun b3 => ?_) (fun b3 => ?_)
  · skip
    rw [show aI (E x) = nI (E x - 1) from aI_p b3] at hl
    refine lv_aload_n hx hb dX4_symbolAt_87 rfl (lv_at hl 5 rfl) ?_
    refine lv_aload_n hx hb dX4_symbolAt_88 rfl (lv_at hl 6 rfl) ?_
    refine lv_aload_n hx hb dX4_symbolAt_89 rfl (lv_at hl 7 rfl) ?_
    refine lv_iload hx hb dX4_symbolAt_90 (lv_at hl 0 rfl) ?_
    refine cx_si (va_runV (As := [.ref zt, .ref zc, .int (nI (E x - 1))]) (rest := []) ⟨hx, hb, hml, hown, hts⟩ (c_X4_lightest l dC dI kI kL zw zg zc zd f zt zs zf ze n S F E (E x - 1) (by first | assumption | omega | rfl) (by first | assumption | omega | rfl) (by first | assumption | omega | rfl) (by first | assumption | omega | rfl)) (cwV 3 hts gv_X4_60 rfl rfl rfl hdX4_lightest ⟨Nat.le_of_ble_eq_true rfl, Nat.le_of_ble_eq_true rfl⟩) (cx_preV (hP.sub (ws' := [(zw, .inr (4, [.ref zg])), (zg, .inl (kL, 40, .inr (.inl (cL (wt_f (S, F, E) f n))))), (zc, .inr (2, [.ref zd])), (zd, .inl (kI, 40, .inl (cI f))), (zt, .inr (3, [.ref zs, .ref zf, .ref ze, .int (nI n)])), (zs, .inl (kI, 40, .inl S)), (zf, .inl (kI, 40, .inl (cA F))), (ze, .inl (kI, 40, .inl (cA E)))]) [0, 1, 2, 3, 4, 5, 6, 7] rfl) hK rfl (q0 := 0) rfl) rfl rfl hl.1 rfl (lv_room (Nat.le_of_ble_eq_true rfl)) dX4_symbolAt_92 ⟨Nat.zero_le _, Nat.zero_le _⟩) (fun r hres => ?_)
    subst hres
    refine lv_istore hx hb dX4_symbolAt_95 hl (by decide) rfl (fun ls hl => ?_)
    have hl : lv_has ls 12 [(5, .int (nI (wt_b (S, F, E) f n (E x - 1)))), (9, .int (nI (E x - 1))), (6, .long (lN ((y - 1) - (wt_a f (wt_f (S, F, E) f n) (F x))))), (10, .long (lN (wt_a f (wt_f (S, F, E) f n) (F x)))), (8, .int (nI r9)), (0, .ref zw), (1, .ref zt), (2, .ref zc), (3, .int (nI i)), (4, .int (nI z))] := hl
    refine lv_iinc (k := 4) (v := nI (r9 + 1)) hx hb dX4_symbolAt_97 hl rfl cx_inc1 (by decide) rfl (fun ls hl => ?_)
    have hl : lv_has ls 12 [(8, .int (nI (r9 + 1))), (5, .int (nI (wt_b (S, F, E) f n (E x - 1)))), (9, .int (nI (E x - 1))), (6, .long (lN ((y - 1) - (wt_a f (wt_f (S, F, E) f n) (F x))))), (10, .long (lN (wt_a f (wt_f (S, F, E) f n) (F x)))), (0, .ref zw), (1, .ref zt), (2, .ref zc), (3, .int (nI i)), (4, .int (nI z))] := hl
    refine lv_goto (tgt := 17) hx hb dX4_symbolAt_100 (by decide) ?_
    exact ih1 (wt_b (S, F, E) f n (E x - 1)) ((y - 1) - (wt_a f (wt_f (S, F, E) f n) (F x))) (r9 + 1) _ ⟨lv_sub hl [1, 3, 0, 5, 6, 7, 8, 9] rfl, (by first | assumption | omega | rfl), (by rw [← wt_w_s hxy]; first | exact (wt_n_r b1 b2).symm | exact (wt_n_l b1 (Nat.not_le_of_lt b2)).symm)⟩ (by show 40 - (r9 + 1) < 40 - r9; omega)
  first | exact absurd b3 (gn.1 b2) | exact absurd b3 (gn.2.1 (Nat.not_le_of_lt b2))

set_option maxHeartbeats 4000000 in
set_option maxRecDepth 100000 in
theorem c_X5_since (l : Launch) (dC : Nat → ClassId) (dI : Nat → Nat → Nat) (kI kL : ClassId) (za : Nat) (zt : Nat) (zp : Nat) (zq : Nat) (zv : Nat) (zc : Nat) (zx : Nat) (zw : Nat) (zy : Nat) (g : Nat → Nat) (zs : Nat) (zf : Nat) (ze : Nat) (n : Nat) (S : Nat → Int32) (F : Nat → Nat) (E : Nat → Nat) (zl : Nat) (zr : Nat) (k : Nat) (lf : Nat → Nat) (rt : Nat → Nat) (x : Int32) (y : Int32) (qn : n ≤ 40) (qw : cg_wf (S, F, E) n) (qk : k ≤ 24) (qe : cg_we n lf rt k) (sz : Nat) : Met l yX5_since (.code yX5_since cX5_since 4 (some .int) :: tbw) { frames := 7, cells := 0, slots := 0, locals := 164 } (va_Pc [.ref za, .int x, .int y] (cx_M (dC, dI) vwCl [(za, .inr (5, [.ref zt, .ref zp, .ref zq, .ref zv, .ref zc, .ref zx, .ref zw])), (zx, .inr (2, [.ref zy])), (zy, .inl (kI, 40, .inl (cI g))), (zt, .inr (3, [.ref zs, .ref zf, .ref ze, .int (nI n)])), (zs, .inl (kI, 40, .inl S)), (zf, .inl (kI, 40, .inl (cA F))), (ze, .inl (kI, 40, .inl (cA E))), (zp, .inr (1, [.ref zl, .ref zr, .int (nI k)])), (zl, .inl (kI, 24, .inl (cI lf))), (zr, .inl (kI, 24, .inl (cI rt)))] [(kI, .int), (kL, .long)] sz)) (va_Qi (fun (r : Int32) (u : Nat → Nat) => r = (an_since n S F E k lf rt x y)) (cx_B (dC, dI) vwCl (va_A [(za, .inr (5, [.ref zt, .ref zp, .ref zq, .ref zv, .ref zc, .ref zx, .ref zw])), (zx, .inr (2, [.ref zy])), (zy, .inl (kI, 40, .inl (cI g))), (zt, .inr (3, [.ref zs, .ref zf, .ref ze, .int (nI n)])), (zs, .inl (kI, 40, .inl S)), (zf, .inl (kI, 40, .inl (cA F))), (ze, .inl (kI, 40, .inl (cA E))), (zp, .inr (1, [.ref zl, .ref zr, .int (nI k)])), (zl, .inl (kI, 24, .inl (cI lf))), (zr, .inl (kI, 24, .inl (cI rt)))] sz) (fun u : Nat → Nat => [(za, .inr (5, [.ref zt, .ref zp, .ref zq, .ref zv, .ref zc, .ref zx, .ref zw])), (zx, .inr (2, [.ref zy])), (zy, .inl (kI, 40, .inl (cI u))), (zt, .inr (3, [.ref zs, .ref zf, .ref ze, .int (nI n)])), (zs, .inl (kI, 40, .inl S)), (zf, .inl (kI, 40, .inl (cA F))), (ze, .inl (kI, 40, .inl (cA E))), (zp, .inr (1, [.ref zl, .ref zr, .int (nI k)])), (zl, .inl (kI, 24, .inl (cI lf))), (zr, .inl (kI, 24, .inl (cI rt)))])) (va_A [(za, .inr (5, [.ref zt, .ref zp, .ref zq, .ref zv, .ref zc, .ref zx, .ref zw])), (zx, .inr (2, [.ref zy])), (zy, .inl (kI, 40, .inl (cI g))), (zt, .inr (3, [.ref zs, .ref zf, .ref ze, .int (nI n)])), (zs, .inl (kI, 40, .inl S)), (zf, .inl (kI, 40, .inl (cA F))), (ze, .inl (kI, 40, .inl (cA E))), (zp, .inr (1, [.ref zl, .ref zr, .int (nI k)])), (zl, .inl (kI, 24, .inl (cI lf))), (zr, .inl (kI, 24, .inl (cI rt)))] sz)) 0 0 (va_A [(za, .inr (5, [.ref zt, .ref zp, .ref zq, .ref zv, .ref zc, .ref zx, .ref zw])), (zx, .inr (2, [.ref zy])), (zy, .inl (kI, 40, .inl (cI g))), (zt, .inr (3, [.ref zs, .ref zf, .ref ze, .int (nI n)])), (zs, .inl (kI, 40, .inl S)), (zf, .inl (kI, 40, .inl (cA F))), (ze, .inl (kI, 40, .inl (cA E))), (zp, .inr (1, [.ref zl, .ref zr, .int (nI k)])), (zl, .inl (kI, 24, .inl (cI lf))), (zr, .inl (kI, 24, .inl (cI rt)))] sz) := by
  refine Met.ofW (cc := cX5_since) (maxL := 4) (ret := (some .int)) (by decide) rfl ?_
  intro p e s m args below meth c s₁ B hml hv
  obtain ⟨rfl, hsz, hP, hK, hD0⟩ := hv
  have hx := B.exec
  have hb := B.bytes
  have hr := B.returns
  have hts := atoms_spec (ws := .code yX5_since cX5_since 4 (some .int) :: tbw) B.pre
  have hw : ∀ w ∈ tbw, w.before _ s = true := fun w h => hts w (List.mem_cons_of_mem _ h)
  have hown : s.vm.findClass RX5 = some m.cls := findClass_of_methodNamed B.named
  subst hsz
  have hD := hD0.self (sz := s.heap.size)
  generalize hAe : va_A [(za, .inr (5, [.ref zt, .ref zp, .ref zq, .ref zv, .ref zc, .ref zx, .ref zw])), (zx, .inr (2, [.ref zy])), (zy, .inl (kI, 40, .inl (cI g))), (zt, .inr (3, [.ref zs, .ref zf, .ref ze, .int (nI n)])), (zs, .inl (kI, 40, .inl S)), (zf, .inl (kI, 40, .inl (cA F))), (ze, .inl (kI, 40, .inl (cA E))), (zp, .inr (1, [.ref zl, .ref zr, .int (nI k)])), (zl, .inl (kI, 24, .inl (cI lf))), (zr, .inl (kI, 24, .inl (cI rt)))] s.heap.size = AA at hD ⊢
  have hA : ∀ q : Nat, s.heap.size ≤ q → AA q := fun q h => by rw [← hAe]; exact Or.inr h
  have hS : va_S AA s.heap s.heap [] := va_S.rf
  have hP : va_P (dC, dI) vwCl [(za, .inr (5, [.ref zt, .ref zp, .ref zq, .ref zv, .ref zc, .ref zx, .ref zw])), (zx, .inr (2, [.ref zy])), (zy, .inl (kI, 40, .inl (cI g))), (zt, .inr (3, [.ref zs, .ref zf, .ref ze, .int (nI n)])), (zs, .inl (kI, 40, .inl S)), (zf, .inl (kI, 40, .inl (cA F))), (ze, .inl (kI, 40, .inl (cA E))), (zp, .inr (1, [.ref zl, .ref zr, .int (nI k)])), (zl, .inl (kI, 24, .inl (cI lf))), (zr, .inl (kI, 24, .inl (cI rt)))] s.heap := hP
  have hl := lv_entry ([.ref za, .int x, .int y]) (n := 4) (Nat.le_of_ble_eq_true rfl)
  rw [lg_entry_eq]
  generalize (lg_sl ([.ref za, .int x, .int y]) ++ List.replicate (4 - (lg_sl ([.ref za, .int x, .int y])).length) Slot.unset).toArray = ls at hl ⊢
  have hl : lv_has ls 4 [(0, .ref za), (1, .int x), (2, .int y)] := hl
  refine lv_aload_n hx hb dX5_since_0 rfl (lv_at hl 0 rfl) ?_
  refine lv_iload_n hx hb dX5_since_1 rfl (lv_at hl 1 rfl) ?_
  refine lv_iload_n hx hb dX5_since_2 rfl (lv_at hl 2 rfl) ?_
  refine cx_si (va_runV (As := [.int x, .int y]) (rest := []) ⟨hx, hb, hml, hown, hts⟩ (c_X5_areTerms l dC dI kI kL za zt zp zq zv zc zx zw zs zf ze n x y ) (cwV 2 hts gv_X5_70 rfl rfl rfl hdX5_areTerms ⟨Nat.le_of_ble_eq_true rfl, Nat.le_of_ble_eq_true rfl⟩) (cx_preV (hP.sub (ws' := [(za, .inr (5, [.ref zt, .ref zp, .ref zq, .ref zv, .ref zc, .ref zx, .ref zw])), (zt, .inr (3, [.ref zs, .ref zf, .ref ze, .int (nI n)]))]) [0, 3] rfl) hK rfl (q0 := 0) rfl) rfl rfl hl.1 rfl (lv_room (Nat.le_of_ble_eq_true rfl)) dX5_since_3 ⟨Nat.zero_le _, Nat.zero_le _⟩) (fun r hres => ?_)
  subst hres
  refine cx_if1 (tgt := 12) hx hb dX5_since_6 (by decide) (fun b0 => ?_) (fun b0 => ?_)
  · skip
    have hT := of_decide_eq_true b0
    obtain ⟨i, hi, rfl⟩ := cx_T_x qn hT.1
    obtain ⟨j, hj, rfl⟩ := cx_T_x qn hT.2
    refine lv_iconst (v := nI 0) hx hb dX5_since_12 (by decide) ?_
    refine lv_istore_n hx hb dX5_since_13 rfl hl (by decide) rfl (fun ls hl => ?_)
    have hl : lv_has ls 4 [(3, .int (nI 0)), (0, .ref za), (1, .int (nI i)), (2, .int (nI j))] := hl
    refine cx_loop2 (fun (v : Nat) (g1 : Nat → Nat) (H : Heap) (locs : List Loc) (ls : Array Slot) => lv_has ls 4 [(3, .int (nI v)), (0, .ref za), (1, .int (nI i)), (2, .int (nI j))] ∧ va_P (dC, dI) vwCl [(za, .inr (5, [.ref zt, .ref zp, .ref zq, .ref zv, .ref zc, .ref zx, .ref zw])), (zx, .inr (2, [.ref zy])), (zy, .inl (kI, 40, .inl (cI g1))), (zt, .inr (3, [.ref zs, .ref zf, .ref ze, .int (nI n)])), (zs, .inl (kI, 40, .inl S)), (zf, .inl (kI, 40, .inl (cA F))), (ze, .inl (kI, 40, .inl (cA E))), (zp, .inr (1, [.ref zl, .ref zr, .int (nI k)])), (zl, .inl (kI, 24, .inl (cI lf))), (zr, .inl (kI, 24, .inl (cI rt)))] H ∧ va_D AA [(za, .inr (5, [.ref zt, .ref zp, .ref zq, .ref zv, .ref zc, .ref zx, .ref zw])), (zx, .inr (2, [.ref zy])), (zy, .inl (kI, 40, .inl (cI g1))), (zt, .inr (3, [.ref zs, .ref zf, .ref ze, .int (nI n)])), (zs, .inl (kI, 40, .inl S)), (zf, .inl (kI, 40, .inl (cA F))), (ze, .inl (kI, 40, .inl (cA E))), (zp, .inr (1, [.ref zl, .ref zr, .int (nI k)])), (zl, .inl (kI, 24, .inl (cI lf))), (zr, .inl (kI, 24, .inl (cI rt)))] ∧ va_S AA s.heap H locs ∧ (v ≤ k + 1) ∧ (∀ u, u < v → cg_J S F E n lf rt k i j (fun z => decide (z < u)) = false)) (fun v g1 => k + 1 - v) (fun v g1 H locs ls hI ih1 => ?_) 0 g ⟨lv_sub hl [0, 1, 2, 3] rfl, hP, hD, hS, (by first | assumption | omega | rfl), (fun u h => absurd h (Nat.not_lt_zero u))⟩
    obtain ⟨hl, hP, hD, hS, hv1, hno⟩ := hI
    refine lv_iload_n hx hb dX5_since_14 rfl (lv_at hl 0 rfl) ?_
    refine lv_aload_n hx hb dX5_since_15 rfl (lv_at hl 1 rfl) ?_
    refine va_get (D := (dC, dI)) (ci := 5) (v := .ref zp) (C := RX5) (T := TX5) (N := 7) hx hb hts (tb_c tbX5) hown hK hP 0 rfl rfl 1 (by decide) (hw _ tw_116) (fun _ h9 => h9) rfl dX5_since_16 ?_
    refine va_get (D := (dC, dI)) (ci := 1) (v := .int (nI k)) (C := RX1) (T := TX1) (N := 3) hx hb hts (tb_c tbX1) hown hK hP 7 rfl rfl 2 (by decide) (hw _ tw_60) (fun _ h9 => h9) rfl dX5_since_19 ?_
    refine cx_gt (x := v) (y := k) (tgt := 46) hx hb dX5_since_22 (by decide) (by first | omega | exact hB _ (by omega) | exact Nat.lt_of_lt_of_le (hB _ (by omega)) (by omega)) (by first | omega | exact hB _ (by omega) | exact Nat.lt_of_lt_of_le (hB _ (by omega)) (by omega)) (fun b1 => ?_) (fun b1 => ?_)
    · skip
      refine lv_iconst (v := (-1)) hx hb dX5_since_46 (by decide) ?_
      exact W.iret (v := (-1)) hx hb hr (fun t ht hW => ⟨⟨_, g1, rfl, an_since_n qn hi hj hno b1, by rw [ht]; exact hP, hD⟩, hS.F ht⟩) hS.2.2 dX5_since_47
    refine lv_aload_n hx hb dX5_since_25 rfl (lv_at hl 1 rfl) ?_
    refine lv_iload_n hx hb dX5_since_26 rfl (lv_at hl 0 rfl) ?_
    refine cx_si (va_runS (As := [.int (nI v)]) (rest := [.ref za]) ⟨hx, hb, hml, hown, hts⟩ (c_X5_allBelow l dC dI kI kL v ) (cwS 1 hts gv_X5_123 rfl rfl rfl hdX5_allBelow ⟨Nat.le_of_ble_eq_true rfl, Nat.le_of_ble_eq_true rfl⟩) (cx_preS (hP.sub (ws' := []) [] rfl) hK) rfl rfl hl.1 rfl (lv_room (Nat.le_of_ble_eq_true rfl)) dX5_since_27 ⟨Nat.zero_le _, Nat.zero_le _⟩) (fun r hres => ?_)
    subst hres
    refine lv_iload_n hx hb dX5_since_30 rfl (lv_at hl 2 rfl) ?_
    refine lv_iload_n hx hb dX5_since_31 rfl (lv_at hl 3 rfl) ?_
    refine cx_mi (wc := [(za, .inr (5, [.ref zt, .ref zp, .ref zq, .ref zv, .ref zc, .ref zx, .ref zw])), (zx, .inr (2, [.ref zy])), (zy, .inl (kI, 40, .inl (cI g1))), (zt, .inr (3, [.ref zs, .ref zf, .ref ze, .int (nI n)])), (zs, .inl (kI, 40, .inl S)), (zf, .inl (kI, 40, .inl (cA F))), (ze, .inl (kI, 40, .inl (cA E))), (zp, .inr (1, [.ref zl, .ref zr, .int (nI k)])), (zl, .inl (kI, 24, .inl (cI lf))), (zr, .inl (kI, 24, .inl (cI rt)))]) (wr := []) hP hD hS hA [0, 1, 2, 3, 4, 5, 6, 7, 8, 9] [] rfl rfl (by decide) (by decide) (va_runV (As := [.int (cb_ab v), .int (nI i), .int (nI j)]) (rest := []) ⟨hx, hb, hml, hown, hts⟩ (c_X5_followsFrom l dC dI kI kL za zt zp zq zv zc zx zw zy g1 zs zf ze n S F E zl zr k lf rt (cb_ab v) i j (by first | assumption | omega | rfl) (by first | assumption | omega | rfl) (by first | assumption | omega | rfl) (by first | assumption | omega | rfl) (by first | assumption | omega | rfl) (by first | assumption | omega | rfl) _) (cwV 3 hts gv_X5_126 rfl rfl rfl hdX5_followsFrom ⟨Nat.le_of_ble_eq_true rfl, Nat.le_of_ble_eq_true rfl⟩) (cx_mreV (hP.sub (ws' := [(za, .inr (5, [.ref zt, .ref zp, .ref zq, .ref zv, .ref zc, .ref zx, .ref zw])), (zx, .inr (2, [.ref zy])), (zy, .inl (kI, 40, .inl (cI g1))), (zt, .inr (3, [.ref zs, .ref zf, .ref ze, .int (nI n)])), (zs, .inl (kI, 40, .inl S)), (zf, .inl (kI, 40, .inl (cA F))), (ze, .inl (kI, 40, .inl (cA E))), (zp, .inr (1, [.ref zl, .ref zr, .int (nI k)])), (zl, .inl (kI, 24, .inl (cI lf))), (zr, .inl (kI, 24, .inl (cI rt)))]) [0, 1, 2, 3, 4, 5, 6, 7, 8, 9] rfl) hK (hD.sub (ws' := [(za, .inr (5, [.ref zt, .ref zp, .ref zq, .ref zv, .ref zc, .ref zx, .ref zw])), (zx, .inr (2, [.ref zy])), (zy, .inl (kI, 40, .inl (cI g1))), (zt, .inr (3, [.ref zs, .ref zf, .ref ze, .int (nI n)])), (zs, .inl (kI, 40, .inl S)), (zf, .inl (kI, 40, .inl (cA F))), (ze, .inl (kI, 40, .inl (cA E))), (zp, .inr (1, [.ref zl, .ref zr, .int (nI k)])), (zl, .inl (kI, 24, .inl (cI lf))), (zr, .inl (kI, 24, .inl (cI rt)))]) [0, 1, 2, 3, 4, 5, 6, 7, 8, 9] (by decide) rfl) rfl (q0 := 0) rfl) rfl rfl hl.1 rfl (lv_room (Nat.le_of_ble_eq_true rfl)) dX5_since_32 ⟨Nat.zero_le _, Nat.zero_le _⟩) (fun r u32 H locs hres hP hD hS => ?_)
    subst hres
    have hP : va_P (dC, dI) vwCl [(za, .inr (5, [.ref zt, .ref zp, .ref zq, .ref zv, .ref zc, .ref zx, .ref zw])), (zx, .inr (2, [.ref zy])), (zy, .inl (kI, 40, .inl (cI u32))), (zt, .inr (3, [.ref zs, .ref zf, .ref ze, .int (nI n)])), (zs, .inl (kI, 40, .inl S)), (zf, .inl (kI, 40, .inl (cA F))), (ze, .inl (kI, 40, .inl (cA E))), (zp, .inr (1, [.ref zl, .ref zr, .int (nI k)])), (zl, .inl (kI, 24, .inl (cI lf))), (zr, .inl (kI, 24, .inl (cI rt)))] H := hP.sub (ws' := [(za, .inr (5, [.ref zt, .ref zp, .ref zq, .ref zv, .ref zc, .ref zx, .ref zw])), (zx, .inr (2, [.ref zy])), (zy, .inl (kI, 40, .inl (cI u32))), (zt, .inr (3, [.ref zs, .ref zf, .ref ze, .int (nI n)])), (zs, .inl (kI, 40, .inl S)), (zf, .inl (kI, 40, .inl (cA F))), (ze, .inl (kI, 40, .inl (cA E))), (zp, .inr (1, [.ref zl, .ref zr, .int (nI k)])), (zl, .inl (kI, 24, .inl (cI lf))), (zr, .inl (kI, 24, .inl (cI rt)))]) [0, 1, 2, 3, 4, 5, 6, 7, 8, 9] rfl
    have hD : va_D AA [(za, .inr (5, [.ref zt, .ref zp, .ref zq, .ref zv, .ref zc, .ref zx, .ref zw])), (zx, .inr (2, [.ref zy])), (zy, .inl (kI, 40, .inl (cI u32))), (zt, .inr (3, [.ref zs, .ref zf, .ref ze, .int (nI n)])), (zs, .inl (kI, 40, .inl S)), (zf, .inl (kI, 40, .inl (cA F))), (ze, .inl (kI, 40, .inl (cA E))), (zp, .inr (1, [.ref zl, .ref zr, .int (nI k)])), (zl, .inl (kI, 24, .inl (cI lf))), (zr, .inl (kI, 24, .inl (cI rt)))] := hD.sub (ws' := [(za, .inr (5, [.ref zt, .ref zp, .ref zq, .ref zv, .ref zc, .ref zx, .ref zw])), (zx, .inr (2, [.ref zy])), (zy, .inl (kI, 40, .inl (cI u32))), (zt, .inr (3, [.ref zs, .ref zf, .ref ze, .int (nI n)])), (zs, .inl (kI, 40, .inl S)), (zf, .inl (kI, 40, .inl (cA F))), (ze, .inl (kI, 40, .inl (cA E))), (zp, .inr (1, [.ref zl, .ref zr, .int (nI k)])), (zl, .inl (kI, 24, .inl (cI lf))), (zr, .inl (kI, 24, .inl (cI rt)))]) [0, 1, 2, 3, 4, 5, 6, 7, 8, 9] (by decide) rfl
    refine cx_if0 (tgt := 40) hx hb dX5_since_35 (by decide) (fun b2 => ?_) (fun b2 => ?_)
    · skip
      refine lv_iinc (k := 0) (v := nI (v + 1)) hx hb dX5_since_40 hl rfl cx_inc1 (by decide) rfl (fun ls hl => ?_)
      have hl : lv_has ls 4 [(3, .int (nI (v + 1))), (0, .ref za), (1, .int (nI i)), (2, .int (nI j))] := hl
      refine lv_goto (tgt := 14) hx hb dX5_since_43 (by decide) ?_
      exact ih1 (v + 1) u32 _ _ _ ⟨lv_sub hl [0, 1, 2, 3] rfl, hP, hD, hS, (by first | assumption | omega | rfl), (cg_sn_s hno (by rw [← cg_J_ab (by omega) qk]; exact b2))⟩ (by show k + 1 - (v + 1) < k + 1 - v; omega)
    refine lv_iload_n hx hb dX5_since_38 rfl (lv_at hl 0 rfl) ?_
    exact W.iret (v := nI v) hx hb hr (fun t ht hW => ⟨⟨_, u32, rfl, an_since_y qn hi hj hno (by rw [← cg_J_ab (by omega) qk]; exact b2) b1, by rw [ht]; exact hP, hD⟩, hS.F ht⟩) hS.2.2 dX5_since_39
  refine lv_bipush (v := (-2)) hx hb dX5_since_9 (by decide) ?_
  exact W.iret (v := (-2)) hx hb hr (fun t ht hW => ⟨⟨_, g, rfl, an_since_b (of_decide_eq_false b0), by rw [ht]; exact hP, hD⟩, hS.F ht⟩) hS.2.2 dX5_since_11

set_option maxHeartbeats 4000000 in
set_option maxRecDepth 100000 in
theorem c_X5_explanation (l : Launch) (dC : Nat → ClassId) (dI : Nat → Nat → Nat) (kI kL : ClassId) (za : Nat) (zt : Nat) (zp : Nat) (zq : Nat) (zv : Nat) (zc : Nat) (zx : Nat) (zw : Nat) (zd : Nat) (f : Nat → Nat) (zy : Nat) (g : Nat → Nat) (zs : Nat) (zf : Nat) (ze : Nat) (n : Nat) (S : Nat → Int32) (F : Nat → Nat) (E : Nat → Nat) (zl : Nat) (zr : Nat) (k : Nat) (lf : Nat → Nat) (rt : Nat → Nat) (x : Int32) (y : Int32) (qn : n ≤ 40) (qw : cg_wf (S, F, E) n) (qk : k ≤ 24) (qe : cg_we n lf rt k) (qf : ∀ z, z < n → f z = cg_LA S F E n lf rt k z) (sz : Nat) : Met l yX5_explanation (.code yX5_explanation cX5_explanation 5 (some .int) :: tbw) { frames := 7, cells := 0, slots := 0, locals := 164 } (va_Pc [.ref za, .int x, .int y] (cx_M (dC, dI) vwCl [(za, .inr (5, [.ref zt, .ref zp, .ref zq, .ref zv, .ref zc, .ref zx, .ref zw])), (zc, .inr (2, [.ref zd])), (zd, .inl (kI, 40, .inl (cI f))), (zx, .inr (2, [.ref zy])), (zy, .inl (kI, 40, .inl (cI g))), (zt, .inr (3, [.ref zs, .ref zf, .ref ze, .int (nI n)])), (zs, .inl (kI, 40, .inl S)), (zf, .inl (kI, 40, .inl (cA F))), (ze, .inl (kI, 40, .inl (cA E))), (zp, .inr (1, [.ref zl, .ref zr, .int (nI k)])), (zl, .inl (kI, 24, .inl (cI lf))), (zr, .inl (kI, 24, .inl (cI rt)))] [(kI, .int), (kL, .long)] sz)) (va_Qi (fun (r : Int32) (u : Nat → Nat) => r = (an_expl n S F E k lf rt x y)) (cx_B (dC, dI) vwCl (va_A [(za, .inr (5, [.ref zt, .ref zp, .ref zq, .ref zv, .ref zc, .ref zx, .ref zw])), (zc, .inr (2, [.ref zd])), (zd, .inl (kI, 40, .inl (cI f))), (zx, .inr (2, [.ref zy])), (zy, .inl (kI, 40, .inl (cI g))), (zt, .inr (3, [.ref zs, .ref zf, .ref ze, .int (nI n)])), (zs, .inl (kI, 40, .inl S)), (zf, .inl (kI, 40, .inl (cA F))), (ze, .inl (kI, 40, .inl (cA E))), (zp, .inr (1, [.ref zl, .ref zr, .int (nI k)])), (zl, .inl (kI, 24, .inl (cI lf))), (zr, .inl (kI, 24, .inl (cI rt)))] sz) (fun u : Nat → Nat => [(za, .inr (5, [.ref zt, .ref zp, .ref zq, .ref zv, .ref zc, .ref zx, .ref zw])), (zc, .inr (2, [.ref zd])), (zd, .inl (kI, 40, .inl (cI f))), (zx, .inr (2, [.ref zy])), (zy, .inl (kI, 40, .inl (cI u))), (zt, .inr (3, [.ref zs, .ref zf, .ref ze, .int (nI n)])), (zs, .inl (kI, 40, .inl S)), (zf, .inl (kI, 40, .inl (cA F))), (ze, .inl (kI, 40, .inl (cA E))), (zp, .inr (1, [.ref zl, .ref zr, .int (nI k)])), (zl, .inl (kI, 24, .inl (cI lf))), (zr, .inl (kI, 24, .inl (cI rt)))])) (va_A [(za, .inr (5, [.ref zt, .ref zp, .ref zq, .ref zv, .ref zc, .ref zx, .ref zw])), (zc, .inr (2, [.ref zd])), (zd, .inl (kI, 40, .inl (cI f))), (zx, .inr (2, [.ref zy])), (zy, .inl (kI, 40, .inl (cI g))), (zt, .inr (3, [.ref zs, .ref zf, .ref ze, .int (nI n)])), (zs, .inl (kI, 40, .inl S)), (zf, .inl (kI, 40, .inl (cA F))), (ze, .inl (kI, 40, .inl (cA E))), (zp, .inr (1, [.ref zl, .ref zr, .int (nI k)])), (zl, .inl (kI, 24, .inl (cI lf))), (zr, .inl (kI, 24, .inl (cI rt)))] sz)) 0 0 (va_A [(za, .inr (5, [.ref zt, .ref zp, .ref zq, .ref zv, .ref zc, .ref zx, .ref zw])), (zc, .inr (2, [.ref zd])), (zd, .inl (kI, 40, .inl (cI f))), (zx, .inr (2, [.ref zy])), (zy, .inl (kI, 40, .inl (cI g))), (zt, .inr (3, [.ref zs, .ref zf, .ref ze, .int (nI n)])), (zs, .inl (kI, 40, .inl S)), (zf, .inl (kI, 40, .inl (cA F))), (ze, .inl (kI, 40, .inl (cA E))), (zp, .inr (1, [.ref zl, .ref zr, .int (nI k)])), (zl, .inl (kI, 24, .inl (cI lf))), (zr, .inl (kI, 24, .inl (cI rt)))] sz) := by
  refine Met.ofW (cc := cX5_explanation) (maxL := 5) (ret := (some .int)) (by decide) rfl ?_
  intro p e s m args below meth c s₁ B hml hv
  obtain ⟨rfl, hsz, hP, hK, hD0⟩ := hv
  have hx := B.exec
  have hb := B.bytes
  have hr := B.returns
  have hts := atoms_spec (ws := .code yX5_explanation cX5_explanation 5 (some .int) :: tbw) B.pre
  have hw : ∀ w ∈ tbw, w.before _ s = true := fun w h => hts w (List.mem_cons_of_mem _ h)
  have hown : s.vm.findClass RX5 = some m.cls := findClass_of_methodNamed B.named
  subst hsz
  have hD := hD0.self (sz := s.heap.size)
  generalize hAe : va_A [(za, .inr (5, [.ref zt, .ref zp, .ref zq, .ref zv, .ref zc, .ref zx, .ref zw])), (zc, .inr (2, [.ref zd])), (zd, .inl (kI, 40, .inl (cI f))), (zx, .inr (2, [.ref zy])), (zy, .inl (kI, 40, .inl (cI g))), (zt, .inr (3, [.ref zs, .ref zf, .ref ze, .int (nI n)])), (zs, .inl (kI, 40, .inl S)), (zf, .inl (kI, 40, .inl (cA F))), (ze, .inl (kI, 40, .inl (cA E))), (zp, .inr (1, [.ref zl, .ref zr, .int (nI k)])), (zl, .inl (kI, 24, .inl (cI lf))), (zr, .inl (kI, 24, .inl (cI rt)))] s.heap.size = AA at hD ⊢
  have hA : ∀ q : Nat, s.heap.size ≤ q → AA q := fun q h => by rw [← hAe]; exact Or.inr h
  have hS : va_S AA s.heap s.heap [] := va_S.rf
  have hP : va_P (dC, dI) vwCl [(za, .inr (5, [.ref zt, .ref zp, .ref zq, .ref zv, .ref zc, .ref zx, .ref zw])), (zc, .inr (2, [.ref zd])), (zd, .inl (kI, 40, .inl (cI f))), (zx, .inr (2, [.ref zy])), (zy, .inl (kI, 40, .inl (cI g))), (zt, .inr (3, [.ref zs, .ref zf, .ref ze, .int (nI n)])), (zs, .inl (kI, 40, .inl S)), (zf, .inl (kI, 40, .inl (cA F))), (ze, .inl (kI, 40, .inl (cA E))), (zp, .inr (1, [.ref zl, .ref zr, .int (nI k)])), (zl, .inl (kI, 24, .inl (cI lf))), (zr, .inl (kI, 24, .inl (cI rt)))] s.heap := hP
  have hl := lv_entry ([.ref za, .int x, .int y]) (n := 5) (Nat.le_of_ble_eq_true rfl)
  rw [lg_entry_eq]
  generalize (lg_sl ([.ref za, .int x, .int y]) ++ List.replicate (5 - (lg_sl ([.ref za, .int x, .int y])).length) Slot.unset).toArray = ls at hl ⊢
  have hl : lv_has ls 5 [(0, .ref za), (1, .int x), (2, .int y)] := hl
  have hB := cg_ok_B (cg_ok_ag qf (cg_lab_ok qe))
  refine lv_aload_n hx hb dX5_explanation_0 rfl (lv_at hl 0 rfl) ?_
  refine lv_iload_n hx hb dX5_explanation_1 rfl (lv_at hl 1 rfl) ?_
  refine lv_iload_n hx hb dX5_explanation_2 rfl (lv_at hl 2 rfl) ?_
  refine cx_si (va_runV (As := [.int x, .int y]) (rest := []) ⟨hx, hb, hml, hown, hts⟩ (c_X5_areTerms l dC dI kI kL za zt zp zq zv zc zx zw zs zf ze n x y ) (cwV 2 hts gv_X5_70 rfl rfl rfl hdX5_areTerms ⟨Nat.le_of_ble_eq_true rfl, Nat.le_of_ble_eq_true rfl⟩) (cx_preV (hP.sub (ws' := [(za, .inr (5, [.ref zt, .ref zp, .ref zq, .ref zv, .ref zc, .ref zx, .ref zw])), (zt, .inr (3, [.ref zs, .ref zf, .ref ze, .int (nI n)]))]) [0, 5] rfl) hK rfl (q0 := 0) rfl) rfl rfl hl.1 rfl (lv_room (Nat.le_of_ble_eq_true rfl)) dX5_explanation_3 ⟨Nat.zero_le _, Nat.zero_le _⟩) (fun r hres => ?_)
  subst hres
  refine cx_if1 (tgt := 12) hx hb dX5_explanation_6 (by decide) (fun b0 => ?_) (fun b0 => ?_)
  · skip
    have hT := of_decide_eq_true b0
    obtain ⟨i, hi, rfl⟩ := cx_T_x qn hT.1
    obtain ⟨j, hj, rfl⟩ := cx_T_x qn hT.2
    refine lv_aload_n hx hb dX5_explanation_12 rfl (lv_at hl 0 rfl) ?_
    refine va_get (D := (dC, dI)) (ci := 5) (v := .ref zc) (C := RX5) (T := TX5) (N := 7) hx hb hts (tb_c tbX5) hown hK hP 0 rfl rfl 4 (by decide) (hw _ tw_119) (fun _ h9 => h9) rfl dX5_explanation_13 ?_
    refine lv_iload_n hx hb dX5_explanation_16 rfl (lv_at hl 1 rfl) ?_
    refine lv_iload_n hx hb dX5_explanation_17 rfl (lv_at hl 2 rfl) ?_
    refine cx_si (va_runV (As := [.int (nI i), .int (nI j)]) (rest := []) ⟨hx, hb, hml, hown, hts⟩ (c_X2_joins l dC dI kI kL zc zd f n i j (by first | assumption | omega | rfl) (by first | assumption | omega | rfl) (by first | assumption | omega | rfl) (by first | assumption | omega | rfl)) (cwV 2 hts gv_X5_103 rfl rfl rfl hdX2_joins ⟨Nat.le_of_ble_eq_true rfl, Nat.le_of_ble_eq_true rfl⟩) (cx_preV (hP.sub (ws' := [(zc, .inr (2, [.ref zd])), (zd, .inl (kI, 40, .inl (cI f)))]) [1, 2] rfl) hK rfl (q0 := 0) rfl) rfl rfl hl.1 rfl (lv_room (Nat.le_of_ble_eq_true rfl)) dX5_explanation_18 ⟨Nat.zero_le _, Nat.zero_le _⟩) (fun r hres => ?_)
    subst hres
    refine cx_if1 (tgt := 26) hx hb dX5_explanation_21 (by decide) (fun b1 => ?_) (fun b1 => ?_)
    · skip
      refine lv_iconst (v := nI 0) hx hb dX5_explanation_26 (by decide) ?_
      refine lv_istore_n hx hb dX5_explanation_27 rfl hl (by decide) rfl (fun ls hl => ?_)
      have hl : lv_has ls 5 [(3, .int (nI 0)), (0, .ref za), (1, .int (nI i)), (2, .int (nI j))] := hl
      refine lv_aload_n hx hb dX5_explanation_28 rfl (lv_at hl 1 rfl) ?_
      refine va_get (D := (dC, dI)) (ci := 5) (v := .ref zp) (C := RX5) (T := TX5) (N := 7) hx hb hts (tb_c tbX5) hown hK hP 0 rfl rfl 1 (by decide) (hw _ tw_116) (fun _ h9 => h9) rfl dX5_explanation_29 ?_
      refine va_get (D := (dC, dI)) (ci := 1) (v := .int (nI k)) (C := RX1) (T := TX1) (N := 3) hx hb hts (tb_c tbX1) hown hK hP 9 rfl rfl 2 (by decide) (hw _ tw_60) (fun _ h9 => h9) rfl dX5_explanation_32 ?_
      refine lv_iconst (v := nI 1) hx hb dX5_explanation_35 (by decide) ?_
      refine lv_isub hx hb dX5_explanation_36 ?_
      refine cx_topi (cx_sub1 (x := k)) ?_
      refine lv_istore hx hb dX5_explanation_37 hl (by decide) rfl (fun ls hl => ?_)
      have hl : lv_has ls 5 [(4, .int (aI k)), (3, .int (nI 0)), (0, .ref za), (1, .int (nI i)), (2, .int (nI j))] := hl
      refine cx_loop3 (fun (kp : Int32) (r9 : Nat) (g1 : Nat → Nat) (H : Heap) (locs : List Loc) (ls : Array Slot) => lv_has ls 5 [(3, .int kp), (4, .int (aI r9)), (0, .ref za), (1, .int (nI i)), (2, .int (nI j))] ∧ va_P (dC, dI) vwCl [(za, .inr (5, [.ref zt, .ref zp, .ref zq, .ref zv, .ref zc, .ref zx, .ref zw])), (zc, .inr (2, [.ref zd])), (zd, .inl (kI, 40, .inl (cI f))), (zx, .inr (2, [.ref zy])), (zy, .inl (kI, 40, .inl (cI g1))), (zt, .inr (3, [.ref zs, .ref zf, .ref ze, .int (nI n)])), (zs, .inl (kI, 40, .inl S)), (zf, .inl (kI, 40, .inl (cA F))), (ze, .inl (kI, 40, .inl (cA E))), (zp, .inr (1, [.ref zl, .ref zr, .int (nI k)])), (zl, .inl (kI, 24, .inl (cI lf))), (zr, .inl (kI, 24, .inl (cI rt)))] H ∧ va_D AA [(za, .inr (5, [.ref zt, .ref zp, .ref zq, .ref zv, .ref zc, .ref zx, .ref zw])), (zc, .inr (2, [.ref zd])), (zd, .inl (kI, 40, .inl (cI f))), (zx, .inr (2, [.ref zy])), (zy, .inl (kI, 40, .inl (cI g1))), (zt, .inr (3, [.ref zs, .ref zf, .ref ze, .int (nI n)])), (zs, .inl (kI, 40, .inl S)), (zf, .inl (kI, 40, .inl (cA F))), (ze, .inl (kI, 40, .inl (cA E))), (zp, .inr (1, [.ref zl, .ref zr, .int (nI k)])), (zl, .inl (kI, 24, .inl (cI lf))), (zr, .inl (kI, 24, .inl (cI rt)))] ∧ va_S AA s.heap H locs ∧ (r9 ≤ k) ∧ (cg_xp (cg_J S F E n lf rt k i j) r9 kp = cg_xp (cg_J S F E n lf rt k i j) k 0)) (fun kp r9 g1 => r9) (fun kp r9 g1 H locs ls hI ih1 => ?_) (nI 0) k g ⟨lv_sub hl [1, 0, 2, 3, 4] rfl, hP, hD, hS, (Nat.le_refl _), (rfl)⟩
      obtain ⟨hl, hP, hD, hS, hr9, hx9⟩ := hI
      refine lv_iload hx hb dX5_explanation_39 (lv_at hl 1 rfl) ?_
      refine cx_alt (x := r9) (tgt := 73) hx hb dX5_explanation_41 (by decide) (by first | omega | exact hB _ (by omega) | exact Nat.lt_of_lt_of_le (hB _ (by omega)) (by omega)) (fun b2 => ?_) (fun b2 => ?_)
      · skip
        refine lv_iload_n hx hb dX5_explanation_73 rfl (lv_at hl 0 rfl) ?_
        exact W.iret (v := kp) hx hb hr (fun t ht hW => ⟨⟨_, g1, rfl, an_expl_y qn hi hj (by rw [← cg_J_all qf hi hj]; exact b1) (by rw [← hx9, b2]; rfl), by rw [ht]; exact hP, hD⟩, hS.F ht⟩) hS.2.2 dX5_explanation_74
      obtain ⟨q9, rfl⟩ := cx_suc b2
      refine lv_aload_n hx hb dX5_explanation_44 rfl (lv_at hl 2 rfl) ?_
      refine lv_iload_n hx hb dX5_explanation_45 rfl (lv_at hl 0 rfl) ?_
      refine lv_iload hx hb dX5_explanation_46 (lv_at hl 1 rfl) ?_
      refine cx_si (va_runS (As := [.int (nI q9)]) (rest := [.int kp, .ref za]) ⟨hx, hb, hml, hown, hts⟩ (c_X5_allBelow l dC dI kI kL q9 ) (cwS 1 hts gv_X5_123 rfl rfl rfl hdX5_allBelow ⟨Nat.le_of_ble_eq_true rfl, Nat.le_of_ble_eq_true rfl⟩) (cx_preS (hP.sub (ws' := []) [] rfl) hK) rfl rfl hl.1 rfl (lv_room (Nat.le_of_ble_eq_true rfl)) dX5_explanation_48 ⟨Nat.zero_le _, Nat.zero_le _⟩) (fun r hres => ?_)
      subst hres
      refine lv_ior hx hb dX5_explanation_51 ?_
      refine lv_iload_n hx hb dX5_explanation_52 rfl (lv_at hl 3 rfl) ?_
      refine lv_iload_n hx hb dX5_explanation_53 rfl (lv_at hl 4 rfl) ?_
      refine cx_mi (wc := [(za, .inr (5, [.ref zt, .ref zp, .ref zq, .ref zv, .ref zc, .ref zx, .ref zw])), (zx, .inr (2, [.ref zy])), (zy, .inl (kI, 40, .inl (cI g1))), (zt, .inr (3, [.ref zs, .ref zf, .ref ze, .int (nI n)])), (zs, .inl (kI, 40, .inl S)), (zf, .inl (kI, 40, .inl (cA F))), (ze, .inl (kI, 40, .inl (cA E))), (zp, .inr (1, [.ref zl, .ref zr, .int (nI k)])), (zl, .inl (kI, 24, .inl (cI lf))), (zr, .inl (kI, 24, .inl (cI rt)))]) (wr := [(zc, .inr (2, [.ref zd])), (zd, .inl (kI, 40, .inl (cI f)))]) hP hD hS hA [0, 3, 4, 5, 6, 7, 8, 9, 10, 11] [1, 2] rfl rfl (by decide) (by decide) (va_runV (As := [.int (kp ||| (cb_ab q9)), .int (nI i), .int (nI j)]) (rest := []) ⟨hx, hb, hml, hown, hts⟩ (c_X5_followsFrom l dC dI kI kL za zt zp zq zv zc zx zw zy g1 zs zf ze n S F E zl zr k lf rt (kp ||| (cb_ab q9)) i j (by first | assumption | omega | rfl) (by first | assumption | omega | rfl) (by first | assumption | omega | rfl) (by first | assumption | omega | rfl) (by first | assumption | omega | rfl) (by first | assumption | omega | rfl) _) (cwV 3 hts gv_X5_126 rfl rfl rfl hdX5_followsFrom ⟨Nat.le_of_ble_eq_true rfl, Nat.le_of_ble_eq_true rfl⟩) (cx_mreV (hP.sub (ws' := [(za, .inr (5, [.ref zt, .ref zp, .ref zq, .ref zv, .ref zc, .ref zx, .ref zw])), (zx, .inr (2, [.ref zy])), (zy, .inl (kI, 40, .inl (cI g1))), (zt, .inr (3, [.ref zs, .ref zf, .ref ze, .int (nI n)])), (zs, .inl (kI, 40, .inl S)), (zf, .inl (kI, 40, .inl (cA F))), (ze, .inl (kI, 40, .inl (cA E))), (zp, .inr (1, [.ref zl, .ref zr, .int (nI k)])), (zl, .inl (kI, 24, .inl (cI lf))), (zr, .inl (kI, 24, .inl (cI rt)))]) [0, 3, 4, 5, 6, 7, 8, 9, 10, 11] rfl) hK (hD.sub (ws' := [(za, .inr (5, [.ref zt, .ref zp, .ref zq, .ref zv, .ref zc, .ref zx, .ref zw])), (zx, .inr (2, [.ref zy])), (zy, .inl (kI, 40, .inl (cI g1))), (zt, .inr (3, [.ref zs, .ref zf, .ref ze, .int (nI n)])), (zs, .inl (kI, 40, .inl S)), (zf, .inl (kI, 40, .inl (cA F))), (ze, .inl (kI, 40, .inl (cA E))), (zp, .inr (1, [.ref zl, .ref zr, .int (nI k)])), (zl, .inl (kI, 24, .inl (cI lf))), (zr, .inl (kI, 24, .inl (cI rt)))]) [0, 3, 4, 5, 6, 7, 8, 9, 10, 11] (by decide) rfl) rfl (q0 := 0) rfl) rfl rfl hl.1 rfl (lv_room (Nat.le_of_ble_eq_true rfl)) dX5_explanation_54 ⟨Nat.zero_le _, Nat.zero_le _⟩) (fun r u54 H locs hres hP hD hS => ?_)
      subst hres
      have hP : va_P (dC, dI) vwCl [(za, .inr (5, [.ref zt, .ref zp, .ref zq, .ref zv, .ref zc, .ref zx, .ref zw])), (zc, .inr (2, [.ref zd])), (zd, .inl (kI, 40, .inl (cI f))), (zx, .inr (2, [.ref zy])), (zy, .inl (kI, 40, .inl (cI u54))), (zt, .inr (3, [.ref zs, .ref zf, .ref ze, .int (nI n)])), (zs, .inl (kI, 40, .inl S)), (zf, .inl (kI, 40, .inl (cA F))), (ze, .inl (kI, 40, .inl (cA E))), (zp, .inr (1, [.ref zl, .ref zr, .int (nI k)])), (zl, .inl (kI, 24, .inl (cI lf))), (zr, .inl (kI, 24, .inl (cI rt)))] H := hP.sub (ws' := [(za, .inr (5, [.ref zt, .ref zp, .ref zq, .ref zv, .ref zc, .ref zx, .ref zw])), (zc, .inr (2, [.ref zd])), (zd, .inl (kI, 40, .inl (cI f))), (zx, .inr (2, [.ref zy])), (zy, .inl (kI, 40, .inl (cI u54))), (zt, .inr (3, [.ref zs, .ref zf, .ref ze, .int (nI n)])), (zs, .inl (kI, 40, .inl S)), (zf, .inl (kI, 40, .inl (cA F))), (ze, .inl (kI, 40, .inl (cA E))), (zp, .inr (1, [.ref zl, .ref zr, .int (nI k)])), (zl, .inl (kI, 24, .inl (cI lf))), (zr, .inl (kI, 24, .inl (cI rt)))]) [2, 0, 1, 3, 4, 5, 6, 7, 8, 9, 10, 11] rfl
      have hD : va_D AA [(za, .inr (5, [.ref zt, .ref zp, .ref zq, .ref zv, .ref zc, .ref zx, .ref zw])), (zc, .inr (2, [.ref zd])), (zd, .inl (kI, 40, .inl (cI f))), (zx, .inr (2, [.ref zy])), (zy, .inl (kI, 40, .inl (cI u54))), (zt, .inr (3, [.ref zs, .ref zf, .ref ze, .int (nI n)])), (zs, .inl (kI, 40, .inl S)), (zf, .inl (kI, 40, .inl (cA F))), (ze, .inl (kI, 40, .inl (cA E))), (zp, .inr (1, [.ref zl, .ref zr, .int (nI k)])), (zl, .inl (kI, 24, .inl (cI lf))), (zr, .inl (kI, 24, .inl (cI rt)))] := hD.sub (ws' := [(za, .inr (5, [.ref zt, .ref zp, .ref zq, .ref zv, .ref zc, .ref zx, .ref zw])), (zc, .inr (2, [.ref zd])), (zd, .inl (kI, 40, .inl (cI f))), (zx, .inr (2, [.ref zy])), (zy, .inl (kI, 40, .inl (cI u54))), (zt, .inr (3, [.ref zs, .ref zf, .ref ze, .int (nI n)])), (zs, .inl (kI, 40, .inl S)), (zf, .inl (kI, 40, .inl (cA F))), (ze, .inl (kI, 40, .inl (cA E))), (zp, .inr (1, [.ref zl, .ref zr, .int (nI k)])), (zl, .inl (kI, 24, .inl (cI lf))), (zr, .inl (kI, 24, .inl (cI rt)))]) [2, 0, 1, 3, 4, 5, 6, 7, 8, 9, 10, 11] (by decide) rfl
      refine cx_if1 (tgt := 67) hx hb dX5_explanation_57 (by decide) (fun b3 => ?_) (fun b3 => ?_)
      · skip
        refine lv_iinc (k := 1) (v := aI q9) hx hb dX5_explanation_67 hl rfl cx_dec1 (by decide) rfl (fun ls hl => ?_)
        have hl : lv_has ls 5 [(4, .int (aI q9)), (3, .int kp), (0, .ref za), (1, .int (nI i)), (2, .int (nI j))] := hl
        refine lv_goto (tgt := 39) hx hb dX5_explanation_70 (by decide) ?_
        exact ih1 kp q9 u54 _ _ _ ⟨lv_sub hl [1, 0, 2, 3, 4] rfl, hP, hD, hS, (by first | assumption | omega | rfl), (by first | exact cg_xp_1 hx9 (by rw [← cg_J_or (by omega) qk]; exact b3) | exact cg_xp_0 hx9 (by rw [← cg_J_or (by omega) qk]; exact b3))⟩ (by show q9 < q9 + 1; omega)
      refine lv_iload_n hx hb dX5_explanation_60 rfl (lv_at hl 0 rfl) ?_
      refine lv_iconst (v := nI 1) hx hb dX5_explanation_61 (by decide) ?_
      refine lv_iload hx hb dX5_explanation_62 (lv_at hl 1 rfl) ?_
      refine lv_ishl hx hb dX5_explanation_64 ?_
      refine lv_ior hx hb dX5_explanation_65 ?_
      refine lv_istore_n hx hb dX5_explanation_66 rfl hl (by decide) rfl (fun ls hl => ?_)
      have hl : lv_has ls 5 [(3, .int (kp ||| ((nI 1) <<< ((aI (q9 + 1)) &&& 31)))), (4, .int (aI (q9 + 1))), (0, .ref za), (1, .int (nI i)), (2, .int (nI j))] := hl
      refine lv_iinc (k := 1) (v := aI q9) hx hb dX5_explanation_67 hl rfl cx_dec1 (by decide) rfl (fun ls hl => ?_)
      have hl : lv_has ls 5 [(4, .int (aI q9)), (3, .int (kp ||| ((nI 1) <<< ((aI (q9 + 1)) &&& 31)))), (0, .ref za), (1, .int (nI i)), (2, .int (nI j))] := hl
      refine lv_goto (tgt := 39) hx hb dX5_explanation_70 (by decide) ?_
      exact ih1 (kp ||| ((nI 1) <<< ((aI (q9 + 1)) &&& 31))) q9 u54 _ _ _ ⟨lv_sub hl [1, 0, 2, 3, 4] rfl, hP, hD, hS, (by first | assumption | omega | rfl), (by first | exact cg_xp_1 hx9 (by rw [← cg_J_or (by omega) qk]; exact b3) | exact cg_xp_0 hx9 (by rw [← cg_J_or (by omega) qk]; exact b3))⟩ (by show q9 < q9 + 1; omega)
    refine lv_iconst (v := (-1)) hx hb dX5_explanation_24 (by decide) ?_
    exact W.iret (v := (-1)) hx hb hr (fun t ht hW => ⟨⟨_, g, rfl, an_expl_n qn hi hj (by rw [← cg_J_all qf hi hj]; exact b1), by rw [ht]; exact hP, hD⟩, hS.F ht⟩) hS.2.2 dX5_explanation_25
  refine lv_bipush (v := (-2)) hx hb dX5_explanation_9 (by decide) ?_
  exact W.iret (v := (-2)) hx hb hr (fun t ht hW => ⟨⟨_, g, rfl, an_expl_b (of_decide_eq_false b0), by rw [ht]; exact hP, hD⟩, hS.F ht⟩) hS.2.2 dX5_explanation_11
