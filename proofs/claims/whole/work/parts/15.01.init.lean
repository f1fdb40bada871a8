set_option maxHeartbeats 4000000 in
set_option maxRecDepth 100000 in
theorem c_X3_init (l : Launch) (dC : Nat → ClassId) (dI : Nat → Nat → Nat) (kI kL : ClassId) (zt : Nat) (sz : Nat) : Met l yX3_init (.code yX3_init cX3_init 1 none :: tbw) { frames := 1, cells := 3, slots := 120, locals := 20 } (va_Pc [.ref zt] (cx_M (dC, dI) vwCl [(zt, .inr (3, [.null, .null, .null, .int (nI 0)]))] [(kI, .int), (kL, .long)] sz)) (va_Qv (fun (u : Nat × Nat × Nat) => True) (cx_B (dC, dI) vwCl (va_A [(zt, .inr (3, [.null, .null, .null, .int (nI 0)]))] sz) (fun u : Nat × Nat × Nat => [(zt, .inr (3, [.ref u.1, .ref u.2.1, .ref u.2.2, .int (nI 0)])), (u.1, .inl (kI, 40, .inl (fun _ => 0))), (u.2.1, .inl (kI, 40, .inl (cA (fun _ => 1)))), (u.2.2, .inl (kI, 40, .inl (cA (fun _ => 1))))])) (va_A [(zt, .inr (3, [.null, .null, .null, .int (nI 0)]))] sz)) 3 120 (va_A [(zt, .inr (3, [.null, .null, .null, .int (nI 0)]))] sz) := by
  refine Met.ofW (cc := cX3_init) (maxL := 1) (ret := none) (by decide) rfl ?_
  intro p e s m args below meth c s₁ B hml hv
  obtain ⟨rfl, hsz, hP, hK, hD0⟩ := hv
  have hx := B.exec
  have hb := B.bytes
  have hr := B.returns
  have hts := atoms_spec (ws := .code yX3_init cX3_init 1 none :: tbw) B.pre
  have hw : ∀ w ∈ tbw, w.before _ s = true := fun w h => hts w (List.mem_cons_of_mem _ h)
  have hown : s.vm.findClass RX3 = some m.cls := findClass_of_methodNamed B.named
  have hin : meth.name = "<init>" := (name_of_methodNamed B.named B.method).1
  subst hsz
  have hD := hD0.self (sz := s.heap.size)
  generalize hAe : va_A [(zt, .inr (3, [.null, .null, .null, .int (nI 0)]))] s.heap.size = AA at hD ⊢
  have hA : ∀ q : Nat, s.heap.size ≤ q → AA q := fun q h => by rw [← hAe]; exact Or.inr h
  have hS : va_S AA s.heap s.heap [] := va_S.rf
  have hP : va_P (dC, dI) vwCl [(zt, .inr (3, [.null, .null, .null, .int (nI 0)]))] s.heap := hP
  have hl := lv_entry ([.ref zt]) (n := 1) (Nat.le_of_ble_eq_true rfl)
  rw [lg_entry_eq]
  generalize (lg_sl ([.ref zt]) ++ List.replicate (1 - (lg_sl ([.ref zt])).length) Slot.unset).toArray = ls at hl ⊢
  have hl : lv_has ls 1 [(0, .ref zt)] := hl
  refine lv_aload_n hx hb dX3_init_0 rfl (lv_at hl 0 rfl) ?_
  refine W.objInit hx hb hown (hw _ tw_23) (hw _ tw_16) (hw _ tw_17) rfl (by rw [hml]; exact hl.1) rfl dX3_init_1 (Nat.le_of_ble_eq_true rfl) (Nat.le_of_ble_eq_true rfl) ?_
  refine W.eq (g2 := F0 m 4 ls []) rfl ?_
  refine lv_aload_n hx hb dX3_init_4 rfl (lv_at hl 0 rfl) ?_
  refine lv_bipush (v := nI 40) hx hb dX3_init_5 (by decide) ?_
  refine va_newa (a0 := (40, .inl (fun _ => 0))) (N' := 40) hx hb (hw _ tw_46) rfl hK hP hD hS hA (fun _ => cx_zR) (by decide) (by decide) (by decide) (Nat.le_of_ble_eq_true rfl) (Nat.le_of_ble_eq_true rfl) dX3_init_7 (fun q7 c9 H hK9 hP hD hS => ?_)
  obtain rfl := cx_cAI hK9
  refine W.widen (k := 1) (n := 40) (Nat.le_of_ble_eq_true rfl) (Nat.le_of_ble_eq_true rfl) ?_
  have hP : va_P (dC, dI) vwCl [(zt, .inr (3, [.null, .null, .null, .int (nI 0)])), (q7, .inl (kI, 40, .inl (fun _ => 0)))] H := hP
  have hD : va_D AA [(zt, .inr (3, [.null, .null, .null, .int (nI 0)])), (q7, .inl (kI, 40, .inl (fun _ => 0)))] := hD
  refine va_putF (D := (dC, dI)) (ci := 3) (v := .ref q7) (ty := .array .int) (C := RX3) (T := TX3) (N := 4) hx hb hts (tb_c tbX3) tyX3 tyX3_ok nmX3 hown hK hP hD hS 0 rfl rfl 0 (by decide) (hw _ tw_24) (fun _ h9 => h9) rfl hin rfl (by decide +kernel) rfl rfl (Nat.le_of_ble_eq_true rfl) dX3_init_9 (fun H locs hP hD hS => ?_)
  have hP : va_P (dC, dI) vwCl [(zt, .inr (3, [.ref q7, .null, .null, .int (nI 0)])), (q7, .inl (kI, 40, .inl (fun _ => 0)))] H := hP
  have hD : va_D AA [(zt, .inr (3, [.ref q7, .null, .null, .int (nI 0)])), (q7, .inl (kI, 40, .inl (fun _ => 0)))] := hD
  refine lv_aload_n hx hb dX3_init_12 rfl (lv_at hl 0 rfl) ?_
  refine lv_bipush (v := nI 40) hx hb dX3_init_13 (by decide) ?_
  refine va_newa (a0 := (40, .inl (cA (fun _ => 1)))) (N' := 40) hx hb (hw _ tw_46) rfl hK hP hD hS hA (fun _ => cx_zA) (by decide) (by decide) (by decide) (Nat.le_of_ble_eq_true rfl) (Nat.le_of_ble_eq_true rfl) dX3_init_15 (fun q15 c9 H hK9 hP hD hS => ?_)
  obtain rfl := cx_cAI hK9
  refine W.widen (k := 2) (n := 80) (Nat.le_of_ble_eq_true rfl) (Nat.le_of_ble_eq_true rfl) ?_
  have hP : va_P (dC, dI) vwCl [(zt, .inr (3, [.ref q7, .null, .null, .int (nI 0)])), (q7, .inl (kI, 40, .inl (fun _ => 0))), (q15, .inl (kI, 40, .inl (cA (fun _ => 1))))] H := hP
  have hD : va_D AA [(zt, .inr (3, [.ref q7, .null, .null, .int (nI 0)])), (q7, .inl (kI, 40, .inl (fun _ => 0))), (q15, .inl (kI, 40, .inl (cA (fun _ => 1))))] := hD
  refine va_putF (D := (dC, dI)) (ci := 3) (v := .ref q15) (ty := .array .int) (C := RX3) (T := TX3) (N := 4) hx hb hts (tb_c tbX3) tyX3 tyX3_ok nmX3 hown hK hP hD hS 0 rfl rfl 1 (by decide) (hw _ tw_27) (fun _ h9 => h9) rfl hin rfl (by decide +kernel) rfl rfl (Nat.le_of_ble_eq_true rfl) dX3_init_17 (fun H locs hP hD hS => ?_)
  have hP : va_P (dC, dI) vwCl [(zt, .inr (3, [.ref q7, .ref q15, .null, .int (nI 0)])), (q7, .inl (kI, 40, .inl (fun _ => 0))), (q15, .inl (kI, 40, .inl (cA (fun _ => 1))))] H := hP
  have hD : va_D AA [(zt, .inr (3, [.ref q7, .ref q15, .null, .int (nI 0)])), (q7, .inl (kI, 40, .inl (fun _ => 0))), (q15, .inl (kI, 40, .inl (cA (fun _ => 1))))] := hD
  refine lv_aload_n hx hb dX3_init_20 rfl (lv_at hl 0 rfl) ?_
  refine lv_bipush (v := nI 40) hx hb dX3_init_21 (by decide) ?_
  refine va_newa (a0 := (40, .inl (cA (fun _ => 1)))) (N' := 40) hx hb (hw _ tw_46) rfl hK hP hD hS hA (fun _ => cx_zA) (by decide) (by decide) (by decide) (Nat.le_of_ble_eq_true rfl) (Nat.le_of_ble_eq_true rfl) dX3_init_23 (fun q23 c9 H hK9 hP hD hS => ?_)
  obtain rfl := cx_cAI hK9
  refine W.widen (k := 3) (n := 120) (Nat.le_of_ble_eq_true rfl) (Nat.le_of_ble_eq_true rfl) ?_
  have hP : va_P (dC, dI) vwCl [(zt, .inr (3, [.ref q7, .ref q15, .null, .int (nI 0)])), (q7, .inl (kI, 40, .inl (fun _ => 0))), (q15, .inl (kI, 40, .inl (cA (fun _ => 1)))), (q23, .inl (kI, 40, .inl (cA (fun _ => 1))))] H := hP
  have hD : va_D AA [(zt, .inr (3, [.ref q7, .ref q15, .null, .int (nI 0)])), (q7, .inl (kI, 40, .inl (fun _ => 0))), (q15, .inl (kI, 40, .inl (cA (fun _ => 1)))), (q23, .inl (kI, 40, .inl (cA (fun _ => 1))))] := hD
  refine va_putF (D := (dC, dI)) (ci := 3) (v := .ref q23) (ty := .array .int) (C := RX3) (T := TX3) (N := 4) hx hb hts (tb_c tbX3) tyX3 tyX3_ok nmX3 hown hK hP hD hS 0 rfl rfl 2 (by decide) (hw _ tw_30) (fun _ h9 => h9) rfl hin rfl (by decide +kernel) rfl rfl (Nat.le_of_ble_eq_true rfl) dX3_init_25 (fun H locs hP hD hS => ?_)
  have hP : va_P (dC, dI) vwCl [(zt, .inr (3, [.ref q7, .ref q15, .ref q23, .int (nI 0)])), (q7, .inl (kI, 40, .inl (fun _ => 0))), (q15, .inl (kI, 40, .inl (cA (fun _ => 1)))), (q23, .inl (kI, 40, .inl (cA (fun _ => 1))))] H := hP
  have hD : va_D AA [(zt, .inr (3, [.ref q7, .ref q15, .ref q23, .int (nI 0)])), (q7, .inl (kI, 40, .inl (fun _ => 0))), (q15, .inl (kI, 40, .inl (cA (fun _ => 1)))), (q23, .inl (kI, 40, .inl (cA (fun _ => 1))))] := hD
  refine lv_aload_n hx hb dX3_init_28 rfl (lv_at hl 0 rfl) ?_
  refine lv_iconst (v := nI 0) hx hb dX3_init_29 (by decide) ?_
  refine va_put (D := (dC, dI)) (ci := 3) (v := .int (nI 0)) (ty := .int) (C := RX3) (T := TX3) (N := 4) hx hb hts (tb_c tbX3) tyX3 tyX3_ok nmX3 hown hK hP hD hS 0 rfl rfl 3 (by decide) (hw _ tw_33) (fun _ h9 => h9) rfl (by decide +kernel) rfl rfl (Nat.le_of_ble_eq_true rfl) dX3_init_30 (fun H locs hP hD hS => ?_)
  have hP : va_P (dC, dI) vwCl [(zt, .inr (3, [.ref q7, .ref q15, .ref q23, .int (nI 0)])), (q7, .inl (kI, 40, .inl (fun _ => 0))), (q15, .inl (kI, 40, .inl (cA (fun _ => 1)))), (q23, .inl (kI, 40, .inl (cA (fun _ => 1))))] H := hP
  have hD : va_D AA [(zt, .inr (3, [.ref q7, .ref q15, .ref q23, .int (nI 0)])), (q7, .inl (kI, 40, .inl (fun _ => 0))), (q15, .inl (kI, 40, .inl (cA (fun _ => 1)))), (q23, .inl (kI, 40, .inl (cA (fun _ => 1))))] := hD
  have hP9 := hP.sub (ws' := [(zt, .inr (3, [.ref q7, .ref q15, .ref q23, .int (nI 0)])), (q7, .inl (kI, 40, .inl (fun _ => 0))), (q15, .inl (kI, 40, .inl (cA (fun _ => 1)))), (q23, .inl (kI, 40, .inl (cA (fun _ => 1))))]) [0, 1, 2, 3] rfl
  have hD9 := hD.sub (ws' := [(zt, .inr (3, [.ref q7, .ref q15, .ref q23, .int (nI 0)])), (q7, .inl (kI, 40, .inl (fun _ => 0))), (q15, .inl (kI, 40, .inl (cA (fun _ => 1)))), (q23, .inl (kI, 40, .inl (cA (fun _ => 1))))]) [0, 1, 2, 3] (by decide) rfl
  exact W.vret hx hb hr (fun t ht hW => ⟨⟨(q7, q15, q23), rfl, trivial, by rw [ht]; exact hP9, hD9⟩, hS.F ht⟩) hS.2.2 dX3_init_33

set_option maxHeartbeats 4000000 in
set_option maxRecDepth 100000 in
theorem c_X1_init_24 (l : Launch) (dC : Nat → ClassId) (dI : Nat → Nat → Nat) (kI kL : ClassId) (zp : Nat) (sz : Nat) : Met l yX1_init (.code yX1_init cX1_init 2 none :: tbw) { frames := 1, cells := 2, slots := 48, locals := 20 } (va_Pc [.ref zp, .int (nI 24)] (cx_M (dC, dI) vwCl [(zp, .inr (1, [.null, .null, .int (nI 0)]))] [(kI, .int), (kL, .long)] sz)) (va_Qv (fun (u : Nat × Nat) => True) (cx_B (dC, dI) vwCl (va_A [(zp, .inr (1, [.null, .null, .int (nI 0)]))] sz) (fun u : Nat × Nat => [(zp, .inr (1, [.ref u.1, .ref u.2, .int (nI 0)])), (u.1, .inl (kI, 24, .inl (cI (fun _ => 0)))), (u.2, .inl (kI, 24, .inl (cI (fun _ => 0))))])) (va_A [(zp, .inr (1, [.null, .null, .int (nI 0)]))] sz)) 2 48 (va_A [(zp, .inr (1, [.null, .null, .int (nI 0)]))] sz) := by
  refine Met.ofW (cc := cX1_init) (maxL := 2) (ret := none) (by decide) rfl ?_
  intro p e s m args below meth c s₁ B hml hv
  obtain ⟨rfl, hsz, hP, hK, hD0⟩ := hv
  have hx := B.exec
  have hb := B.bytes
  have hr := B.returns
  have hts := atoms_spec (ws := .code yX1_init cX1_init 2 none :: tbw) B.pre
  have hw : ∀ w ∈ tbw, w.before _ s = true := fun w h => hts w (List.mem_cons_of_mem _ h)
  have hown : s.vm.findClass RX1 = some m.cls := findClass_of_methodNamed B.named
  have hin : meth.name = "<init>" := (name_of_methodNamed B.named B.method).1
  subst hsz
  have hD := hD0.self (sz := s.heap.size)
  generalize hAe : va_A [(zp, .inr (1, [.null, .null, .int (nI 0)]))] s.heap.size = AA at hD ⊢
  have hA : ∀ q : Nat, s.heap.size ≤ q → AA q := fun q h => by rw [← hAe]; exact Or.inr h
  have hS : va_S AA s.heap s.heap [] := va_S.rf
  have hP : va_P (dC, dI) vwCl [(zp, .inr (1, [.null, .null, .int (nI 0)]))] s.heap := hP
  have hl := lv_entry ([.ref zp, .int (nI 24)]) (n := 2) (Nat.le_of_ble_eq_true rfl)
  rw [lg_entry_eq]
  generalize (lg_sl ([.ref zp, .int (nI 24)]) ++ List.replicate (2 - (lg_sl ([.ref zp, .int (nI 24)])).length) Slot.unset).toArray = ls at hl ⊢
  have hl : lv_has ls 2 [(0, .ref zp), (1, .int (nI 24))] := hl
  refine lv_aload_n hx hb dX1_init_0 rfl (lv_at hl 0 rfl) ?_
  refine W.objInit hx hb hown (hw _ tw_52) (hw _ tw_16) (hw _ tw_17) rfl (by rw [hml]; exact hl.1) rfl dX1_init_1 (Nat.le_of_ble_eq_true rfl) (Nat.le_of_ble_eq_true rfl) ?_
  refine W.eq (g2 := F0 m 4 ls []) rfl ?_
  refine lv_aload_n hx hb dX1_init_4 rfl (lv_at hl 0 rfl) ?_
  refine lv_iconst (v := nI 0) hx hb dX1_init_5 (by decide) ?_
  refine va_put (D := (dC, dI)) (ci := 1) (v := .int (nI 0)) (ty := .int) (C := RX1) (T := TX1) (N := 3) hx hb hts (tb_c tbX1) tyX1 tyX1_ok nmX1 hown hK hP hD hS 0 rfl rfl 2 (by decide) (hw _ tw_59) (fun _ h9 => h9) rfl (by decide +kernel) rfl rfl (Nat.le_of_ble_eq_true rfl) dX1_init_6 (fun H locs hP hD hS => ?_)
  have hP : va_P (dC, dI) vwCl [(zp, .inr (1, [.null, .null, .int (nI 0)]))] H := hP
  have hD : va_D AA [(zp, .inr (1, [.null, .null, .int (nI 0)]))] := hD
  refine lv_aload_n hx hb dX1_init_9 rfl (lv_at hl 0 rfl) ?_
  refine lv_iload_n hx hb dX1_init_10 rfl (lv_at hl 1 rfl) ?_
  refine va_newa (a0 := (24, .inl (cI (fun _ => 0)))) (N' := 24) hx hb (hw _ tw_46) rfl hK hP hD hS hA (fun _ => cx_zI) (by decide) (by decide) (by decide) (Nat.le_of_ble_eq_true rfl) (Nat.le_of_ble_eq_true rfl) dX1_init_11 (fun q11 c9 H hK9 hP hD hS => ?_)
  obtain rfl := cx_cAI hK9
  refine W.widen (k := 1) (n := 24) (Nat.le_of_ble_eq_true rfl) (Nat.le_of_ble_eq_true rfl) ?_
  have hP : va_P (dC, dI) vwCl [(zp, .inr (1, [.null, .null, .int (nI 0)])), (q11, .inl (kI, 24, .inl (cI (fun _ => 0))))] H := hP
  have hD : va_D AA [(zp, .inr (1, [.null, .null, .int (nI 0)])), (q11, .inl (kI, 24, .inl (cI (fun _ => 0))))] := hD
  refine va_putF (D := (dC, dI)) (ci := 1) (v := .ref q11) (ty := .array .int) (C := RX1) (T := TX1) (N := 3) hx hb hts (tb_c tbX1) tyX1 tyX1_ok nmX1 hown hK hP hD hS 0 rfl rfl 0 (by decide) (hw _ tw_53) (fun _ h9 => h9) rfl hin rfl (by decide +kernel) rfl rfl (Nat.le_of_ble_eq_true rfl) dX1_init_13 (fun H locs hP hD hS => ?_)
  have hP : va_P (dC, dI) vwCl [(zp, .inr (1, [.ref q11, .null, .int (nI 0)])), (q11, .inl (kI, 24, .inl (cI (fun _ => 0))))] H := hP
  have hD : va_D AA [(zp, .inr (1, [.ref q11, .null, .int (nI 0)])), (q11, .inl (kI, 24, .inl (cI (fun _ => 0))))] := hD
  refine lv_aload_n hx hb dX1_init_16 rfl (lv_at hl 0 rfl) ?_
  refine lv_iload_n hx hb dX1_init_17 rfl (lv_at hl 1 rfl) ?_
  refine va_newa (a0 := (24, .inl (cI (fun _ => 0)))) (N' := 24) hx hb (hw _ tw_46) rfl hK hP hD hS hA (fun _ => cx_zI) (by decide) (by decide) (by decide) (Nat.le_of_ble_eq_true rfl) (Nat.le_of_ble_eq_true rfl) dX1_init_18 (fun q18 c9 H hK9 hP hD hS => ?_)
  obtain rfl := cx_cAI hK9
  refine W.widen (k := 2) (n := 48) (Nat.le_of_ble_eq_true rfl) (Nat.le_of_ble_eq_true rfl) ?_
  have hP : va_P (dC, dI) vwCl [(zp, .inr (1, [.ref q11, .null, .int (nI 0)])), (q11, .inl (kI, 24, .inl (cI (fun _ => 0)))), (q18, .inl (kI, 24, .inl (cI (fun _ => 0))))] H := hP
  have hD : va_D AA [(zp, .inr (1, [.ref q11, .null, .int (nI 0)])), (q11, .inl (kI, 24, .inl (cI (fun _ => 0)))), (q18, .inl (kI, 24, .inl (cI (fun _ => 0))))] := hD
  refine va_putF (D := (dC, dI)) (ci := 1) (v := .ref q18) (ty := .array .int) (C := RX1) (T := TX1) (N := 3) hx hb hts (tb_c tbX1) tyX1 tyX1_ok nmX1 hown hK hP hD hS 0 rfl rfl 1 (by decide) (hw _ tw_56) (fun _ h9 => h9) rfl hin rfl (by decide +kernel) rfl rfl (Nat.le_of_ble_eq_true rfl) dX1_init_20 (fun H locs hP hD hS => ?_)
  have hP : va_P (dC, dI) vwCl [(zp, .inr (1, [.ref q11, .ref q18, .int (nI 0)])), (q11, .inl (kI, 24, .inl (cI (fun _ => 0)))), (q18, .inl (kI, 24, .inl (cI (fun _ => 0))))] H := hP
  have hD : va_D AA [(zp, .inr (1, [.ref q11, .ref q18, .int (nI 0)])), (q11, .inl (kI, 24, .inl (cI (fun _ => 0)))), (q18, .inl (kI, 24, .inl (cI (fun _ => 0))))] := hD
  have hP9 := hP.sub (ws' := [(zp, .inr (1, [.ref q11, .ref q18, .int (nI 0)])), (q11, .inl (kI, 24, .inl (cI (fun _ => 0)))), (q18, .inl (kI, 24, .inl (cI (fun _ => 0))))]) [0, 1, 2] rfl
  have hD9 := hD.sub (ws' := [(zp, .inr (1, [.ref q11, .ref q18, .int (nI 0)])), (q11, .inl (kI, 24, .inl (cI (fun _ => 0)))), (q18, .inl (kI, 24, .inl (cI (fun _ => 0))))]) [0, 1, 2] (by decide) rfl
  exact W.vret hx hb hr (fun t ht hW => ⟨⟨(q11, q18), rfl, trivial, by rw [ht]; exact hP9, hD9⟩, hS.F ht⟩) hS.2.2 dX1_init_23

set_option maxHeartbeats 4000000 in
set_option maxRecDepth 100000 in
theorem c_X1_init_16 (l : Launch) (dC : Nat → ClassId) (dI : Nat → Nat → Nat) (kI kL : ClassId) (zp : Nat) (sz : Nat) : Met l yX1_init (.code yX1_init cX1_init 2 none :: tbw) { frames := 1, cells := 2, slots := 32, locals := 20 } (va_Pc [.ref zp, .int (nI 16)] (cx_M (dC, dI) vwCl [(zp, .inr (1, [.null, .null, .int (nI 0)]))] [(kI, .int), (kL, .long)] sz)) (va_Qv (fun (u : Nat × Nat) => True) (cx_B (dC, dI) vwCl (va_A [(zp, .inr (1, [.null, .null, .int (nI 0)]))] sz) (fun u : Nat × Nat => [(zp, .inr (1, [.ref u.1, .ref u.2, .int (nI 0)])), (u.1, .inl (kI, 16, .inl (cI (fun _ => 0)))), (u.2, .inl (kI, 16, .inl (cI (fun _ => 0))))])) (va_A [(zp, .inr (1, [.null, .null, .int (nI 0)]))] sz)) 2 32 (va_A [(zp, .inr (1, [.null, .null, .int (nI 0)]))] sz) := by
  refine Met.ofW (cc := cX1_init) (maxL := 2) (ret := none) (by decide) rfl ?_
  intro p e s m args below meth c s₁ B hml hv
  obtain ⟨rfl, hsz, hP, hK, hD0⟩ := hv
  have hx := B.exec
  have hb := B.bytes
  have hr := B.returns
  have hts := atoms_spec (ws := .code yX1_init cX1_init 2 none :: tbw) B.pre
  have hw : ∀ w ∈ tbw, w.before _ s = true := fun w h => hts w (List.mem_cons_of_mem _ h)
  have hown : s.vm.findClass RX1 = some m.cls := findClass_of_methodNamed B.named
  have hin : meth.name = "<init>" := (name_of_methodNamed B.named B.method).1
  subst hsz
  have hD := hD0.self (sz := s.heap.size)
  generalize hAe : va_A [(zp, .inr (1, [.null, .null, .int (nI 0)]))] s.heap.size = AA at hD ⊢
  have hA : ∀ q : Nat, s.heap.size ≤ q → AA q := fun q h => by rw [← hAe]; exact Or.inr h
  have hS : va_S AA s.heap s.heap [] := va_S.rf
  have hP : va_P (dC, dI) vwCl [(zp, .inr (1, [.null, .null, .int (nI 0)]))] s.heap := hP
  have hl := lv_entry ([.ref zp, .int (nI 16)]) (n := 2) (Nat.le_of_ble_eq_true rfl)
  rw [lg_entry_eq]
  generalize (lg_sl ([.ref zp, .int (nI 16)]) ++ List.replicate (2 - (lg_sl ([.ref zp, .int (nI 16)])).length) Slot.unset).toArray = ls at hl ⊢
  have hl : lv_has ls 2 [(0, .ref zp), (1, .int (nI 16))] := hl
  refine lv_aload_n hx hb dX1_init_0 rfl (lv_at hl 0 rfl) ?_
  refine W.objInit hx hb hown (hw _ tw_52) (hw _ tw_16) (hw _ tw_17) rfl (by rw [hml]; exact hl.1) rfl dX1_init_1 (Nat.le_of_ble_eq_true rfl) (Nat.le_of_ble_eq_true rfl) ?_
  refine W.eq (g2 := F0 m 4 ls []) rfl ?_
  refine lv_aload_n hx hb dX1_init_4 rfl (lv_at hl 0 rfl) ?_
  refine lv_iconst (v := nI 0) hx hb dX1_init_5 (by decide) ?_
  refine va_put (D := (dC, dI)) (ci := 1) (v := .int (nI 0)) (ty := .int) (C := RX1) (T := TX1) (N := 3) hx hb hts (tb_c tbX1) tyX1 tyX1_ok nmX1 hown hK hP hD hS 0 rfl rfl 2 (by decide) (hw _ tw_59) (fun _ h9 => h9) rfl (by decide +kernel) rfl rfl (Nat.le_of_ble_eq_true rfl) dX1_init_6 (fun H locs hP hD hS => ?_)
  have hP : va_P (dC, dI) vwCl [(zp, .inr (1, [.null, .null, .int (nI 0)]))] H := hP
  have hD : va_D AA [(zp, .inr (1, [.null, .null, .int (nI 0)]))] := hD
  refine lv_aload_n hx hb dX1_init_9 rfl (lv_at hl 0 rfl) ?_
  refine lv_iload_n hx hb dX1_init_10 rfl (lv_at hl 1 rfl) ?_
  refine va_newa (a0 := (16, .inl (cI (fun _ => 0)))) (N' := 16) hx hb (hw _ tw_46) rfl hK hP hD hS hA (fun _ => cx_zI) (by decide) (by decide) (by decide) (Nat.le_of_ble_eq_true rfl) (Nat.le_of_ble_eq_true rfl) dX1_init_11 (fun q11 c9 H hK9 hP hD hS => ?_)
  obtain rfl := cx_cAI hK9
  refine W.widen (k := 1) (n := 16) (Nat.le_of_ble_eq_true rfl) (Nat.le_of_ble_eq_true rfl) ?_
  have hP : va_P (dC, dI) vwCl [(zp, .inr (1, [.null, .null, .int (nI 0)])), (q11, .inl (kI, 16, .inl (cI (fun _ => 0))))] H := hP
  have hD : va_D AA [(zp, .inr (1, [.null, .null, .int (nI 0)])), (q11, .inl (kI, 16, .inl (cI (fun _ => 0))))] := hD
  refine va_putF (D := (dC, dI)) (ci := 1) (v := .ref q11) (ty := .array .int) (C := RX1) (T := TX1) (N := 3) hx hb hts (tb_c tbX1) tyX1 tyX1_ok nmX1 hown hK hP hD hS 0 rfl rfl 0 (by decide) (hw _ tw_53) (fun _ h9 => h9) rfl hin rfl (by decide +kernel) rfl rfl (Nat.le_of_ble_eq_true rfl) dX1_init_13 (fun H locs hP hD hS => ?_)
  have hP : va_P (dC, dI) vwCl [(zp, .inr (1, [.ref q11, .null, .int (nI 0)])), (q11, .inl (kI, 16, .inl (cI (fun _ => 0))))] H := hP
  have hD : va_D AA [(zp, .inr (1, [.ref q11, .null, .int (nI 0)])), (q11, .inl (kI, 16, .inl (cI (fun _ => 0))))] := hD
  refine lv_aload_n hx hb dX1_init_16 rfl (lv_at hl 0 rfl) ?_
  refine lv_iload_n hx hb dX1_init_17 rfl (lv_at hl 1 rfl) ?_
  refine va_newa (a0 := (16, .inl (cI (fun _ => 0)))) (N' := 16) hx hb (hw _ tw_46) rfl hK hP hD hS hA (fun _ => cx_zI) (by decide) (by decide) (by decide) (Nat.le_of_ble_eq_true rfl) (Nat.le_of_ble_eq_true rfl) dX1_init_18 (fun q18 c9 H hK9 hP hD hS => ?_)
  obtain rfl := cx_cAI hK9
  refine W.widen (k := 2) (n := 32) (Nat.le_of_ble_eq_true rfl) (Nat.le_of_ble_eq_true rfl) ?_
  have hP : va_P (dC, dI) vwCl [(zp, .inr (1, [.ref q11, .null, .int (nI 0)])), (q11, .inl (kI, 16, .inl (cI (fun _ => 0)))), (q18, .inl (kI, 16, .inl (cI (fun _ => 0))))] H := hP
  have hD : va_D AA [(zp, .inr (1, [.ref q11, .null, .int (nI 0)])), (q11, .inl (kI, 16, .inl (cI (fun _ => 0)))), (q18, .inl (kI, 16, .inl (cI (fun _ => 0))))] := hD
  refine va_putF (D := (dC, dI)) (ci := 1) (v := .ref q18) (ty := .array .int) (C := RX1) (T := TX1) (N := 3) hx hb hts (tb_c tbX1) tyX1 tyX1_ok nmX1 hown hK hP hD hS 0 rfl rfl 1 (by decide) (hw _ tw_56) (fun _ h9 => h9) rfl hin rfl (by decide +kernel) rfl rfl (Nat.le_of_ble_eq_true rfl) dX1_init_20 (fun H locs hP hD hS => ?_)
  have hP : va_P (dC, dI) vwCl [(zp, .inr (1, [.ref q11, .ref q18, .int (nI 0)])), (q11, .inl (kI, 16, .inl (cI (fun _ => 0)))), (q18, .inl (kI, 16, .inl (cI (fun _ => 0))))] H := hP
  have hD : va_D AA [(zp, .inr (1, [.ref q11, .ref q18, .int (nI 0)])), (q11, .inl (kI, 16, .inl (cI (fun _ => 0)))), (q18, .inl (kI, 16, .inl (cI (fun _ => 0))))] := hD
  have hP9 := hP.sub (ws' := [(zp, .inr (1, [.ref q11, .ref q18, .int (nI 0)])), (q11, .inl (kI, 16, .inl (cI (fun _ => 0)))), (q18, .inl (kI, 16, .inl (cI (fun _ => 0))))]) [0, 1, 2] rfl
  have hD9 := hD.sub (ws' := [(zp, .inr (1, [.ref q11, .ref q18, .int (nI 0)])), (q11, .inl (kI, 16, .inl (cI (fun _ => 0)))), (q18, .inl (kI, 16, .inl (cI (fun _ => 0))))]) [0, 1, 2] (by decide) rfl
  exact W.vret hx hb hr (fun t ht hW => ⟨⟨(q11, q18), rfl, trivial, by rw [ht]; exact hP9, hD9⟩, hS.F ht⟩) hS.2.2 dX1_init_23

set_option maxHeartbeats 4000000 in
set_option maxRecDepth 100000 in
theorem c_X0_init (l : Launch) (dC : Nat → ClassId) (dI : Nat → Nat → Nat) (kI kL : ClassId) (zv : Nat) (sz : Nat) : Met l yX0_init (.code yX0_init cX0_init 1 none :: tbw) { frames := 1, cells := 3, slots := 18, locals := 20 } (va_Pc [.ref zv] (cx_M (dC, dI) vwCl [(zv, .inr (0, [.null, .null, .null, .int (nI 0)]))] [(kI, .int), (kL, .long)] sz)) (va_Qv (fun (u : Nat × Nat × Nat) => True) (cx_B (dC, dI) vwCl (va_A [(zv, .inr (0, [.null, .null, .null, .int (nI 0)]))] sz) (fun u : Nat × Nat × Nat => [(zv, .inr (0, [.ref u.1, .ref u.2.1, .ref u.2.2, .int (nI 0)])), (u.1, .inl (kI, 6, .inl (cI (fun _ => 0)))), (u.2.1, .inl (kI, 6, .inl (cI (fun _ => 0)))), (u.2.2, .inl (kI, 6, .inl (cI (fun _ => 0))))])) (va_A [(zv, .inr (0, [.null, .null, .null, .int (nI 0)]))] sz)) 3 18 (va_A [(zv, .inr (0, [.null, .null, .null, .int (nI 0)]))] sz) := by
  refine Met.ofW (cc := cX0_init) (maxL := 1) (ret := none) (by decide) rfl ?_
  intro p e s m args below meth c s₁ B hml hv
  obtain ⟨rfl, hsz, hP, hK, hD0⟩ := hv
  have hx := B.exec
  have hb := B.bytes
  have hr := B.returns
  have hts := atoms_spec (ws := .code yX0_init cX0_init 1 none :: tbw) B.pre
  have hw : ∀ w ∈ tbw, w.before _ s = true := fun w h => hts w (List.mem_cons_of_mem _ h)
  have hown : s.vm.findClass RX0 = some m.cls := findClass_of_methodNamed B.named
  have hin : meth.name = "<init>" := (name_of_methodNamed B.named B.method).1
  subst hsz
  have hD := hD0.self (sz := s.heap.size)
  generalize hAe : va_A [(zv, .inr (0, [.null, .null, .null, .int (nI 0)]))] s.heap.size = AA at hD ⊢
  have hA : ∀ q : Nat, s.heap.size ≤ q → AA q := fun q h => by rw [← hAe]; exact Or.inr h
  have hS : va_S AA s.heap s.heap [] := va_S.rf
  have hP : va_P (dC, dI) vwCl [(zv, .inr (0, [.null, .null, .null, .int (nI 0)]))] s.heap := hP
  have hl := lv_entry ([.ref zv]) (n := 1) (Nat.le_of_ble_eq_true rfl)
  rw [lg_entry_eq]
  generalize (lg_sl ([.ref zv]) ++ List.replicate (1 - (lg_sl ([.ref zv])).length) Slot.unset).toArray = ls at hl ⊢
  have hl : lv_has ls 1 [(0, .ref zv)] := hl
  refine lv_aload_n hx hb dX0_init_0 rfl (lv_at hl 0 rfl) ?_
  refine W.objInit hx hb hown (hw _ tw_74) (hw _ tw_16) (hw _ tw_17) rfl (by rw [hml]; exact hl.1) rfl dX0_init_1 (Nat.le_of_ble_eq_true rfl) (Nat.le_of_ble_eq_true rfl) ?_
  refine W.eq (g2 := F0 m 4 ls []) rfl ?_
  refine lv_aload_n hx hb dX0_init_4 rfl (lv_at hl 0 rfl) ?_
  refine lv_bipush (v := nI 6) hx hb dX0_init_5 (by decide) ?_
  refine va_newa (a0 := (6, .inl (cI (fun _ => 0)))) (N' := 6) hx hb (hw _ tw_46) rfl hK hP hD hS hA (fun _ => cx_zI) (by decide) (by decide) (by decide) (Nat.le_of_ble_eq_true rfl) (Nat.le_of_ble_eq_true rfl) dX0_init_7 (fun q7 c9 H hK9 hP hD hS => ?_)
  obtain rfl := cx_cAI hK9
  refine W.widen (k := 1) (n := 6) (Nat.le_of_ble_eq_true rfl) (Nat.le_of_ble_eq_true rfl) ?_
  have hP : va_P (dC, dI) vwCl [(zv, .inr (0, [.null, .null, .null, .int (nI 0)])), (q7, .inl (kI, 6, .inl (cI (fun _ => 0))))] H := hP
  have hD : va_D AA [(zv, .inr (0, [.null, .null, .null, .int (nI 0)])), (q7, .inl (kI, 6, .inl (cI (fun _ => 0))))] := hD
  refine va_putF (D := (dC, dI)) (ci := 0) (v := .ref q7) (ty := .array .int) (C := RX0) (T := TX0) (N := 4) hx hb hts (tb_c tbX0) tyX0 tyX0_ok nmX0 hown hK hP hD hS 0 rfl rfl 0 (by decide) (hw _ tw_75) (fun _ h9 => h9) rfl hin rfl (by decide +kernel) rfl rfl (Nat.le_of_ble_eq_true rfl) dX0_init_9 (fun H locs hP hD hS => ?_)
  have hP : va_P (dC, dI) vwCl [(zv, .inr (0, [.ref q7, .null, .null, .int (nI 0)])), (q7, .inl (kI, 6, .inl (cI (fun _ => 0))))] H := hP
  have hD : va_D AA [(zv, .inr (0, [.ref q7, .null, .null, .int (nI 0)])), (q7, .inl (kI, 6, .inl (cI (fun _ => 0))))] := hD
  refine lv_aload_n hx hb dX0_init_12 rfl (lv_at hl 0 rfl) ?_
  refine lv_bipush (v := nI 6) hx hb dX0_init_13 (by decide) ?_
  refine va_newa (a0 := (6, .inl (cI (fun _ => 0)))) (N' := 6) hx hb (hw _ tw_46) rfl hK hP hD hS hA (fun _ => cx_zI) (by decide) (by decide) (by decide) (Nat.le_of_ble_eq_true rfl) (Nat.le_of_ble_eq_true rfl) dX0_init_15 (fun q15 c9 H hK9 hP hD hS => ?_)
  obtain rfl := cx_cAI hK9
  refine W.widen (k := 2) (n := 12) (Nat.le_of_ble_eq_true rfl) (Nat.le_of_ble_eq_true rfl) ?_
  have hP : va_P (dC, dI) vwCl [(zv, .inr (0, [.ref q7, .null, .null, .int (nI 0)])), (q7, .inl (kI, 6, .inl (cI (fun _ => 0)))), (q15, .inl (kI, 6, .inl (cI (fun _ => 0))))] H := hP
  have hD : va_D AA [(zv, .inr (0, [.ref q7, .null, .null, .int (nI 0)])), (q7, .inl (kI, 6, .inl (cI (fun _ => 0)))), (q15, .inl (kI, 6, .inl (cI (fun _ => 0))))] := hD
  refine va_putF (D := (dC, dI)) (ci := 0) (v := .ref q15) (ty := .array .int) (C := RX0) (T := TX0) (N := 4) hx hb hts (tb_c tbX0) tyX0 tyX0_ok nmX0 hown hK hP hD hS 0 rfl rfl 1 (by decide) (hw _ tw_77) (fun _ h9 => h9) rfl hin rfl (by decide +kernel) rfl rfl (Nat.le_of_ble_eq_true rfl) dX0_init_17 (fun H locs hP hD hS => ?_)
  have hP : va_P (dC, dI) vwCl [(zv, .inr (0, [.ref q7, .ref q15, .null, .int (nI 0)])), (q7, .inl (kI, 6, .inl (cI (fun _ => 0)))), (q15, .inl (kI, 6, .inl (cI (fun _ => 0))))] H := hP
  have hD : va_D AA [(zv, .inr (0, [.ref q7, .ref q15, .null, .int (nI 0)])), (q7, .inl (kI, 6, .inl (cI (fun _ => 0)))), (q15, .inl (kI, 6, .inl (cI (fun _ => 0))))] := hD
  refine lv_aload_n hx hb dX0_init_20 rfl (lv_at hl 0 rfl) ?_
  refine lv_bipush (v := nI 6) hx hb dX0_init_21 (by decide) ?_
  refine va_newa (a0 := (6, .inl (cI (fun _ => 0)))) (N' := 6) hx hb (hw _ tw_46) rfl hK hP hD hS hA (fun _ => cx_zI) (by decide) (by decide) (by decide) (Nat.le_of_ble_eq_true rfl) (Nat.le_of_ble_eq_true rfl) dX0_init_23 (fun q23 c9 H hK9 hP hD hS => ?_)
  obtain rfl := cx_cAI hK9
  refine W.widen (k := 3) (n := 18) (Nat.le_of_ble_eq_true rfl) (Nat.le_of_ble_eq_true rfl) ?_
  have hP : va_P (dC, dI) vwCl [(zv, .inr (0, [.ref q7, .ref q15, .null, .int (nI 0)])), (q7, .inl (kI, 6, .inl (cI (fun _ => 0)))), (q15, .inl (kI, 6, .inl (cI (fun _ => 0)))), (q23, .inl (kI, 6, .inl (cI (fun _ => 0))))] H := hP
  have hD : va_D AA [(zv, .inr (0, [.ref q7, .ref q15, .null, .int (nI 0)])), (q7, .inl (kI, 6, .inl (cI (fun _ => 0)))), (q15, .inl (kI, 6, .inl (cI (fun _ => 0)))), (q23, .inl (kI, 6, .inl (cI (fun _ => 0))))] := hD
  refine va_putF (D := (dC, dI)) (ci := 0) (v := .ref q23) (ty := .array .int) (C := RX0) (T := TX0) (N := 4) hx hb hts (tb_c tbX0) tyX0 tyX0_ok nmX0 hown hK hP hD hS 0 rfl rfl 2 (by decide) (hw _ tw_79) (fun _ h9 => h9) rfl hin rfl (by decide +kernel) rfl rfl (Nat.le_of_ble_eq_true rfl) dX0_init_25 (fun H locs hP hD hS => ?_)
  have hP : va_P (dC, dI) vwCl [(zv, .inr (0, [.ref q7, .ref q15, .ref q23, .int (nI 0)])), (q7, .inl (kI, 6, .inl (cI (fun _ => 0)))), (q15, .inl (kI, 6, .inl (cI (fun _ => 0)))), (q23, .inl (kI, 6, .inl (cI (fun _ => 0))))] H := hP
  have hD : va_D AA [(zv, .inr (0, [.ref q7, .ref q15, .ref q23, .int (nI 0)])), (q7, .inl (kI, 6, .inl (cI (fun _ => 0)))), (q15, .inl (kI, 6, .inl (cI (fun _ => 0)))), (q23, .inl (kI, 6, .inl (cI (fun _ => 0))))] := hD
  refine lv_aload_n hx hb dX0_init_28 rfl (lv_at hl 0 rfl) ?_
  refine lv_iconst (v := nI 0) hx hb dX0_init_29 (by decide) ?_
  refine va_put (D := (dC, dI)) (ci := 0) (v := .int (nI 0)) (ty := .int) (C := RX0) (T := TX0) (N := 4) hx hb hts (tb_c tbX0) tyX0 tyX0_ok nmX0 hown hK hP hD hS 0 rfl rfl 3 (by decide) (hw _ tw_81) (fun _ h9 => h9) rfl (by decide +kernel) rfl rfl (Nat.le_of_ble_eq_true rfl) dX0_init_30 (fun H locs hP hD hS => ?_)
  have hP : va_P (dC, dI) vwCl [(zv, .inr (0, [.ref q7, .ref q15, .ref q23, .int (nI 0)])), (q7, .inl (kI, 6, .inl (cI (fun _ => 0)))), (q15, .inl (kI, 6, .inl (cI (fun _ => 0)))), (q23, .inl (kI, 6, .inl (cI (fun _ => 0))))] H := hP
  have hD : va_D AA [(zv, .inr (0, [.ref q7, .ref q15, .ref q23, .int (nI 0)])), (q7, .inl (kI, 6, .inl (cI (fun _ => 0)))), (q15, .inl (kI, 6, .inl (cI (fun _ => 0)))), (q23, .inl (kI, 6, .inl (cI (fun _ => 0))))] := hD
  have hP9 := hP.sub (ws' := [(zv, .inr (0, [.ref q7, .ref q15, .ref q23, .int (nI 0)])), (q7, .inl (kI, 6, .inl (cI (fun _ => 0)))), (q15, .inl (kI, 6, .inl (cI (fun _ => 0)))), (q23, .inl (kI, 6, .inl (cI (fun _ => 0))))]) [0, 1, 2, 3] rfl
  have hD9 := hD.sub (ws' := [(zv, .inr (0, [.ref q7, .ref q15, .ref q23, .int (nI 0)])), (q7, .inl (kI, 6, .inl (cI (fun _ => 0)))), (q15, .inl (kI, 6, .inl (cI (fun _ => 0)))), (q23, .inl (kI, 6, .inl (cI (fun _ => 0))))]) [0, 1, 2, 3] (by decide) rfl
  exact W.vret hx hb hr (fun t ht hW => ⟨⟨(q7, q15, q23), rfl, trivial, by rw [ht]; exact hP9, hD9⟩, hS.F ht⟩) hS.2.2 dX0_init_33

set_option maxHeartbeats 4000000 in
set_option maxRecDepth 100000 in
theorem c_X2_init (l : Launch) (dC : Nat → ClassId) (dI : Nat → Nat → Nat) (kI kL : ClassId) (zc : Nat) (sz : Nat) : Met l yX2_init (.code yX2_init cX2_init 1 none :: tbw) { frames := 1, cells := 1, slots := 40, locals := 20 } (va_Pc [.ref zc] (cx_M (dC, dI) vwCl [(zc, .inr (2, [.null]))] [(kI, .int), (kL, .long)] sz)) (va_Qv (fun (u : Nat) => True) (cx_B (dC, dI) vwCl (va_A [(zc, .inr (2, [.null]))] sz) (fun u : Nat => [(zc, .inr (2, [.ref u])), (u, .inl (kI, 40, .inl (cI (fun _ => 0))))])) (va_A [(zc, .inr (2, [.null]))] sz)) 1 40 (va_A [(zc, .inr (2, [.null]))] sz) := by
  refine Met.ofW (cc := cX2_init) (maxL := 1) (ret := none) (by decide) rfl ?_
  intro p e s m args below meth c s₁ B hml hv
  obtain ⟨rfl, hsz, hP, hK, hD0⟩ := hv
  have hx := B.exec
  have hb := B.bytes
  have hr := B.returns
  have hts := atoms_spec (ws := .code yX2_init cX2_init 1 none :: tbw) B.pre
  have hw : ∀ w ∈ tbw, w.before _ s = true := fun w h => hts w (List.mem_cons_of_mem _ h)
  have hown : s.vm.findClass RX2 = some m.cls := findClass_of_methodNamed B.named
  have hin : meth.name = "<init>" := (name_of_methodNamed B.named B.method).1
  subst hsz
  have hD := hD0.self (sz := s.heap.size)
  generalize hAe : va_A [(zc, .inr (2, [.null]))] s.heap.size = AA at hD ⊢
  have hA : ∀ q : Nat, s.heap.size ≤ q → AA q := fun q h => by rw [← hAe]; exact Or.inr h
  have hS : va_S AA s.heap s.heap [] := va_S.rf
  have hP : va_P (dC, dI) vwCl [(zc, .inr (2, [.null]))] s.heap := hP
  have hl := lv_entry ([.ref zc]) (n := 1) (Nat.le_of_ble_eq_true rfl)
  rw [lg_entry_eq]
  generalize (lg_sl ([.ref zc]) ++ List.replicate (1 - (lg_sl ([.ref zc])).length) Slot.unset).toArray = ls at hl ⊢
  have hl : lv_has ls 1 [(0, .ref zc)] := hl
  refine lv_aload_n hx hb dX2_init_0 rfl (lv_at hl 0 rfl) ?_
  refine W.objInit hx hb hown (hw _ tw_97) (hw _ tw_16) (hw _ tw_17) rfl (by rw [hml]; exact hl.1) rfl dX2_init_1 (Nat.le_of_ble_eq_true rfl) (Nat.le_of_ble_eq_true rfl) ?_
  refine W.eq (g2 := F0 m 4 ls []) rfl ?_
  refine lv_aload_n hx hb dX2_init_4 rfl (lv_at hl 0 rfl) ?_
  refine lv_bipush (v := nI 40) hx hb dX2_init_5 (by decide) ?_
  refine va_newa (a0 := (40, .inl (cI (fun _ => 0)))) (N' := 40) hx hb (hw _ tw_46) rfl hK hP hD hS hA (fun _ => cx_zI) (by decide) (by decide) (by decide) (Nat.le_of_ble_eq_true rfl) (Nat.le_of_ble_eq_true rfl) dX2_init_7 (fun q7 c9 H hK9 hP hD hS => ?_)
  obtain rfl := cx_cAI hK9
  refine W.widen (k := 1) (n := 40) (Nat.le_of_ble_eq_true rfl) (Nat.le_of_ble_eq_true rfl) ?_
  have hP : va_P (dC, dI) vwCl [(zc, .inr (2, [.null])), (q7, .inl (kI, 40, .inl (cI (fun _ => 0))))] H := hP
  have hD : va_D AA [(zc, .inr (2, [.null])), (q7, .inl (kI, 40, .inl (cI (fun _ => 0))))] := hD
  refine va_putF (D := (dC, dI)) (ci := 2) (v := .ref q7) (ty := .array .int) (C := RX2) (T := TX2) (N := 1) hx hb hts (tb_c tbX2) tyX2 tyX2_ok nmX2 hown hK hP hD hS 0 rfl rfl 0 (by decide) (hw _ tw_98) (fun _ h9 => h9) rfl hin rfl (by decide +kernel) rfl rfl (Nat.le_of_ble_eq_true rfl) dX2_init_9 (fun H locs hP hD hS => ?_)
  have hP : va_P (dC, dI) vwCl [(zc, .inr (2, [.ref q7])), (q7, .inl (kI, 40, .inl (cI (fun _ => 0))))] H := hP
  have hD : va_D AA [(zc, .inr (2, [.ref q7])), (q7, .inl (kI, 40, .inl (cI (fun _ => 0))))] := hD
  have hP9 := hP.sub (ws' := [(zc, .inr (2, [.ref q7])), (q7, .inl (kI, 40, .inl (cI (fun _ => 0))))]) [0, 1] rfl
  have hD9 := hD.sub (ws' := [(zc, .inr (2, [.ref q7])), (q7, .inl (kI, 40, .inl (cI (fun _ => 0))))]) [0, 1] (by decide) rfl
  exact W.vret hx hb hr (fun t ht hW => ⟨⟨q7, rfl, trivial, by rw [ht]; exact hP9, hD9⟩, hS.F ht⟩) hS.2.2 dX2_init_12

set_option maxHeartbeats 4000000 in
set_option maxRecDepth 100000 in
theorem c_X4_init (l : Launch) (dC : Nat → ClassId) (dI : Nat → Nat → Nat) (kI kL : ClassId) (zw : Nat) (sz : Nat) : Met l yX4_init (.code yX4_init cX4_init 1 none :: tbw) { frames := 1, cells := 1, slots := 40, locals := 20 } (va_Pc [.ref zw] (cx_M (dC, dI) vwCl [(zw, .inr (4, [.null]))] [(kI, .int), (kL, .long)] sz)) (va_Qv (fun (u : Nat) => True) (cx_B (dC, dI) vwCl (va_A [(zw, .inr (4, [.null]))] sz) (fun u : Nat => [(zw, .inr (4, [.ref u])), (u, .inl (kL, 40, .inr (.inl (cL (fun _ => 0)))))])) (va_A [(zw, .inr (4, [.null]))] sz)) 1 40 (va_A [(zw, .inr (4, [.null]))] sz) := by
  refine Met.ofW (cc := cX4_init) (maxL := 1) (ret := none) (by decide) rfl ?_
  intro p e s m args below meth c s₁ B hml hv
  obtain ⟨rfl, hsz, hP, hK, hD0⟩ := hv
  have hx := B.exec
  have hb := B.bytes
  have hr := B.returns
  have hts := atoms_spec (ws := .code yX4_init cX4_init 1 none :: tbw) B.pre
  have hw : ∀ w ∈ tbw, w.before _ s = true := fun w h => hts w (List.mem_cons_of_mem _ h)
  have hown : s.vm.findClass RX4 = some m.cls := findClass_of_methodNamed B.named
  have hin : meth.name = "<init>" := (name_of_methodNamed B.named B.method).1
  subst hsz
  have hD := hD0.self (sz := s.heap.size)
  generalize hAe : va_A [(zw, .inr (4, [.null]))] s.heap.size = AA at hD ⊢
  have hA : ∀ q : Nat, s.heap.size ≤ q → AA q := fun q h => by rw [← hAe]; exact Or.inr h
  have hS : va_S AA s.heap s.heap [] := va_S.rf
  have hP : va_P (dC, dI) vwCl [(zw, .inr (4, [.null]))] s.heap := hP
  have hl := lv_entry ([.ref zw]) (n := 1) (Nat.le_of_ble_eq_true rfl)
  rw [lg_entry_eq]
  generalize (lg_sl ([.ref zw]) ++ List.replicate (1 - (lg_sl ([.ref zw])).length) Slot.unset).toArray = ls at hl ⊢
  have hl : lv_has ls 1 [(0, .ref zw)] := hl
  refine lv_aload_n hx hb dX4_init_0 rfl (lv_at hl 0 rfl) ?_
  refine W.objInit hx hb hown (hw _ tw_109) (hw _ tw_16) (hw _ tw_17) rfl (by rw [hml]; exact hl.1) rfl dX4_init_1 (Nat.le_of_ble_eq_true rfl) (Nat.le_of_ble_eq_true rfl) ?_
  refine W.eq (g2 := F0 m 4 ls []) rfl ?_
  refine lv_aload_n hx hb dX4_init_4 rfl (lv_at hl 0 rfl) ?_
  refine lv_bipush (v := nI 40) hx hb dX4_init_5 (by decide) ?_
  refine va_newa (a0 := (40, .inr (.inl (cL (fun _ => 0))))) (N' := 40) hx hb (hw _ tw_114) rfl hK hP hD hS hA (fun _ => cx_zL) (by decide) (by decide) (by decide) (Nat.le_of_ble_eq_true rfl) (Nat.le_of_ble_eq_true rfl) dX4_init_7 (fun q7 c9 H hK9 hP hD hS => ?_)
  obtain rfl := cx_cAL hK9
  refine W.widen (k := 1) (n := 40) (Nat.le_of_ble_eq_true rfl) (Nat.le_of_ble_eq_true rfl) ?_
  have hP : va_P (dC, dI) vwCl [(zw, .inr (4, [.null])), (q7, .inl (kL, 40, .inr (.inl (cL (fun _ => 0)))))] H := hP
  have hD : va_D AA [(zw, .inr (4, [.null])), (q7, .inl (kL, 40, .inr (.inl (cL (fun _ => 0)))))] := hD
  refine va_putF (D := (dC, dI)) (ci := 4) (v := .ref q7) (ty := .array .long) (C := RX4) (T := TX4) (N := 1) hx hb hts (tb_c tbX4) tyX4 tyX4_ok nmX4 hown hK hP hD hS 0 rfl rfl 0 (by decide) (hw _ tw_110) (fun _ h9 => h9) rfl hin rfl (by decide +kernel) rfl rfl (Nat.le_of_ble_eq_true rfl) dX4_init_9 (fun H locs hP hD hS => ?_)
  have hP : va_P (dC, dI) vwCl [(zw, .inr (4, [.ref q7])), (q7, .inl (kL, 40, .inr (.inl (cL (fun _ => 0)))))] H := hP
  have hD : va_D AA [(zw, .inr (4, [.ref q7])), (q7, .inl (kL, 40, .inr (.inl (cL (fun _ => 0)))))] := hD
  have hP9 := hP.sub (ws' := [(zw, .inr (4, [.ref q7])), (q7, .inl (kL, 40, .inr (.inl (cL (fun _ => 0)))))]) [0, 1] rfl
  have hD9 := hD.sub (ws' := [(zw, .inr (4, [.ref q7])), (q7, .inl (kL, 40, .inr (.inl (cL (fun _ => 0)))))]) [0, 1] (by decide) rfl
  exact W.vret hx hb hr (fun t ht hW => ⟨⟨q7, rfl, trivial, by rw [ht]; exact hP9, hD9⟩, hS.F ht⟩) hS.2.2 dX4_init_12

set_option maxHeartbeats 4000000 in
set_option maxRecDepth 100000 in
theorem c_X6_init (l : Launch) (dC : Nat → ClassId) (dI : Nat → Nat → Nat) (kI kL : ClassId) (ma : Nat) (sz : Nat) : Met l yX6_init (.code yX6_init cX6_init 1 none :: tbw) { frames := 1, cells := 12, slots := 298, locals := 20 } (va_Pc [.ref ma] (cx_M (dC, dI) vwCl [(ma, .inr (6, [.int (nI 0), .null, .null, .null, .int (nI 0), .null, .null, .int (nI 0), .null, .null, .int (nI 0), .null, .null, .null, .null, .null]))] [(kI, .int), (kL, .long)] sz)) (va_Qv (fun (u : Nat × Nat × Nat × Nat × Nat × Nat × Nat × Nat × Nat × Nat × Nat × Nat) => True) (cx_B (dC, dI) vwCl (va_A [(ma, .inr (6, [.int (nI 0), .null, .null, .null, .int (nI 0), .null, .null, .int (nI 0), .null, .null, .int (nI 0), .null, .null, .null, .null, .null]))] sz) (fun u : Nat × Nat × Nat × Nat × Nat × Nat × Nat × Nat × Nat × Nat × Nat × Nat => [(ma, .inr (6, [.int (nI 0), .ref u.1, .ref u.2.1, .ref u.2.2.1, .int (nI 0), .ref u.2.2.2.1, .ref u.2.2.2.2.1, .int (nI 0), .ref u.2.2.2.2.2.1, .ref u.2.2.2.2.2.2.1, .int (nI 0), .ref u.2.2.2.2.2.2.2.1, .ref u.2.2.2.2.2.2.2.2.1, .ref u.2.2.2.2.2.2.2.2.2.1, .ref u.2.2.2.2.2.2.2.2.2.2.1, .ref u.2.2.2.2.2.2.2.2.2.2.2])), (u.1, .inl (kI, 40, .inl (fun _ => 0))), (u.2.1, .inl (kI, 40, .inl (cA (fun _ => 1)))), (u.2.2.1, .inl (kI, 40, .inl (cA (fun _ => 1)))), (u.2.2.2.1, .inl (kI, 24, .inl (cI (fun _ => 0)))), (u.2.2.2.2.1, .inl (kI, 24, .inl (cI (fun _ => 0)))), (u.2.2.2.2.2.1, .inl (kI, 16, .inl (cI (fun _ => 0)))), (u.2.2.2.2.2.2.1, .inl (kI, 16, .inl (cI (fun _ => 0)))), (u.2.2.2.2.2.2.2.1, .inl (kI, 6, .inl (cI (fun _ => 0)))), (u.2.2.2.2.2.2.2.2.1, .inl (kI, 6, .inl (cI (fun _ => 0)))), (u.2.2.2.2.2.2.2.2.2.1, .inl (kI, 6, .inl (cI (fun _ => 0)))), (u.2.2.2.2.2.2.2.2.2.2.1, .inl (kI, 40, .inl (cI (fun _ => 0)))), (u.2.2.2.2.2.2.2.2.2.2.2, .inl (kL, 40, .inr (.inl (cL (fun _ => 0)))))])) (va_A [(ma, .inr (6, [.int (nI 0), .null, .null, .null, .int (nI 0), .null, .null, .int (nI 0), .null, .null, .int (nI 0), .null, .null, .null, .null, .null]))] sz)) 12 298 (va_A [(ma, .inr (6, [.int (nI 0), .null, .null, .null, .int (nI 0), .null, .null, .int (nI 0), .null, .null, .int (nI 0), .null, .null, .null, .null, .null]))] sz) := by
  refine Met.ofW (cc := cX6_init) (maxL := 1) (ret := none) (by decide) rfl ?_
  intro p e s m args below meth c s₁ B hml hv
  obtain ⟨rfl, hsz, hP, hK, hD0⟩ := hv
  have hx := B.exec
  have hb := B.bytes
  have hr := B.returns
  have hts := atoms_spec (ws := .code yX6_init cX6_init 1 none :: tbw) B.pre
  have hw : ∀ w ∈ tbw, w.before _ s = true := fun w h => hts w (List.mem_cons_of_mem _ h)
  have hown : s.vm.findClass RX6 = some m.cls := findClass_of_methodNamed B.named
  have hin : meth.name = "<init>" := (name_of_methodNamed B.named B.method).1
  subst hsz
  have hD := hD0.self (sz := s.heap.size)
  generalize hAe : va_A [(ma, .inr (6, [.int (nI 0), .null, .null, .null, .int (nI 0), .null, .null, .int (nI 0), .null, .null, .int (nI 0), .null, .null, .null, .null, .null]))] s.heap.size = AA at hD ⊢
  have hA : ∀ q : Nat, s.heap.size ≤ q → AA q := fun q h => by rw [← hAe]; exact Or.inr h
  have hS : va_S AA s.heap s.heap [] := va_S.rf
  have hP : va_P (dC, dI) vwCl [(ma, .inr (6, [.int (nI 0), .null, .null, .null, .int (nI 0), .null, .null, .int (nI 0), .null, .null, .int (nI 0), .null, .null, .null, .null, .null]))] s.heap := hP
  have hl := lv_entry ([.ref ma]) (n := 1) (Nat.le_of_ble_eq_true rfl)
  rw [lg_entry_eq]
  generalize (lg_sl ([.ref ma]) ++ List.replicate (1 - (lg_sl ([.ref ma])).length) Slot.unset).toArray = ls at hl ⊢
  have hl : lv_has ls 1 [(0, .ref ma)] := hl
  refine lv_aload_n hx hb dX6_init_0 rfl (lv_at hl 0 rfl) ?_
  refine W.objInit hx hb hown (hw _ tw_340) (hw _ tw_16) (hw _ tw_17) rfl (by rw [hml]; exact hl.1) rfl dX6_init_1 (Nat.le_of_ble_eq_true rfl) (Nat.le_of_ble_eq_true rfl) ?_
  refine W.eq (g2 := F0 m 4 ls []) rfl ?_
  refine lv_aload_n hx hb dX6_init_4 rfl (lv_at hl 0 rfl) ?_
  refine lv_bipush (v := nI 40) hx hb dX6_init_5 (by decide) ?_
  refine va_newa (a0 := (40, .inl (fun _ => 0))) (N' := 40) hx hb (hw _ tw_46) rfl hK hP hD hS hA (fun _ => cx_zR) (by decide) (by decide) (by decide) (Nat.le_of_ble_eq_true rfl) (Nat.le_of_ble_eq_true rfl) dX6_init_7 (fun q7 c9 H hK9 hP hD hS => ?_)
  obtain rfl := cx_cAI hK9
  refine W.widen (k := 1) (n := 40) (Nat.le_of_ble_eq_true rfl) (Nat.le_of_ble_eq_true rfl) ?_
  have hP : va_P (dC, dI) vwCl [(ma, .inr (6, [.int (nI 0), .null, .null, .null, .int (nI 0), .null, .null, .int (nI 0), .null, .null, .int (nI 0), .null, .null, .null, .null, .null])), (q7, .inl (kI, 40, .inl (fun _ => 0)))] H := hP
  have hD : va_D AA [(ma, .inr (6, [.int (nI 0), .null, .null, .null, .int (nI 0), .null, .null, .int (nI 0), .null, .null, .int (nI 0), .null, .null, .null, .null, .null])), (q7, .inl (kI, 40, .inl (fun _ => 0)))] := hD
  refine va_putF (D := (dC, dI)) (ci := 6) (v := .ref q7) (ty := .array .int) (C := RX6) (T := TX6) (N := 16) hx hb hts (tb_c tbX6) tyX6 tyX6_ok nmX6 hown hK hP hD hS 0 rfl rfl 1 (by decide) (hw _ tw_342) (fun _ h9 => h9) rfl hin rfl (by decide +kernel) rfl rfl (Nat.le_of_ble_eq_true rfl) dX6_init_9 (fun H locs hP hD hS => ?_)
  have hP : va_P (dC, dI) vwCl [(ma, .inr (6, [.int (nI 0), .ref q7, .null, .null, .int (nI 0), .null, .null, .int (nI 0), .null, .null, .int (nI 0), .null, .null, .null, .null, .null])), (q7, .inl (kI, 40, .inl (fun _ => 0)))] H := hP
  have hD : va_D AA [(ma, .inr (6, [.int (nI 0), .ref q7, .null, .null, .int (nI 0), .null, .null, .int (nI 0), .null, .null, .int (nI 0), .null, .null, .null, .null, .null])), (q7, .inl (kI, 40, .inl (fun _ => 0)))] := hD
  refine lv_aload_n hx hb dX6_init_12 rfl (lv_at hl 0 rfl) ?_
  refine lv_bipush (v := nI 40) hx hb dX6_init_13 (by decide) ?_
  refine va_newa (a0 := (40, .inl (cA (fun _ => 1)))) (N' := 40) hx hb (hw _ tw_46) rfl hK hP hD hS hA (fun _ => cx_zA) (by decide) (by decide) (by decide) (Nat.le_of_ble_eq_true rfl) (Nat.le_of_ble_eq_true rfl) dX6_init_15 (fun q15 c9 H hK9 hP hD hS => ?_)
  obtain rfl := cx_cAI hK9
  refine W.widen (k := 2) (n := 80) (Nat.le_of_ble_eq_true rfl) (Nat.le_of_ble_eq_true rfl) ?_
  have hP : va_P (dC, dI) vwCl [(ma, .inr (6, [.int (nI 0), .ref q7, .null, .null, .int (nI 0), .null, .null, .int (nI 0), .null, .null, .int (nI 0), .null, .null, .null, .null, .null])), (q7, .inl (kI, 40, .inl (fun _ => 0))), (q15, .inl (kI, 40, .inl (cA (fun _ => 1))))] H := hP
  have hD : va_D AA [(ma, .inr (6, [.int (nI 0), .ref q7, .null, .null, .int (nI 0), .null, .null, .int (nI 0), .null, .null, .int (nI 0), .null, .null, .null, .null, .null])), (q7, .inl (kI, 40, .inl (fun _ => 0))), (q15, .inl (kI, 40, .inl (cA (fun _ => 1))))] := hD
  refine va_putF (D := (dC, dI)) (ci := 6) (v := .ref q15) (ty := .array .int) (C := RX6) (T := TX6) (N := 16) hx hb hts (tb_c tbX6) tyX6 tyX6_ok nmX6 hown hK hP hD hS 0 rfl rfl 2 (by decide) (hw _ tw_343) (fun _ h9 => h9) rfl hin rfl (by decide +kernel) rfl rfl (Nat.le_of_ble_eq_true rfl) dX6_init_17 (fun H locs hP hD hS => ?_)
  have hP : va_P (dC, dI) vwCl [(ma, .inr (6, [.int (nI 0), .ref q7, .ref q15, .null, .int (nI 0), .null, .null, .int (nI 0), .null, .null, .int (nI 0), .null, .null, .null, .null, .null])), (q7, .inl (kI, 40, .inl (fun _ => 0))), (q15, .inl (kI, 40, .inl (cA (fun _ => 1))))] H := hP
  have hD : va_D AA [(ma, .inr (6, [.int (nI 0), .ref q7, .ref q15, .null, .int (nI 0), .null, .null, .int (nI 0), .null, .null, .int (nI 0), .null, .null, .null, .null, .null])), (q7, .inl (kI, 40, .inl (fun _ => 0))), (q15, .inl (kI, 40, .inl (cA (fun _ => 1))))] := hD
  refine lv_aload_n hx hb dX6_init_20 rfl (lv_at hl 0 rfl) ?_
  refine lv_bipush (v := nI 40) hx hb dX6_init_21 (by decide) ?_
  refine va_newa (a0 := (40, .inl (cA (fun _ => 1)))) (N' := 40) hx hb (hw _ tw_46) rfl hK hP hD hS hA (fun _ => cx_zA) (by decide) (by decide) (by decide) (Nat.le_of_ble_eq_true rfl) (Nat.le_of_ble_eq_true rfl) dX6_init_23 (fun q23 c9 H hK9 hP hD hS => ?_)
  obtain rfl := cx_cAI hK9
  refine W.widen (k := 3) (n := 120) (Nat.le_of_ble_eq_true rfl) (Nat.le_of_ble_eq_true rfl) ?_
  have hP : va_P (dC, dI) vwCl [(ma, .inr (6, [.int (nI 0), .ref q7, .ref q15, .null, .int (nI 0), .null, .null, .int (nI 0), .null, .null, .int (nI 0), .null, .null, .null, .null, .null])), (q7, .inl (kI, 40, .inl (fun _ => 0))), (q15, .inl (kI, 40, .inl (cA (fun _ => 1)))), (q23, .inl (kI, 40, .inl (cA (fun _ => 1))))] H := hP
  have hD : va_D AA [(ma, .inr (6, [.int (nI 0), .ref q7, .ref q15, .null, .int (nI 0), .null, .null, .int (nI 0), .null, .null, .int (nI 0), .null, .null, .null, .null, .null])), (q7, .inl (kI, 40, .inl (fun _ => 0))), (q15, .inl (kI, 40, .inl (cA (fun _ => 1)))), (q23, .inl (kI, 40, .inl (cA (fun _ => 1))))] := hD
  refine va_putF (D := (dC, dI)) (ci := 6) (v := .ref q23) (ty := .array .int) (C := RX6) (T := TX6) (N := 16) hx hb hts (tb_c tbX6) tyX6 tyX6_ok nmX6 hown hK hP hD hS 0 rfl rfl 3 (by decide) (hw _ tw_344) (fun _ h9 => h9) rfl hin rfl (by decide +kernel) rfl rfl (Nat.le_of_ble_eq_true rfl) dX6_init_25 (fun H locs hP hD hS => ?_)
  have hP : va_P (dC, dI) vwCl [(ma, .inr (6, [.int (nI 0), .ref q7, .ref q15, .ref q23, .int (nI 0), .null, .null, .int (nI 0), .null, .null, .int (nI 0), .null, .null, .null, .null, .null])), (q7, .inl (kI, 40, .inl (fun _ => 0))), (q15, .inl (kI, 40, .inl (cA (fun _ => 1)))), (q23, .inl (kI, 40, .inl (cA (fun _ => 1))))] H := hP
  have hD : va_D AA [(ma, .inr (6, [.int (nI 0), .ref q7, .ref q15, .ref q23, .int (nI 0), .null, .null, .int (nI 0), .null, .null, .int (nI 0), .null, .null, .null, .null, .null])), (q7, .inl (kI, 40, .inl (fun _ => 0))), (q15, .inl (kI, 40, .inl (cA (fun _ => 1)))), (q23, .inl (kI, 40, .inl (cA (fun _ => 1))))] := hD
  refine lv_aload_n hx hb dX6_init_28 rfl (lv_at hl 0 rfl) ?_
  refine lv_bipush (v := nI 24) hx hb dX6_init_29 (by decide) ?_
  refine va_newa (a0 := (24, .inl (cI (fun _ => 0)))) (N' := 24) hx hb (hw _ tw_46) rfl hK hP hD hS hA (fun _ => cx_zI) (by decide) (by decide) (by decide) (Nat.le_of_ble_eq_true rfl) (Nat.le_of_ble_eq_true rfl) dX6_init_31 (fun q31 c9 H hK9 hP hD hS => ?_)
  obtain rfl := cx_cAI hK9
  refine W.widen (k := 4) (n := 144) (Nat.le_of_ble_eq_true rfl) (Nat.le_of_ble_eq_true rfl) ?_
  have hP : va_P (dC, dI) vwCl [(ma, .inr (6, [.int (nI 0), .ref q7, .ref q15, .ref q23, .int (nI 0), .null, .null, .int (nI 0), .null, .null, .int (nI 0), .null, .null, .null, .null, .null])), (q7, .inl (kI, 40, .inl (fun _ => 0))), (q15, .inl (kI, 40, .inl (cA (fun _ => 1)))), (q23, .inl (kI, 40, .inl (cA (fun _ => 1)))), (q31, .inl (kI, 24, .inl (cI (fun _ => 0))))] H := hP
  have hD : va_D AA [(ma, .inr (6, [.int (nI 0), .ref q7, .ref q15, .ref q23, .int (nI 0), .null, .null, .int (nI 0), .null, .null, .int (nI 0), .null, .null, .null, .null, .null])), (q7, .inl (kI, 40, .inl (fun _ => 0))), (q15, .inl (kI, 40, .inl (cA (fun _ => 1)))), (q23, .inl (kI, 40, .inl (cA (fun _ => 1)))), (q31, .inl (kI, 24, .inl (cI (fun _ => 0))))] := hD
  refine va_putF (D := (dC, dI)) (ci := 6) (v := .ref q31) (ty := .array .int) (C := RX6) (T := TX6) (N := 16) hx hb hts (tb_c tbX6) tyX6 tyX6_ok nmX6 hown hK hP hD hS 0 rfl rfl 5 (by decide) (hw _ tw_346) (fun _ h9 => h9) rfl hin rfl (by decide +kernel) rfl rfl (Nat.le_of_ble_eq_true rfl) dX6_init_33 (fun H locs hP hD hS => ?_)
  have hP : va_P (dC, dI) vwCl [(ma, .inr (6, [.int (nI 0), .ref q7, .ref q15, .ref q23, .int (nI 0), .ref q31, .null, .int (nI 0), .null, .null, .int (nI 0), .null, .null, .null, .null, .null])), (q7, .inl (kI, 40, .inl (fun _ => 0))), (q15, .inl (kI, 40, .inl (cA (fun _ => 1)))), (q23, .inl (kI, 40, .inl (cA (fun _ => 1)))), (q31, .inl (kI, 24, .inl (cI (fun _ => 0))))] H := hP
  have hD : va_D AA [(ma, .inr (6, [.int (nI 0), .ref q7, .ref q15, .ref q23, .int (nI 0), .ref q31, .null, .int (nI 0), .null, .null, .int (nI 0), .null, .null, .null, .null, .null])), (q7, .inl (kI, 40, .inl (fun _ => 0))), (q15, .inl (kI, 40, .inl (cA (fun _ => 1)))), (q23, .inl (kI, 40, .inl (cA (fun _ => 1)))), (q31, .inl (kI, 24, .inl (cI (fun _ => 0))))] := hD
  refine lv_aload_n hx hb dX6_init_36 rfl (lv_at hl 0 rfl) ?_
  refine lv_bipush (v := nI 24) hx hb dX6_init_37 (by decide) ?_
  refine va_newa (a0 := (24, .inl (cI (fun _ => 0)))) (N' := 24) hx hb (hw _ tw_46) rfl hK hP hD hS hA (fun _ => cx_zI) (by decide) (by decide) (by decide) (Nat.le_of_ble_eq_true rfl) (Nat.le_of_ble_eq_true rfl) dX6_init_39 (fun q39 c9 H hK9 hP hD hS => ?_)
  obtain rfl := cx_cAI hK9
  refine W.widen (k := 5) (n := 168) (Nat.le_of_ble_eq_true rfl) (Nat.le_of_ble_eq_true rfl) ?_
  have hP : va_P (dC, dI) vwCl [(ma, .inr (6, [.int (nI 0), .ref q7, .ref q15, .ref q23, .int (nI 0), .ref q31, .null, .int (nI 0), .null, .null, .int (nI 0), .null, .null, .null, .null, .null])), (q7, .inl (kI, 40, .inl (fun _ => 0))), (q15, .inl (kI, 40, .inl (cA (fun _ => 1)))), (q23, .inl (kI, 40, .inl (cA (fun _ => 1)))), (q31, .inl (kI, 24, .inl (cI (fun _ => 0)))), (q39, .inl (kI, 24, .inl (cI (fun _ => 0))))] H := hP
  have hD : va_D AA [(ma, .inr (6, [.int (nI 0), .ref q7, .ref q15, .ref q23, .int (nI 0), .ref q31, .null, .int (nI 0), .null, .null, .int (nI 0), .null, .null, .null, .null, .null])), (q7, .inl (kI, 40, .inl (fun _ => 0))), (q15, .inl (kI, 40, .inl (cA (fun _ => 1)))), (q23, .inl (kI, 40, .inl (cA (fun _ => 1)))), (q31, .inl (kI, 24, .inl (cI (fun _ => 0)))), (q39, .inl (kI, 24, .inl (cI (fun _ => 0))))] := hD
  refine va_putF (D := (dC, dI)) (ci := 6) (v := .ref q39) (ty := .array .int) (C := RX6) (T := TX6) (N := 16) hx hb hts (tb_c tbX6) tyX6 tyX6_ok nmX6 hown hK hP hD hS 0 rfl rfl 6 (by decide) (hw _ tw_347) (fun _ h9 => h9) rfl hin rfl (by decide +kernel) rfl rfl (Nat.le_of_ble_eq_true rfl) dX6_init_41 (fun H locs hP hD hS => ?_)
  have hP : va_P (dC, dI) vwCl [(ma, .inr (6, [.int (nI 0), .ref q7, .ref q15, .ref q23, .int (nI 0), .ref q31, .ref q39, .int (nI 0), .null, .null, .int (nI 0), .null, .null, .null, .null, .null])), (q7, .inl (kI, 40, .inl (fun _ => 0))), (q15, .inl (kI, 40, .inl (cA (fun _ => 1)))), (q23, .inl (kI, 40, .inl (cA (fun _ => 1)))), (q31, .inl (kI, 24, .inl (cI (fun _ => 0)))), (q39, .inl (kI, 24, .inl (cI (fun _ => 0))))] H := hP
  have hD : va_D AA [(ma, .inr (6, [.int (nI 0), .ref q7, .ref q15, .ref q23, .int (nI 0), .ref q31, .ref q39, .int (nI 0), .null, .null, .int (nI 0), .null, .null, .null, .null, .null])), (q7, .inl (kI, 40, .inl (fun _ => 0))), (q15, .inl (kI, 40, .inl (cA (fun _ => 1)))), (q23, .inl (kI, 40, .inl (cA (fun _ => 1)))), (q31, .inl (kI, 24, .inl (cI (fun _ => 0)))), (q39, .inl (kI, 24, .inl (cI (fun _ => 0))))] := hD
  refine lv_aload_n hx hb dX6_init_44 rfl (lv_at hl 0 rfl) ?_
  refine lv_bipush (v := nI 16) hx hb dX6_init_45 (by decide) ?_
  refine va_newa (a0 := (16, .inl (cI (fun _ => 0)))) (N' := 16) hx hb (hw _ tw_46) rfl hK hP hD hS hA (fun _ => cx_zI) (by decide) (by decide) (by decide) (Nat.le_of_ble_eq_true rfl) (Nat.le_of_ble_eq_true rfl) dX6_init_47 (fun q47 c9 H hK9 hP hD hS => ?_)
  obtain rfl := cx_cAI hK9
  refine W.widen (k := 6) (n := 184) (Nat.le_of_ble_eq_true rfl) (Nat.le_of_ble_eq_true rfl) ?_
  have hP : va_P (dC, dI) vwCl [(ma, .inr (6, [.int (nI 0), .ref q7, .ref q15, .ref q23, .int (nI 0), .ref q31, .ref q39, .int (nI 0), .null, .null, .int (nI 0), .null, .null, .null, .null, .null])), (q7, .inl (kI, 40, .inl (fun _ => 0))), (q15, .inl (kI, 40, .inl (cA (fun _ => 1)))), (q23, .inl (kI, 40, .inl (cA (fun _ => 1)))), (q31, .inl (kI, 24, .inl (cI (fun _ => 0)))), (q39, .inl (kI, 24, .inl (cI (fun _ => 0)))), (q47, .inl (kI, 16, .inl (cI (fun _ => 0))))] H := hP
  have hD : va_D AA [(ma, .inr (6, [.int (nI 0), .ref q7, .ref q15, .ref q23, .int (nI 0), .ref q31, .ref q39, .int (nI 0), .null, .null, .int (nI 0), .null, .null, .null, .null, .null])), (q7, .inl (kI, 40, .inl (fun _ => 0))), (q15, .inl (kI, 40, .inl (cA (fun _ => 1)))), (q23, .inl (kI, 40, .inl (cA (fun _ => 1)))), (q31, .inl (kI, 24, .inl (cI (fun _ => 0)))), (q39, .inl (kI, 24, .inl (cI (fun _ => 0)))), (q47, .inl (kI, 16, .inl (cI (fun _ => 0))))] := hD
  refine va_putF (D := (dC, dI)) (ci := 6) (v := .ref q47) (ty := .array .int) (C := RX6) (T := TX6) (N := 16) hx hb hts (tb_c tbX6) tyX6 tyX6_ok nmX6 hown hK hP hD hS 0 rfl rfl 8 (by decide) (hw _ tw_349) (fun _ h9 => h9) rfl hin rfl (by decide +kernel) rfl rfl (Nat.le_of_ble_eq_true rfl) dX6_init_49 (fun H locs hP hD hS => ?_)
  have hP : va_P (dC, dI) vwCl [(ma, .inr (6, [.int (nI 0), .ref q7, .ref q15, .ref q23, .int (nI 0), .ref q31, .ref q39, .int (nI 0), .ref q47, .null, .int (nI 0), .null, .null, .null, .null, .null])), (q7, .inl (kI, 40, .inl (fun _ => 0))), (q15, .inl (kI, 40, .inl (cA (fun _ => 1)))), (q23, .inl (kI, 40, .inl (cA (fun _ => 1)))), (q31, .inl (kI, 24, .inl (cI (fun _ => 0)))), (q39, .inl (kI, 24, .inl (cI (fun _ => 0)))), (q47, .inl (kI, 16, .inl (cI (fun _ => 0))))] H := hP
  have hD : va_D AA [(ma, .inr (6, [.int (nI 0), .ref q7, .ref q15, .ref q23, .int (nI 0), .ref q31, .ref q39, .int (nI 0), .ref q47, .null, .int (nI 0), .null, .null, .null, .null, .null])), (q7, .inl (kI, 40, .inl (fun _ => 0))), (q15, .inl (kI, 40, .inl (cA (fun _ => 1)))), (q23, .inl (kI, 40, .inl (cA (fun _ => 1)))), (q31, .inl (kI, 24, .inl (cI (fun _ => 0)))), (q39, .inl (kI, 24, .inl (cI (fun _ => 0)))), (q47, .inl (kI, 16, .inl (cI (fun _ => 0))))] := hD
  refine lv_aload_n hx hb dX6_init_52 rfl (lv_at hl 0 rfl) ?_
  refine lv_bipush (v := nI 16) hx hb dX6_init_53 (by decide) ?_
  refine va_newa (a0 := (16, .inl (cI (fun _ => 0)))) (N' := 16) hx hb (hw _ tw_46) rfl hK hP hD hS hA (fun _ => cx_zI) (by decide) (by decide) (by decide) (Nat.le_of_ble_eq_true rfl) (Nat.le_of_ble_eq_true rfl) dX6_init_55 (fun q55 c9 H hK9 hP hD hS => ?_)
  obtain rfl := cx_cAI hK9
  refine W.widen (k := 7) (n := 200) (Nat.le_of_ble_eq_true rfl) (Nat.le_of_ble_eq_true rfl) ?_
  have hP : va_P (dC, dI) vwCl [(ma, .inr (6, [.int (nI 0), .ref q7, .ref q15, .ref q23, .int (nI 0), .ref q31, .ref q39, .int (nI 0), .ref q47, .null, .int (nI 0), .null, .null, .null, .null, .null])), (q7, .inl (kI, 40, .inl (fun _ => 0))), (q15, .inl (kI, 40, .inl (cA (fun _ => 1)))), (q23, .inl (kI, 40, .inl (cA (fun _ => 1)))), (q31, .inl (kI, 24, .inl (cI (fun _ => 0)))), (q39, .inl (kI, 24, .inl (cI (fun _ => 0)))), (q47, .inl (kI, 16, .inl (cI (fun _ => 0)))), (q55, .inl (kI, 16, .inl (cI (fun _ => 0))))] H := hP
  have hD : va_D AA [(ma, .inr (6, [.int (nI 0), .ref q7, .ref q15, .ref q23, .int (nI 0), .ref q31, .ref q39, .int (nI 0), .ref q47, .null, .int (nI 0), .null, .null, .null, .null, .null])), (q7, .inl (kI, 40, .inl (fun _ => 0))), (q15, .inl (kI, 40, .inl (cA (fun _ => 1)))), (q23, .inl (kI, 40, .inl (cA (fun _ => 1)))), (q31, .inl (kI, 24, .inl (cI (fun _ => 0)))), (q39, .inl (kI, 24, .inl (cI (fun _ => 0)))), (q47, .inl (kI, 16, .inl (cI (fun _ => 0)))), (q55, .inl (kI, 16, .inl (cI (fun _ => 0))))] := hD
  refine va_putF (D := (dC, dI)) (ci := 6) (v := .ref q55) (ty := .array .int) (C := RX6) (T := TX6) (N := 16) hx hb hts (tb_c tbX6) tyX6 tyX6_ok nmX6 hown hK hP hD hS 0 rfl rfl 9 (by decide) (hw _ tw_350) (fun _ h9 => h9) rfl hin rfl (by decide +kernel) rfl rfl (Nat.le_of_ble_eq_true rfl) dX6_init_57 (fun H locs hP hD hS => ?_)
  have hP : va_P (dC, dI) vwCl [(ma, .inr (6, [.int (nI 0), .ref q7, .ref q15, .ref q23, .int (nI 0), .ref q31, .ref q39, .int (nI 0), .ref q47, .ref q55, .int (nI 0), .null, .null, .null, .null, .null])), (q7, .inl (kI, 40, .inl (fun _ => 0))), (q15, .inl (kI, 40, .inl (cA (fun _ => 1)))), (q23, .inl (kI, 40, .inl (cA (fun _ => 1)))), (q31, .inl (kI, 24, .inl (cI (fun _ => 0)))), (q39, .inl (kI, 24, .inl (cI (fun _ => 0)))), (q47, .inl (kI, 16, .inl (cI (fun _ => 0)))), (q55, .inl (kI, 16, .inl (cI (fun _ => 0))))] H := hP
  have hD : va_D AA [(ma, .inr (6, [.int (nI 0), .ref q7, .ref q15, .ref q23, .int (nI 0), .ref q31, .ref q39, .int (nI 0), .ref q47, .ref q55, .int (nI 0), .null, .null, .null, .null, .null])), (q7, .inl (kI, 40, .inl (fun _ => 0))), (q15, .inl (kI, 40, .inl (cA (fun _ => 1)))), (q23, .inl (kI, 40, .inl (cA (fun _ => 1)))), (q31, .inl (kI, 24, .inl (cI (fun _ => 0)))), (q39, .inl (kI, 24, .inl (cI (fun _ => 0)))), (q47, .inl (kI, 16, .inl (cI (fun _ => 0)))), (q55, .inl (kI, 16, .inl (cI (fun _ => 0))))] := hD
  refine lv_aload_n hx hb dX6_init_60 rfl (lv_at hl 0 rfl) ?_
  refine lv_bipush (v := nI 6) hx hb dX6_init_61 (by decide) ?_
  refine va_newa (a0 := (6, .inl (cI (fun _ => 0)))) (N' := 6) hx hb (hw _ tw_46) rfl hK hP hD hS hA (fun _ => cx_zI) (by decide) (by decide) (by decide) (Nat.le_of_ble_eq_true rfl) (Nat.le_of_ble_eq_true rfl) dX6_init_63 (fun q63 c9 H hK9 hP hD hS => ?_)
  obtain rfl := cx_cAI hK9
  refine W.widen (k := 8) (n := 206) (Nat.le_of_ble_eq_true rfl) (Nat.le_of_ble_eq_true rfl) ?_
  have hP : va_P (dC, dI) vwCl [(ma, .inr (6, [.int (nI 0), .ref q7, .ref q15, .ref q23, .int (nI 0), .ref q31, .ref q39, .int (nI 0), .ref q47, .ref q55, .int (nI 0), .null, .null, .null, .null, .null])), (q7, .inl (kI, 40, .inl (fun _ => 0))), (q15, .inl (kI, 40, .inl (cA (fun _ => 1)))), (q23, .inl (kI, 40, .inl (cA (fun _ => 1)))), (q31, .inl (kI, 24, .inl (cI (fun _ => 0)))), (q39, .inl (kI, 24, .inl (cI (fun _ => 0)))), (q47, .inl (kI, 16, .inl (cI (fun _ => 0)))), (q55, .inl (kI, 16, .inl (cI (fun _ => 0)))), (q63, .inl (kI, 6, .inl (cI (fun _ => 0))))] H := hP
  have hD : va_D AA [(ma, .inr (6, [.int (nI 0), .ref q7, .ref q15, .ref q23, .int (nI 0), .ref q31, .ref q39, .int (nI 0), .ref q47, .ref q55, .int (nI 0), .null, .null, .null, .null, .null])), (q7, .inl (kI, 40, .inl (fun _ => 0))), (q15, .inl (kI, 40, .inl (cA (fun _ => 1)))), (q23, .inl (kI, 40, .inl (cA (fun _ => 1)))), (q31, .inl (kI, 24, .inl (cI (fun _ => 0)))), (q39, .inl (kI, 24, .inl (cI (fun _ => 0)))), (q47, .inl (kI, 16, .inl (cI (fun _ => 0)))), (q55, .inl (kI, 16, .inl (cI (fun _ => 0)))), (q63, .inl (kI, 6, .inl (cI (fun _ => 0))))] := hD
  refine va_putF (D := (dC, dI)) (ci := 6) (v := .ref q63) (ty := .array .int) (C := RX6) (T := TX6) (N := 16) hx hb hts (tb_c tbX6) tyX6 tyX6_ok nmX6 hown hK hP hD hS 0 rfl rfl 11 (by decide) (hw _ tw_352) (fun _ h9 => h9) rfl hin rfl (by decide +kernel) rfl rfl (Nat.le_of_ble_eq_true rfl) dX6_init_65 (fun H locs hP hD hS => ?_)
  have hP : va_P (dC, dI) vwCl [(ma, .inr (6, [.int (nI 0), .ref q7, .ref q15, .ref q23, .int (nI 0), .ref q31, .ref q39, .int (nI 0), .ref q47, .ref q55, .int (nI 0), .ref q63, .null, .null, .null, .null])), (q7, .inl (kI, 40, .inl (fun _ => 0))), (q15, .inl (kI, 40, .inl (cA (fun _ => 1)))), (q23, .inl (kI, 40, .inl (cA (fun _ => 1)))), (q31, .inl (kI, 24, .inl (cI (fun _ => 0)))), (q39, .inl (kI, 24, .inl (cI (fun _ => 0)))), (q47, .inl (kI, 16, .inl (cI (fun _ => 0)))), (q55, .inl (kI, 16, .inl (cI (fun _ => 0)))), (q63, .inl (kI, 6, .inl (cI (fun _ => 0))))] H := hP
  have hD : va_D AA [(ma, .inr (6, [.int (nI 0), .ref q7, .ref q15, .ref q23, .int (nI 0), .ref q31, .ref q39, .int (nI 0), .ref q47, .ref q55, .int (nI 0), .ref q63, .null, .null, .null, .null])), (q7, .inl (kI, 40, .inl (fun _ => 0))), (q15, .inl (kI, 40, .inl (cA (fun _ => 1)))), (q23, .inl (kI, 40, .inl (cA (fun _ => 1)))), (q31, .inl (kI, 24, .inl (cI (fun _ => 0)))), (q39, .inl (kI, 24, .inl (cI (fun _ => 0)))), (q47, .inl (kI, 16, .inl (cI (fun _ => 0)))), (q55, .inl (kI, 16, .inl (cI (fun _ => 0)))), (q63, .inl (kI, 6, .inl (cI (fun _ => 0))))] := hD
  refine lv_aload_n hx hb dX6_init_68 rfl (lv_at hl 0 rfl) ?_
  refine lv_bipush (v := nI 6) hx hb dX6_init_69 (by decide) ?_
  refine va_newa (a0 := (6, .inl (cI (fun _ => 0)))) (N' := 6) hx hb (hw _ tw_46) rfl hK hP hD hS hA (fun _ => cx_zI) (by decide) (by decide) (by decide) (Nat.le_of_ble_eq_true rfl) (Nat.le_of_ble_eq_true rfl) dX6_init_71 (fun q71 c9 H hK9 hP hD hS => ?_)
  obtain rfl := cx_cAI hK9
  refine W.widen (k := 9) (n := 212) (Nat.le_of_ble_eq_true rfl) (Nat.le_of_ble_eq_true rfl) ?_
  have hP : va_P (dC, dI) vwCl [(ma, .inr (6, [.int (nI 0), .ref q7, .ref q15, .ref q23, .int (nI 0), .ref q31, .ref q39, .int (nI 0), .ref q47, .ref q55, .int (nI 0), .ref q63, .null, .null, .null, .null])), (q7, .inl (kI, 40, .inl (fun _ => 0))), (q15, .inl (kI, 40, .inl (cA (fun _ => 1)))), (q23, .inl (kI, 40, .inl (cA (fun _ => 1)))), (q31, .inl (kI, 24, .inl (cI (fun _ => 0)))), (q39, .inl (kI, 24, .inl (cI (fun _ => 0)))), (q47, .inl (kI, 16, .inl (cI (fun _ => 0)))), (q55, .inl (kI, 16, .inl (cI (fun _ => 0)))), (q63, .inl (kI, 6, .inl (cI (fun _ => 0)))), (q71, .inl (kI, 6, .inl (cI (fun _ => 0))))] H := hP
  have hD : va_D AA [(ma, .inr (6, [.int (nI 0), .ref q7, .ref q15, .ref q23, .int (nI 0), .ref q31, .ref q39, .int (nI 0), .ref q47, .ref q55, .int (nI 0), .ref q63, .null, .null, .null, .null])), (q7, .inl (kI, 40, .inl (fun _ => 0))), (q15, .inl (kI, 40, .inl (cA (fun _ => 1)))), (q23, .inl (kI, 40, .inl (cA (fun _ => 1)))), (q31, .inl (kI, 24, .inl (cI (fun _ => 0)))), (q39, .inl (kI, 24, .inl (cI (fun _ => 0)))), (q47, .inl (kI, 16, .inl (cI (fun _ => 0)))), (q55, .inl (kI, 16, .inl (cI (fun _ => 0)))), (q63, .inl (kI, 6, .inl (cI (fun _ => 0)))), (q71, .inl (kI, 6, .inl (cI (fun _ => 0))))] := hD
  refine va_putF (D := (dC, dI)) (ci := 6) (v := .ref q71) (ty := .array .int) (C := RX6) (T := TX6) (N := 16) hx hb hts (tb_c tbX6) tyX6 tyX6_ok nmX6 hown hK hP hD hS 0 rfl rfl 12 (by decide) (hw _ tw_353) (fun _ h9 => h9) rfl hin rfl (by decide +kernel) rfl rfl (Nat.le_of_ble_eq_true rfl) dX6_init_73 (fun H locs hP hD hS => ?_)
  have hP : va_P (dC, dI) vwCl [(ma, .inr (6, [.int (nI 0), .ref q7, .ref q15, .ref q23, .int (nI 0), .ref q31, .ref q39, .int (nI 0), .ref q47, .ref q55, .int (nI 0), .ref q63, .ref q71, .null, .null, .null])), (q7, .inl (kI, 40, .inl (fun _ => 0))), (q15, .inl (kI, 40, .inl (cA (fun _ => 1)))), (q23, .inl (kI, 40, .inl (cA (fun _ => 1)))), (q31, .inl (kI, 24, .inl (cI (fun _ => 0)))), (q39, .inl (kI, 24, .inl (cI (fun _ => 0)))), (q47, .inl (kI, 16, .inl (cI (fun _ => 0)))), (q55, .inl (kI, 16, .inl (cI (fun _ => 0)))), (q63, .inl (kI, 6, .inl (cI (fun _ => 0)))), (q71, .inl (kI, 6, .inl (cI (fun _ => 0))))] H := hP
  have hD : va_D AA [(ma, .inr (6, [.int (nI 0), .ref q7, .ref q15, .ref q23, .int (nI 0), .ref q31, .ref q39, .int (nI 0), .ref q47, .ref q55, .int (nI 0), .ref q63, .ref q71, .null, .null, .null])), (q7, .inl (kI, 40, .inl (fun _ => 0))), (q15, .inl (kI, 40, .inl (cA (fun _ => 1)))), (q23, .inl (kI, 40, .inl (cA (fun _ => 1)))), (q31, .inl (kI, 24, .inl (cI (fun _ => 0)))), (q39, .inl (kI, 24, .inl (cI (fun _ => 0)))), (q47, .inl (kI, 16, .inl (cI (fun _ => 0)))), (q55, .inl (kI, 16, .inl (cI (fun _ => 0)))), (q63, .inl (kI, 6, .inl (cI (fun _ => 0)))), (q71, .inl (kI, 6, .inl (cI (fun _ => 0))))] := hD
  refine lv_aload_n hx hb dX6_init_76 rfl (lv_at hl 0 rfl) ?_
  refine lv_bipush (v := nI 6) hx hb dX6_init_77 (by decide) ?_
  refine va_newa (a0 := (6, .inl (cI (fun _ => 0)))) (N' := 6) hx hb (hw _ tw_46) rfl hK hP hD hS hA (fun _ => cx_zI) (by decide) (by decide) (by decide) (Nat.le_of_ble_eq_true rfl) (Nat.le_of_ble_eq_true rfl) dX6_init_79 (fun q79 c9 H hK9 hP hD hS => ?_)
  obtain rfl := cx_cAI hK9
  refine W.widen (k := 10) (n := 218) (Nat.le_of_ble_eq_true rfl) (Nat.le_of_ble_eq_true rfl) ?_
  have hP : va_P (dC, dI) vwCl [(ma, .inr (6, [.int (nI 0), .ref q7, .ref q15, .ref q23, .int (nI 0), .ref q31, .ref q39, .int (nI 0), .ref q47, .ref q55, .int (nI 0), .ref q63, .ref q71, .null, .null, .null])), (q7, .inl (kI, 40, .inl (fun _ => 0))), (q15, .inl (kI, 40, .inl (cA (fun _ => 1)))), (q23, .inl (kI, 40, .inl (cA (fun _ => 1)))), (q31, .inl (kI, 24, .inl (cI (fun _ => 0)))), (q39, .inl (kI, 24, .inl (cI (fun _ => 0)))), (q47, .inl (kI, 16, .inl (cI (fun _ => 0)))), (q55, .inl (kI, 16, .inl (cI (fun _ => 0)))), (q63, .inl (kI, 6, .inl (cI (fun _ => 0)))), (q71, .inl (kI, 6, .inl (cI (fun _ => 0)))), (q79, .inl (kI, 6, .inl (cI (fun _ => 0))))] H := hP
  have hD : va_D AA [(ma, .inr (6, [.int (nI 0), .ref q7, .ref q15, .ref q23, .int (nI 0), .ref q31, .ref q39, .int (nI 0), .ref q47, .ref q55, .int (nI 0), .ref q63, .ref q71, .null, .null, .null])), (q7, .inl (kI, 40, .inl (fun _ => 0))), (q15, .inl (kI, 40, .inl (cA (fun _ => 1)))), (q23, .inl (kI, 40, .inl (cA (fun _ => 1)))), (q31, .inl (kI, 24, .inl (cI (fun _ => 0)))), (q39, .inl (kI, 24, .inl (cI (fun _ => 0)))), (q47, .inl (kI, 16, .inl (cI (fun _ => 0)))), (q55, .inl (kI, 16, .inl (cI (fun _ => 0)))), (q63, .inl (kI, 6, .inl (cI (fun _ => 0)))), (q71, .inl (kI, 6, .inl (cI (fun _ => 0)))), (q79, .inl (kI, 6, .inl (cI (fun _ => 0))))] := hD
  refine va_putF (D := (dC, dI)) (ci := 6) (v := .ref q79) (ty := .array .int) (C := RX6) (T := TX6) (N := 16) hx hb hts (tb_c tbX6) tyX6 tyX6_ok nmX6 hown hK hP hD hS 0 rfl rfl 13 (by decide) (hw _ tw_354) (fun _ h9 => h9) rfl hin rfl (by decide +kernel) rfl rfl (Nat.le_of_ble_eq_true rfl) dX6_init_81 (fun H locs hP hD hS => ?_)
  have hP : va_P (dC, dI) vwCl [(ma, .inr (6, [.int (nI 0), .ref q7, .ref q15, .ref q23, .int (nI 0), .ref q31, .ref q39, .int (nI 0), .ref q47, .ref q55, .int (nI 0), .ref q63, .ref q71, .ref q79, .null, .null])), (q7, .inl (kI, 40, .inl (fun _ => 0))), (q15, .inl (kI, 40, .inl (cA (fun _ => 1)))), (q23, .inl (kI, 40, .inl (cA (fun _ => 1)))), (q31, .inl (kI, 24, .inl (cI (fun _ => 0)))), (q39, .inl (kI, 24, .inl (cI (fun _ => 0)))), (q47, .inl (kI, 16, .inl (cI (fun _ => 0)))), (q55, .inl (kI, 16, .inl (cI (fun _ => 0)))), (q63, .inl (kI, 6, .inl (cI (fun _ => 0)))), (q71, .inl (kI, 6, .inl (cI (fun _ => 0)))), (q79, .inl (kI, 6, .inl (cI (fun _ => 0))))] H := hP
  have hD : va_D AA [(ma, .inr (6, [.int (nI 0), .ref q7, .ref q15, .ref q23, .int (nI 0), .ref q31, .ref q39, .int (nI 0), .ref q47, .ref q55, .int (nI 0), .ref q63, .ref q71, .ref q79, .null, .null])), (q7, .inl (kI, 40, .inl (fun _ => 0))), (q15, .inl (kI, 40, .inl (cA (fun _ => 1)))), (q23, .inl (kI, 40, .inl (cA (fun _ => 1)))), (q31, .inl (kI, 24, .inl (cI (fun _ => 0)))), (q39, .inl (kI, 24, .inl (cI (fun _ => 0)))), (q47, .inl (kI, 16, .inl (cI (fun _ => 0)))), (q55, .inl (kI, 16, .inl (cI (fun _ => 0)))), (q63, .inl (kI, 6, .inl (cI (fun _ => 0)))), (q71, .inl (kI, 6, .inl (cI (fun _ => 0)))), (q79, .inl (kI, 6, .inl (cI (fun _ => 0))))] := hD
  refine lv_aload_n hx hb dX6_init_84 rfl (lv_at hl 0 rfl) ?_
  refine lv_bipush (v := nI 40) hx hb dX6_init_85 (by decide) ?_
  refine va_newa (a0 := (40, .inl (cI (fun _ => 0)))) (N' := 40) hx hb (hw _ tw_46) rfl hK hP hD hS hA (fun _ => cx_zI) (by decide) (by decide) (by decide) (Nat.le_of_ble_eq_true rfl) (Nat.le_of_ble_eq_true rfl) dX6_init_87 (fun q87 c9 H hK9 hP hD hS => ?_)
  obtain rfl := cx_cAI hK9
  refine W.widen (k := 11) (n := 258) (Nat.le_of_ble_eq_true rfl) (Nat.le_of_ble_eq_true rfl) ?_
  have hP : va_P (dC, dI) vwCl [(ma, .inr (6, [.int (nI 0), .ref q7, .ref q15, .ref q23, .int (nI 0), .ref q31, .ref q39, .int (nI 0), .ref q47, .ref q55, .int (nI 0), .ref q63, .ref q71, .ref q79, .null, .null])), (q7, .inl (kI, 40, .inl (fun _ => 0))), (q15, .inl (kI, 40, .inl (cA (fun _ => 1)))), (q23, .inl (kI, 40, .inl (cA (fun _ => 1)))), (q31, .inl (kI, 24, .inl (cI (fun _ => 0)))), (q39, .inl (kI, 24, .inl (cI (fun _ => 0)))), (q47, .inl (kI, 16, .inl (cI (fun _ => 0)))), (q55, .inl (kI, 16, .inl (cI (fun _ => 0)))), (q63, .inl (kI, 6, .inl (cI (fun _ => 0)))), (q71, .inl (kI, 6, .inl (cI (fun _ => 0)))), (q79, .inl (kI, 6, .inl (cI (fun _ => 0)))), (q87, .inl (kI, 40, .inl (cI (fun _ => 0))))] H := hP
  have hD : va_D AA [(ma, .inr (6, [.int (nI 0), .ref q7, .ref q15, .ref q23, .int (nI 0), .ref q31, .ref q39, .int (nI 0), .ref q47, .ref q55, .int (nI 0), .ref q63, .ref q71, .ref q79, .null, .null])), (q7, .inl (kI, 40, .inl (fun _ => 0))), (q15, .inl (kI, 40, .inl (cA (fun _ => 1)))), (q23, .inl (kI, 40, .inl (cA (fun _ => 1)))), (q31, .inl (kI, 24, .inl (cI (fun _ => 0)))), (q39, .inl (kI, 24, .inl (cI (fun _ => 0)))), (q47, .inl (kI, 16, .inl (cI (fun _ => 0)))), (q55, .inl (kI, 16, .inl (cI (fun _ => 0)))), (q63, .inl (kI, 6, .inl (cI (fun _ => 0)))), (q71, .inl (kI, 6, .inl (cI (fun _ => 0)))), (q79, .inl (kI, 6, .inl (cI (fun _ => 0)))), (q87, .inl (kI, 40, .inl (cI (fun _ => 0))))] := hD
  refine va_putF (D := (dC, dI)) (ci := 6) (v := .ref q87) (ty := .array .int) (C := RX6) (T := TX6) (N := 16) hx hb hts (tb_c tbX6) tyX6 tyX6_ok nmX6 hown hK hP hD hS 0 rfl rfl 14 (by decide) (hw _ tw_355) (fun _ h9 => h9) rfl hin rfl (by decide +kernel) rfl rfl (Nat.le_of_ble_eq_true rfl) dX6_init_89 (fun H locs hP hD hS => ?_)
  have hP : va_P (dC, dI) vwCl [(ma, .inr (6, [.int (nI 0), .ref q7, .ref q15, .ref q23, .int (nI 0), .ref q31, .ref q39, .int (nI 0), .ref q47, .ref q55, .int (nI 0), .ref q63, .ref q71, .ref q79, .ref q87, .null])), (q7, .inl (kI, 40, .inl (fun _ => 0))), (q15, .inl (kI, 40, .inl (cA (fun _ => 1)))), (q23, .inl (kI, 40, .inl (cA (fun _ => 1)))), (q31, .inl (kI, 24, .inl (cI (fun _ => 0)))), (q39, .inl (kI, 24, .inl (cI (fun _ => 0)))), (q47, .inl (kI, 16, .inl (cI (fun _ => 0)))), (q55, .inl (kI, 16, .inl (cI (fun _ => 0)))), (q63, .inl (kI, 6, .inl (cI (fun _ => 0)))), (q71, .inl (kI, 6, .inl (cI (fun _ => 0)))), (q79, .inl (kI, 6, .inl (cI (fun _ => 0)))), (q87, .inl (kI, 40, .inl (cI (fun _ => 0))))] H := hP
  have hD : va_D AA [(ma, .inr (6, [.int (nI 0), .ref q7, .ref q15, .ref q23, .int (nI 0), .ref q31, .ref q39, .int (nI 0), .ref q47, .ref q55, .int (nI 0), .ref q63, .ref q71, .ref q79, .ref q87, .null])), (q7, .inl (kI, 40, .inl (fun _ => 0))), (q15, .inl (kI, 40, .inl (cA (fun _ => 1)))), (q23, .inl (kI, 40, .inl (cA (fun _ => 1)))), (q31, .inl (kI, 24, .inl (cI (fun _ => 0)))), (q39, .inl (kI, 24, .inl (cI (fun _ => 0)))), (q47, .inl (kI, 16, .inl (cI (fun _ => 0)))), (q55, .inl (kI, 16, .inl (cI (fun _ => 0)))), (q63, .inl (kI, 6, .inl (cI (fun _ => 0)))), (q71, .inl (kI, 6, .inl (cI (fun _ => 0)))), (q79, .inl (kI, 6, .inl (cI (fun _ => 0)))), (q87, .inl (kI, 40, .inl (cI (fun _ => 0))))] := hD
  refine lv_aload_n hx hb dX6_init_92 rfl (lv_at hl 0 rfl) ?_
  refine lv_bipush (v := nI 40) hx hb dX6_init_93 (by decide) ?_
  refine va_newa (a0 := (40, .inr (.inl (cL (fun _ => 0))))) (N' := 40) hx hb (hw _ tw_114) rfl hK hP hD hS hA (fun _ => cx_zL) (by decide) (by decide) (by decide) (Nat.le_of_ble_eq_true rfl) (Nat.le_of_ble_eq_true rfl) dX6_init_95 (fun q95 c9 H hK9 hP hD hS => ?_)
  obtain rfl := cx_cAL hK9
  refine W.widen (k := 12) (n := 298) (Nat.le_of_ble_eq_true rfl) (Nat.le_of_ble_eq_true rfl) ?_
  have hP : va_P (dC, dI) vwCl [(ma, .inr (6, [.int (nI 0), .ref q7, .ref q15, .ref q23, .int (nI 0), .ref q31, .ref q39, .int (nI 0), .ref q47, .ref q55, .int (nI 0), .ref q63, .ref q71, .ref q79, .ref q87, .null])), (q7, .inl (kI, 40, .inl (fun _ => 0))), (q15, .inl (kI, 40, .inl (cA (fun _ => 1)))), (q23, .inl (kI, 40, .inl (cA (fun _ => 1)))), (q31, .inl (kI, 24, .inl (cI (fun _ => 0)))), (q39, .inl (kI, 24, .inl (cI (fun _ => 0)))), (q47, .inl (kI, 16, .inl (cI (fun _ => 0)))), (q55, .inl (kI, 16, .inl (cI (fun _ => 0)))), (q63, .inl (kI, 6, .inl (cI (fun _ => 0)))), (q71, .inl (kI, 6, .inl (cI (fun _ => 0)))), (q79, .inl (kI, 6, .inl (cI (fun _ => 0)))), (q87, .inl (kI, 40, .inl (cI (fun _ => 0)))), (q95, .inl (kL, 40, .inr (.inl (cL (fun _ => 0)))))] H := hP
  have hD : va_D AA [(ma, .inr (6, [.int (nI 0), .ref q7, .ref q15, .ref q23, .int (nI 0), .ref q31, .ref q39, .int (nI 0), .ref q47, .ref q55, .int (nI 0), .ref q63, .ref q71, .ref q79, .ref q87, .null])), (q7, .inl (kI, 40, .inl (fun _ => 0))), (q15, .inl (kI, 40, .inl (cA (fun _ => 1)))), (q23, .inl (kI, 40, .inl (cA (fun _ => 1)))), (q31, .inl (kI, 24, .inl (cI (fun _ => 0)))), (q39, .inl (kI, 24, .inl (cI (fun _ => 0)))), (q47, .inl (kI, 16, .inl (cI (fun _ => 0)))), (q55, .inl (kI, 16, .inl (cI (fun _ => 0)))), (q63, .inl (kI, 6, .inl (cI (fun _ => 0)))), (q71, .inl (kI, 6, .inl (cI (fun _ => 0)))), (q79, .inl (kI, 6, .inl (cI (fun _ => 0)))), (q87, .inl (kI, 40, .inl (cI (fun _ => 0)))), (q95, .inl (kL, 40, .inr (.inl (cL (fun _ => 0)))))] := hD
  refine va_putF (D := (dC, dI)) (ci := 6) (v := .ref q95) (ty := .array .long) (C := RX6) (T := TX6) (N := 16) hx hb hts (tb_c tbX6) tyX6 tyX6_ok nmX6 hown hK hP hD hS 0 rfl rfl 15 (by decide) (hw _ tw_356) (fun _ h9 => h9) rfl hin rfl (by decide +kernel) rfl rfl (Nat.le_of_ble_eq_true rfl) dX6_init_97 (fun H locs hP hD hS => ?_)
  have hP : va_P (dC, dI) vwCl [(ma, .inr (6, [.int (nI 0), .ref q7, .ref q15, .ref q23, .int (nI 0), .ref q31, .ref q39, .int (nI 0), .ref q47, .ref q55, .int (nI 0), .ref q63, .ref q71, .ref q79, .ref q87, .ref q95])), (q7, .inl (kI, 40, .inl (fun _ => 0))), (q15, .inl (kI, 40, .inl (cA (fun _ => 1)))), (q23, .inl (kI, 40, .inl (cA (fun _ => 1)))), (q31, .inl (kI, 24, .inl (cI (fun _ => 0)))), (q39, .inl (kI, 24, .inl (cI (fun _ => 0)))), (q47, .inl (kI, 16, .inl (cI (fun _ => 0)))), (q55, .inl (kI, 16, .inl (cI (fun _ => 0)))), (q63, .inl (kI, 6, .inl (cI (fun _ => 0)))), (q71, .inl (kI, 6, .inl (cI (fun _ => 0)))), (q79, .inl (kI, 6, .inl (cI (fun _ => 0)))), (q87, .inl (kI, 40, .inl (cI (fun _ => 0)))), (q95, .inl (kL, 40, .inr (.inl (cL (fun _ => 0)))))] H := hP
  have hD : va_D AA [(ma, .inr (6, [.int (nI 0), .ref q7, .ref q15, .ref q23, .int (nI 0), .ref q31, .ref q39, .int (nI 0), .ref q47, .ref q55, .int (nI 0), .ref q63, .ref q71, .ref q79, .ref q87, .ref q95])), (q7, .inl (kI, 40, .inl (fun _ => 0))), (q15, .inl (kI, 40, .inl (cA (fun _ => 1)))), (q23, .inl (kI, 40, .inl (cA (fun _ => 1)))), (q31, .inl (kI, 24, .inl (cI (fun _ => 0)))), (q39, .inl (kI, 24, .inl (cI (fun _ => 0)))), (q47, .inl (kI, 16, .inl (cI (fun _ => 0)))), (q55, .inl (kI, 16, .inl (cI (fun _ => 0)))), (q63, .inl (kI, 6, .inl (cI (fun _ => 0)))), (q71, .inl (kI, 6, .inl (cI (fun _ => 0)))), (q79, .inl (kI, 6, .inl (cI (fun _ => 0)))), (q87, .inl (kI, 40, .inl (cI (fun _ => 0)))), (q95, .inl (kL, 40, .inr (.inl (cL (fun _ => 0)))))] := hD
  have hP9 := hP.sub (ws' := [(ma, .inr (6, [.int (nI 0), .ref q7, .ref q15, .ref q23, .int (nI 0), .ref q31, .ref q39, .int (nI 0), .ref q47, .ref q55, .int (nI 0), .ref q63, .ref q71, .ref q79, .ref q87, .ref q95])), (q7, .inl (kI, 40, .inl (fun _ => 0))), (q15, .inl (kI, 40, .inl (cA (fun _ => 1)))), (q23, .inl (kI, 40, .inl (cA (fun _ => 1)))), (q31, .inl (kI, 24, .inl (cI (fun _ => 0)))), (q39, .inl (kI, 24, .inl (cI (fun _ => 0)))), (q47, .inl (kI, 16, .inl (cI (fun _ => 0)))), (q55, .inl (kI, 16, .inl (cI (fun _ => 0)))), (q63, .inl (kI, 6, .inl (cI (fun _ => 0)))), (q71, .inl (kI, 6, .inl (cI (fun _ => 0)))), (q79, .inl (kI, 6, .inl (cI (fun _ => 0)))), (q87, .inl (kI, 40, .inl (cI (fun _ => 0)))), (q95, .inl (kL, 40, .inr (.inl (cL (fun _ => 0)))))]) [0, 1, 2, 3, 4, 5, 6, 7, 8, 9, 10, 11, 12] rfl
  have hD9 := hD.sub (ws' := [(ma, .inr (6, [.int (nI 0), .ref q7, .ref q15, .ref q23, .int (nI 0), .ref q31, .ref q39, .int (nI 0), .ref q47, .ref q55, .int (nI 0), .ref q63, .ref q71, .ref q79, .ref q87, .ref q95])), (q7, .inl (kI, 40, .inl (fun _ => 0))), (q15, .inl (kI, 40, .inl (cA (fun _ => 1)))), (q23, .inl (kI, 40, .inl (cA (fun _ => 1)))), (q31, .inl (kI, 24, .inl (cI (fun _ => 0)))), (q39, .inl (kI, 24, .inl (cI (fun _ => 0)))), (q47, .inl (kI, 16, .inl (cI (fun _ => 0)))), (q55, .inl (kI, 16, .inl (cI (fun _ => 0)))), (q63, .inl (kI, 6, .inl (cI (fun _ => 0)))), (q71, .inl (kI, 6, .inl (cI (fun _ => 0)))), (q79, .inl (kI, 6, .inl (cI (fun _ => 0)))), (q87, .inl (kI, 40, .inl (cI (fun _ => 0)))), (q95, .inl (kL, 40, .inr (.inl (cL (fun _ => 0)))))]) [0, 1, 2, 3, 4, 5, 6, 7, 8, 9, 10, 11, 12] (by decide) rfl
  exact W.vret hx hb hr (fun t ht hW => ⟨⟨(q7, q15, q23, q31, q39, q47, q55, q63, q71, q79, q87, q95), rfl, trivial, by rw [ht]; exact hP9, hD9⟩, hS.F ht⟩) hS.2.2 dX6_init_100
