set_option maxHeartbeats 4000000 in
set_option maxRecDepth 100000 in
theorem c_X3_init (l : Launch) (dC : Nat → ClassId) (dI : Nat → Nat → Nat) (kI kL : ClassId) (zt : Nat) (sz : Nat) : Met l yX3_init (.code yX3_init cX3_init 1 none :: tbw) { frames := 1, cells := 3, slots := 120, locals := 20 } (va_Pc [.ref zt] (cx_M (dC, dI) vwCl [(zt, .inr (3, [.null, .null, .null, .int (nI 0)]))] [(kI, .int), (kL, .long)] sz)) (va_Qv (fun (u : Nat × Nat × Nat) => True) (cx_B (dC, dI) vwCl (va_A [(zt, .inr (3, [.null, .null, .null, .int (nI 0)]))] sz) (fun u : Nat × Nat × Nat => [(zt, .inr (3, [.ref u.1, .ref u.2.1, .ref u.2.2, .int (nI 0)])), (u.1, .inl (kI, 40, .inl (fun _ => 0))), (u.2.1, .inl (kI, 40, .inl (cA (fun _ => 1)))), (u.2.2, .inl (kI, 40, .inl (cA (fun _ => 1))))])) (va_A [(zt, .inr (3, [.null, .null, .null, .int (nI 0)]))] sz)) 3 120 (va_A [(zt, .inr (3, [.null, .null, .null, .int (nI 0)]))] sz) := by
  refine Met.ofW (cc := cX3_init) (maxL := 1) (ret := none) (by decide) rfl ?_
  intro p e s m args below meth c s₁ B hml hv
  obtain ⟨rfl, hsz, hP, hK, hD0⟩ := hv
  have hx := B.exec
  have hb := B.bytes
  have hr := B.returns
  have hts := atoms_spec (ws := .code yX3_init cX3_init 1 none :: tbw) B.pre
  have hw : ∀ w ∈ tbw, w.before _ s = true := fun w h => hts w (List.mem_cons_of_mem _ h)
  have hown : s.vm.findClass RX3 = some m.cls := findClass_of_methodNamed B.named
  have hin : meth.name = "<init>" := (name_of_methodNamed B.named B.method).1
  subst hsz
  have hD := hD0.self (sz := s.heap.size)
  generalize hAe : va_A [(zt, .inr (3, [.null, .null, .null, .int (nI 0)]))] s.heap.size = AA at hD ⊢
  have hA : ∀ q : Nat, s.heap.size ≤ q → AA q := fun q h => by rw [← hAe]; exact Or.inr h
  have hS : va_S AA s.heap s.heap [] := va_S.rf
  have hP : va_P (dC, dI) vwCl [(zt, .inr (3, [.null, .null, .null, .int (nI 0)]))] s.heap := hP
  have hl := lv_entry ([.ref zt]) (n := 1) (Nat.le_of_ble_eq_true rfl)
  rw [lg_entry_eq]
  generalize (lg_sl ([.ref zt]) ++ List.replicate (1 - (lg_sl ([.ref zt])).length) Slot.unset).toArray = ls at hl ⊢
  have hl : lv_has ls 1 [(0, .ref zt)] := hl
  refine lv_aload_n hx hb dX3_init_0 rfl (lv_at hl 0 rfl) ?_
  refine W.objInit hx hb hown (hw _ tw_23) (hw _ tw_16) (hw _ tw_17) rfl (by rw [hml]; exact hl.1) rfl dX3_init_1 (Nat.le_of_ble_eq_true rfl) (Nat.le_of_ble_eq_true rfl) ?_
  refine W.eq (g2 := F0 m 4 ls []) rfl ?_
  refine lv_aload_n hx hb dX3_init_4 rfl (lv_at hl 0 rfl) ?_
  refine lv_bipush (v := nI 40) hx hb dX3_init_5 (by decide) ?_
  refine va_newa (atype := .int) (ty := .int) (n := nI 40) (a0 := (40, .inl (fun _ => 0))) (N' := 40) hx hb (hw _ tw_46) rfl hK hP hD hS hA (fun _ => cx_zR) (by decide) (by decide) (by decide) (Nat.le_of_ble_eq_true rfl) (Nat.le_of_ble_eq_true rfl) dX3_init_7 (fun q7 c9 H hK9 hP hD hS => ?_)
  obtain rfl := cx_cAI hK9
  refine W.widen (k := 1) (n := 40) (Nat.le_of_ble_eq_true rfl) (Nat.le_of_ble_eq_true rfl) ?_
  have hP : va_P (dC, dI) vwCl [(zt, .inr (3, [.null, .null, .null, .int (nI 0)])), (q7, .inl (kI, 40, .inl (fun _ => 0)))] H := hP
  have hD : va_D AA [(zt, .inr (3, [.null, .null, .null, .int (nI 0)])), (q7, .inl (kI, 40, .inl (fun _ => 0)))] := hD
  refine va_putF (D := (dC, dI)) (ci := 3) (v := .ref q7) (ty := .array .int) (C := RX3) (T := TX3) (N := 4) hx hb hts (tb_c tbX3) tyX3 tyX3_ok nmX3 hown hK hP hD hS 0 rfl rfl 0 (by decide) (hw _ tw_24) (fun _ h9 => h9) rfl hin rfl (by decide +kernel) rfl rfl (Nat.le_of_ble_eq_true rfl) dX3_init_9 (fun H locs hP hD hS => ?_)
  have hP : va_P (dC, dI) vwCl [(zt, .inr (3, [.ref q7, .null, .null, .int (nI 0)])), (q7, .inl (kI, 40, .inl (fun _ => 0)))] H := hP
  have hD : va_D AA [(zt, .inr (3, [.ref q7, .null, .null, .int (nI 0)])), (q7, .inl (kI, 40, .inl (fun _ => 0)))] := hD
  refine lv_aload_n hx hb dX3_init_12 rfl (lv_at hl 0 rfl) ?_
  refine lv_bipush (v := nI 40) hx hb dX3_init_13 (by decide) ?_
  refine va_newa (atype := .int) (ty := .int) (n := nI 40) (a0 := (40, .inl (cA (fun _ => 1)))) (N' := 40) hx hb (hw _ tw_46) rfl hK hP hD hS hA (fun _ => cx_zA) (by decide) (by decide) (by decide) (Nat.le_of_ble_eq_true rfl) (Nat.le_of_ble_eq_true rfl) dX3_init_15 (fun q15 c9 H hK9 hP hD hS => ?_)
  obtain rfl := cx_cAI hK9
  refine W.widen (k := 2) (n := 80) (Nat.le_of_ble_eq_true rfl) (Nat.le_of_ble_eq_true rfl) ?_
  have hP : va_P (dC, dI) vwCl [(zt, .inr (3, [.ref q7, .null, .null, .int (nI 0)])), (q7, .inl (kI, 40, .inl (fun _ => 0))), (q15, .inl (kI, 40, .inl (cA (fun _ => 1))))] H := hP
  have hD : va_D AA [(zt, .inr (3, [.ref q7, .null, .null, .int (nI 0)])), (q7, .inl (kI, 40, .inl (fun _ => 0))), (q15, .inl (kI, 40, .inl (cA (fun _ => 1))))] := hD
  refine va_putF (D := (dC, dI)) (ci := 3) (v := .ref q15) (ty := .array .int) (C := RX3) (T := TX3) (N := 4) hx hb hts (tb_c tbX3) tyX3 tyX3_ok nmX3 hown hK hP hD hS 0 rfl rfl 1 (by decide) (hw _ tw_27) (fun _ h9 => h9) rfl hin rfl (by decide +kernel) rfl rfl (Nat.le_of_ble_eq_true rfl) dX3_init_17 (fun H locs hP hD hS => ?_)
  have hP : va_P (dC, dI) vwCl [(zt, .inr (3, [.ref q7, .ref q15, .null, .int (nI 0)])), (q7, .inl (kI, 40, .inl (fun _ => 0))), (q15, .inl (kI, 40, .inl (cA (fun _ => 1))))] H := hP
  have hD : va_D AA [(zt, .inr (3, [.ref q7, .ref q15, .null, .int (nI 0)])), (q7, .inl (kI, 40, .inl (fun _ => 0))), (q15, .inl (kI, 40, .inl (cA (fun _ => 1))))] := hD
  refine lv_aload_n hx hb dX3_init_20 rfl (lv_at hl 0 rfl) ?_
  refine lv_bipush (v := nI 40) hx hb dX3_init_21 (by decide) ?_
  refine va_newa (atype := .int) (ty := .int) (n := nI 40) (a0 := (40, .inl (cA (fun _ => 1)))) (N' := 40) hx hb (hw _ tw_46) rfl hK hP hD hS hA (fun _ => cx_zA) (by decide) (by decide) (by decide) (Nat.le_of_ble_eq_true rfl) (Nat.le_of_ble_eq_true rfl) dX3_init_23 (fun q23 c9 H hK9 hP hD hS => ?_)
  obtain rfl := cx_cAI hK9
  refine W.widen (k := 3) (n := 120) (Nat.le_of_ble_eq_true rfl) (Nat.le_of_ble_eq_true rfl) ?_
  have hP : va_P (dC, dI) vwCl [(zt, .inr (3, [.ref q7, .ref q15, .null, .int (nI 0)])), (q7, .inl (kI, 40, .inl (fun _ => 0))), (q15, .inl (kI, 40, .inl (cA (fun _ => 1)))), (q23, .inl (kI, 40, .inl (cA (fun _ => 1))))] H := hP
  have hD : va_D AA [(zt, .inr (3, [.ref q7, .ref q15, .null, .int (nI 0)])), (q7, .inl (kI, 40, .inl (fun _ => 0))), (q15, .inl (kI, 40, .inl (cA (fun _ => 1)))), (q23, .inl (kI, 40, .inl (cA (fun _ => 1))))] := hD
  refine va_putF (D := (dC, dI)) (ci := 3) (v := .ref q23) (ty := .array .int) (C := RX3) (T := TX3) (N := 4) hx hb hts (tb_c tbX3) tyX3 tyX3_ok nmX3 hown hK hP hD hS 0 rfl rfl 2 (by decide) (hw _ tw_30) (fun _ h9 => h9) rfl hin rfl (by decide +kernel) rfl rfl (Nat.le_of_ble_eq_true rfl) dX3_init_25 (fun H locs hP hD hS => ?_)
  have hP : va_P (dC, dI) vwCl [(zt, .inr (3, [.ref q7, .ref q15, .ref q23, .int (nI 0)])), (q7, .inl (kI, 40, .inl (fun _ => 0))), (q15, .inl (kI, 40, .inl (cA (fun _ => 1)))), (q23, .inl (kI, 40, .inl (cA (fun _ => 1))))] H := hP
  have hD : va_D AA [(zt, .inr (3, [.ref q7, .ref q15, .ref q23, .int (nI 0)])), (q7, .inl (kI, 40, .inl (fun _ => 0))), (q15, .inl (kI, 40, .inl (cA (fun _ => 1)))), (q23, .inl (kI, 40, .inl (cA (fun _ => 1))))] := hD
  refine lv_aload_n hx hb dX3_init_28 rfl (lv_at hl 0 rfl) ?_
  refine lv_iconst (v := nI 0) hx hb dX3_init_29 (by decide) ?_
  refine va_put (D := (dC, dI)) (ci := 3) (v := .int (nI 0)) (ty := .int) (C := RX3) (T := TX3) (N := 4) hx hb hts (tb_c tbX3) tyX3 tyX3_ok nmX3 hown hK hP hD hS 0 rfl rfl 3 (by decide) (hw _ tw_33) (fun _ h9 => h9) rfl (by decide +kernel) rfl rfl (Nat.le_of_ble_eq_true rfl) dX3_init_30 (fun H locs hP hD hS => ?_)
  have hP : va_P (dC, dI) vwCl [(zt, .inr (3, [.ref q7, .ref q15, .ref q23, .int (nI 0)])), (q7, .inl (kI, 40, .inl (fun _ => 0))), (q15, .inl (kI, 40, .inl (cA (fun _ => 1)))), (q23, .inl (kI, 40, .inl (cA (fun _ => 1))))] H := hP
  have hD : va_D AA [(zt, .inr (3, [.ref q7, .ref q15, .ref q23, .int (nI 0)])), (q7, .inl (kI, 40, .inl (fun _ => 0))), (q15, .inl (kI, 40, .inl (cA (fun _ => 1)))), (q23, .inl (kI, 40, .inl (cA (fun _ => 1))))] := hD
  have hP9 := hP.sub (ws' := [(zt, .inr (3, [.ref q7, .ref q15, .ref q23, .int (nI 0)])), (q7, .inl (kI, 40, .inl (fun _ => 0))), (q15, .inl (kI, 40, .inl (cA (fun _ => 1)))), (q23, .inl (kI, 40, .inl (cA (fun _ => 1))))]) [0, 1, 2, 3] rfl
  have hD9 := hD.sub (ws' := [(zt, .inr (3, [.ref q7, .ref q15, .ref q23, .int (nI 0)])), (q7, .inl (kI, 40, .inl (fun _ => 0))), (q15, .inl (kI, 40, .inl (cA (fun _ => 1)))), (q23, .inl (kI, 40, .inl (cA (fun _ => 1))))]) [0, 1, 2, 3] (by decide) rfl
  exact W.vret hx hb hr (fun t ht hW => ⟨⟨(q7, q15, q23), rfl, trivial, by rw [ht]; exact hP9, hD9⟩, hS.F ht⟩) hS.2.2 dX3_init_33
