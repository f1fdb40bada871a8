set_option maxHeartbeats 4000000 in
set_option maxRecDepth 100000 in
theorem c_X0_init (l : Launch) (dC : Nat → ClassId) (dI : Nat → Nat → Nat) (kI kL : ClassId) (zv : Nat) (sz : Nat) : Met l yX0_init (.code yX0_init cX0_init 1 none :: tbw) { frames := 1, cells := 3, slots := 18, locals := 20 } (va_Pc [.ref zv] (cx_M (dC, dI) vwCl [(zv, .inr (0, [.null, .null, .null, .int (nI 0)]))] [(kI, .int), (kL, .long)] sz)) (va_Qv (fun (u : Nat × Nat × Nat) => True) (cx_B (dC, dI) vwCl (va_A [(zv, .inr (0, [.null, .null, .null, .int (nI 0)]))] sz) (fun u : Nat × Nat × Nat => [(zv, .inr (0, [.ref u.1, .ref u.2.1, .ref u.2.2, .int (nI 0)])), (u.1, .inl (kI, 6, .inl (cI (fun _ => 0)))), (u.2.1, .inl (kI, 6, .inl (cI (fun _ => 0)))), (u.2.2, .inl (kI, 6, .inl (cI (fun _ => 0))))])) (va_A [(zv, .inr (0, [.null, .null, .null, .int (nI 0)]))] sz)) 3 18 (va_A [(zv, .inr (0, [.null, .null, .null, .int (nI 0)]))] sz) := by
  refine Met.ofW (cc := cX0_init) (maxL := 1) (ret := none) (by decide) rfl ?_
  intro p e s m args below meth c s₁ B hml hv
  obtain ⟨rfl, hsz, hP, hK, hD0⟩ := hv
  have hx := B.exec
  have hb := B.bytes
  have hr := B.returns
  have hts := atoms_spec (ws := .code yX0_init cX0_init 1 none :: tbw) B.pre
  have hw : ∀ w ∈ tbw, w.before _ s = true := fun w h => hts w (List.mem_cons_of_mem _ h)
  have hown : s.vm.findClass RX0 = some m.cls := findClass_of_methodNamed B.named
  have hin : meth.name = "<init>" := (name_of_methodNamed B.named B.method).1
  subst hsz
  have hD := hD0.self (sz := s.heap.size)
  generalize hAe : va_A [(zv, .inr (0, [.null, .null, .null, .int (nI 0)]))] s.heap.size = AA at hD ⊢
  have hA : ∀ q : Nat, s.heap.size ≤ q → AA q := fun q h => by rw [← hAe]; exact Or.inr h
  have hS : va_S AA s.heap s.heap [] := va_S.rf
  have hP : va_P (dC, dI) vwCl [(zv, .inr (0, [.null, .null, .null, .int (nI 0)]))] s.heap := hP
  have hl := lv_entry ([.ref zv]) (n := 1) (Nat.le_of_ble_eq_true rfl)
  rw [lg_entry_eq]
  generalize (lg_sl ([.ref zv]) ++ List.replicate (1 - (lg_sl ([.ref zv])).length) Slot.unset).toArray = ls at hl ⊢
  have hl : lv_has ls 1 [(0, .ref zv)] := hl
  refine lv_aload_n hx hb dX0_init_0 rfl (lv_at hl 0 rfl) ?_
  refine W.objInit hx hb hown (hw _ tw_74) (hw _ tw_16) (hw _ tw_17) rfl (by rw [hml]; exact hl.1) rfl dX0_init_1 (Nat.le_of_ble_eq_true rfl) (Nat.le_of_ble_eq_true rfl) ?_
  refine W.eq (g2 := F0 m 4 ls []) rfl ?_
  refine lv_aload_n hx hb dX0_init_4 rfl (lv_at hl 0 rfl) ?_
  refine lv_bipush (v := nI 6) hx hb dX0_init_5 (by decide) ?_
  refine va_newa (atype := .int) (ty := .int) (n := nI 6) (a0 := (6, .inl (cI (fun _ => 0)))) (N' := 6) hx hb (hw _ tw_46) rfl hK hP hD hS hA (fun _ => cx_zI) (by decide) (by decide) (by decide) (Nat.le_of_ble_eq_true rfl) (Nat.le_of_ble_eq_true rfl) dX0_init_7 (fun q7 c9 H hK9 hP hD hS => ?_)
  obtain rfl := cx_cAI hK9
  refine W.widen (k := 1) (n := 6) (Nat.le_of_ble_eq_true rfl) (Nat.le_of_ble_eq_true rfl) ?_
  have hP : va_P (dC, dI) vwCl [(zv, .inr (0, [.null, .null, .null, .int (nI 0)])), (q7, .inl (kI, 6, .inl (cI (fun _ => 0))))] H := hP
  have hD : va_D AA [(zv, .inr (0, [.null, .null, .null, .int (nI 0)])), (q7, .inl (kI, 6, .inl (cI (fun _ => 0))))] := hD
  refine va_putF (D := (dC, dI)) (ci := 0) (v := .ref q7) (ty := .array .int) (C := RX0) (T := TX0) (N := 4) hx hb hts (tb_c tbX0) tyX0 tyX0_ok nmX0 hown hK hP hD hS 0 rfl rfl 0 (by decide) (hw _ tw_75) (fun _ h9 => h9) rfl hin rfl (by decide +kernel) rfl rfl (Nat.le_of_ble_eq_true rfl) dX0_init_9 (fun H locs hP hD hS => ?_)
  have hP : va_P (dC, dI) vwCl [(zv, .inr (0, [.ref q7, .null, .null, .int (nI 0)])), (q7, .inl (kI, 6, .inl (cI (fun _ => 0))))] H := hP
  have hD : va_D AA [(zv, .inr (0, [.ref q7, .null, .null, .int (nI 0)])), (q7, .inl (kI, 6, .inl (cI (fun _ => 0))))] := hD
  refine lv_aload_n hx hb dX0_init_12 rfl (lv_at hl 0 rfl) ?_
  refine lv_bipush (v := nI 6) hx hb dX0_init_13 (by decide) ?_
  refine va_newa (atype := .int) (ty := .int) (n := nI 6) (a0 := (6, .inl (cI (fun _ => 0)))) (N' := 6) hx hb (hw _ tw_46) rfl hK hP hD hS hA (fun _ => cx_zI) (by decide) (by decide) (by decide) (Nat.le_of_ble_eq_true rfl) (Nat.le_of_ble_eq_true rfl) dX0_init_15 (fun q15 c9 H hK9 hP hD hS => ?_)
  obtain rfl := cx_cAI hK9
  refine W.widen (k := 2) (n := 12) (Nat.le_of_ble_eq_true rfl) (Nat.le_of_ble_eq_true rfl) ?_
  have hP : va_P (dC, dI) vwCl [(zv, .inr (0, [.ref q7, .null, .null, .int (nI 0)])), (q7, .inl (kI, 6, .inl (cI (fun _ => 0)))), (q15, .inl (kI, 6, .inl (cI (fun _ => 0))))] H := hP
  have hD : va_D AA [(zv, .inr (0, [.ref q7, .null, .null, .int (nI 0)])), (q7, .inl (kI, 6, .inl (cI (fun _ => 0)))), (q15, .inl (kI, 6, .inl (cI (fun _ => 0))))] := hD
  refine va_putF (D := (dC, dI)) (ci := 0) (v := .ref q15) (ty := .array .int) (C := RX0) (T := TX0) (N := 4) hx hb hts (tb_c tbX0) tyX0 tyX0_ok nmX0 hown hK hP hD hS 0 rfl rfl 1 (by decide) (hw _ tw_77) (fun _ h9 => h9) rfl hin rfl (by decide +kernel) rfl rfl (Nat.le_of_ble_eq_true rfl) dX0_init_17 (fun H locs hP hD hS => ?_)
  have hP : va_P (dC, dI) vwCl [(zv, .inr (0, [.ref q7, .ref q15, .null, .int (nI 0)])), (q7, .inl (kI, 6, .inl (cI (fun _ => 0)))), (q15, .inl (kI, 6, .inl (cI (fun _ => 0))))] H := hP
  have hD : va_D AA [(zv, .inr (0, [.ref q7, .ref q15, .null, .int (nI 0)])), (q7, .inl (kI, 6, .inl (cI (fun _ => 0)))), (q15, .inl (kI, 6, .inl (cI (fun _ => 0))))] := hD
  refine lv_aload_n hx hb dX0_init_20 rfl (lv_at hl 0 rfl) ?_
  refine lv_bipush (v := nI 6) hx hb dX0_init_21 (by decide) ?_
  refine va_newa (atype := .int) (ty := .int) (n := nI 6) (a0 := (6, .inl (cI (fun _ => 0)))) (N' := 6) hx hb (hw _ tw_46) rfl hK hP hD hS hA (fun _ => cx_zI) (by decide) (by decide) (by decide) (Nat.le_of_ble_eq_true rfl) (Nat.le_of_ble_eq_true rfl) dX0_init_23 (fun q23 c9 H hK9 hP hD hS => ?_)
  obtain rfl := cx_cAI hK9
  refine W.widen (k := 3) (n := 18) (Nat.le_of_ble_eq_true rfl) (Nat.le_of_ble_eq_true rfl) ?_
  have hP : va_P (dC, dI) vwCl [(zv, .inr (0, [.ref q7, .ref q15, .null, .int (nI 0)])), (q7, .inl (kI, 6, .inl (cI (fun _ => 0)))), (q15, .inl (kI, 6, .inl (cI (fun _ => 0)))), (q23, .inl (kI, 6, .inl (cI (fun _ => 0))))] H := hP
  have hD : va_D AA [(zv, .inr (0, [.ref q7, .ref q15, .null, .int (nI 0)])), (q7, .inl (kI, 6, .inl (cI (fun _ => 0)))), (q15, .inl (kI, 6, .inl (cI (fun _ => 0)))), (q23, .inl (kI, 6, .inl (cI (fun _ => 0))))] := hD
  refine va_putF (D := (dC, dI)) (ci := 0) (v := .ref q23) (ty := .array .int) (C := RX0) (T := TX0) (N := 4) hx hb hts (tb_c tbX0) tyX0 tyX0_ok nmX0 hown hK hP hD hS 0 rfl rfl 2 (by decide) (hw _ tw_79) (fun _ h9 => h9) rfl hin rfl (by decide +kernel) rfl rfl (Nat.le_of_ble_eq_true rfl) dX0_init_25 (fun H locs hP hD hS => ?_)
  have hP : va_P (dC, dI) vwCl [(zv, .inr (0, [.ref q7, .ref q15, .ref q23, .int (nI 0)])), (q7, .inl (kI, 6, .inl (cI (fun _ => 0)))), (q15, .inl (kI, 6, .inl (cI (fun _ => 0)))), (q23, .inl (kI, 6, .inl (cI (fun _ => 0))))] H := hP
  have hD : va_D AA [(zv, .inr (0, [.ref q7, .ref q15, .ref q23, .int (nI 0)])), (q7, .inl (kI, 6, .inl (cI (fun _ => 0)))), (q15, .inl (kI, 6, .inl (cI (fun _ => 0)))), (q23, .inl (kI, 6, .inl (cI (fun _ => 0))))] := hD
  refine lv_aload_n hx hb dX0_init_28 rfl (lv_at hl 0 rfl) ?_
  refine lv_iconst (v := nI 0) hx hb dX0_init_29 (by decide) ?_
  refine va_put (D := (dC, dI)) (ci := 0) (v := .int (nI 0)) (ty := .int) (C := RX0) (T := TX0) (N := 4) hx hb hts (tb_c tbX0) tyX0 tyX0_ok nmX0 hown hK hP hD hS 0 rfl rfl 3 (by decide) (hw _ tw_81) (fun _ h9 => h9) rfl (by decide +kernel) rfl rfl (Nat.le_of_ble_eq_true rfl) dX0_init_30 (fun H locs hP hD hS => ?_)
  have hP : va_P (dC, dI) vwCl [(zv, .inr (0, [.ref q7, .ref q15, .ref q23, .int (nI 0)])), (q7, .inl (kI, 6, .inl (cI (fun _ => 0)))), (q15, .inl (kI, 6, .inl (cI (fun _ => 0)))), (q23, .inl (kI, 6, .inl (cI (fun _ => 0))))] H := hP
  have hD : va_D AA [(zv, .inr (0, [.ref q7, .ref q15, .ref q23, .int (nI 0)])), (q7, .inl (kI, 6, .inl (cI (fun _ => 0)))), (q15, .inl (kI, 6, .inl (cI (fun _ => 0)))), (q23, .inl (kI, 6, .inl (cI (fun _ => 0))))] := hD
  have hP9 := hP.sub (ws' := [(zv, .inr (0, [.ref q7, .ref q15, .ref q23, .int (nI 0)])), (q7, .inl (kI, 6, .inl (cI (fun _ => 0)))), (q15, .inl (kI, 6, .inl (cI (fun _ => 0)))), (q23, .inl (kI, 6, .inl (cI (fun _ => 0))))]) [0, 1, 2, 3] rfl
  have hD9 := hD.sub (ws' := [(zv, .inr (0, [.ref q7, .ref q15, .ref q23, .int (nI 0)])), (q7, .inl (kI, 6, .inl (cI (fun _ => 0)))), (q15, .inl (kI, 6, .inl (cI (fun _ => 0)))), (q23, .inl (kI, 6, .inl (cI (fun _ => 0))))]) [0, 1, 2, 3] (by decide) rfl
  exact W.vret hx hb hr (fun t ht hW => ⟨⟨(q7, q15, q23), rfl, trivial, by rw [ht]; exact hP9, hD9⟩, hS.F ht⟩) hS.2.2 dX0_init_33
