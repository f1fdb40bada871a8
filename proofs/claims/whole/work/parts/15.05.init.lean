set_option maxHeartbeats 4000000 in
set_option maxRecDepth 100000 in
theorem c_X1_init_16 (l : Launch) (dC : Nat → ClassId) (dI : Nat → Nat → Nat) (kI kL : ClassId) (zp : Nat) (sz : Nat) : Met l yX1_init (.code yX1_init cX1_init 2 none :: tbw) { frames := 1, cells := 2, slots := 32, locals := 20 } (va_Pc [.ref zp, .int (nI 16)] (cx_M (dC, dI) vwCl [(zp, .inr (1, [.null, .null, .int (nI 0)]))] [(kI, .int), (kL, .long)] sz)) (va_Qv (fun (u : Nat × Nat) => True) (cx_B (dC, dI) vwCl (va_A [(zp, .inr (1, [.null, .null, .int (nI 0)]))] sz) (fun u : Nat × Nat => [(zp, .inr (1, [.ref u.1, .ref u.2, .int (nI 0)])), (u.1, .inl (kI, 16, .inl (cI (fun _ => 0)))), (u.2, .inl (kI, 16, .inl (cI (fun _ => 0))))])) (va_A [(zp, .inr (1, [.null, .null, .int (nI 0)]))] sz)) 2 32 (va_A [(zp, .inr (1, [.null, .null, .int (nI 0)]))] sz) := by
  refine Met.ofW (cc := cX1_init) (maxL := 2) (ret := none) (by decide) rfl ?_
  intro p e s m args below meth c s₁ B hml hv
  obtain ⟨rfl, hsz, hP, hK, hD0⟩ := hv
  have hx := B.exec
  have hb := B.bytes
  have hr := B.returns
  have hts := atoms_spec (ws := .code yX1_init cX1_init 2 none :: tbw) B.pre
  have hw : ∀ w ∈ tbw, w.before _ s = true := fun w h => hts w (List.mem_cons_of_mem _ h)
  have hown : s.vm.findClass RX1 = some m.cls := findClass_of_methodNamed B.named
  have hin : meth.name = "<init>" := (name_of_methodNamed B.named B.method).1
  subst hsz
  have hD := hD0.self (sz := s.heap.size)
  generalize hAe : va_A [(zp, .inr (1, [.null, .null, .int (nI 0)]))] s.heap.size = AA at hD ⊢
  have hA : ∀ q : Nat, s.heap.size ≤ q → AA q := fun q h => by rw [← hAe]; exact Or.inr h
  have hS : va_S AA s.heap s.heap [] := va_S.rf
  have hP : va_P (dC, dI) vwCl [(zp, .inr (1, [.null, .null, .int (nI 0)]))] s.heap := hP
  have hl := lv_entry ([.ref zp, .int (nI 16)]) (n := 2) (Nat.le_of_ble_eq_true rfl)
  rw [lg_entry_eq]
  generalize (lg_sl ([.ref zp, .int (nI 16)]) ++ List.replicate (2 - (lg_sl ([.ref zp, .int (nI 16)])).length) Slot.unset).toArray = ls at hl ⊢
  have hl : lv_has ls 2 [(0, .ref zp), (1, .int (nI 16))] := hl
  refine lv_aload_n hx hb dX1_init_0 rfl (lv_at hl 0 rfl) ?_
  refine W.objInit hx hb hown (hw _ tw_52) (hw _ tw_16) (hw _ tw_17) rfl (by rw [hml]; exact hl.1) rfl dX1_init_1 (Nat.le_of_ble_eq_true rfl) (Nat.le_of_ble_eq_true rfl) ?_
  refine W.eq (g2 := F0 m 4 ls []) rfl ?_
  refine lv_aload_n hx hb dX1_init_4 rfl (lv_at hl 0 rfl) ?_
  refine lv_iconst (v := nI 0) hx hb dX1_init_5 (by decide) ?_
  refine va_put (D := (dC, dI)) (ci := 1) (v := .int (nI 0)) (ty := .int) (C := RX1) (T := TX1) (N := 3) hx hb hts (tb_c tbX1) tyX1 tyX1_ok nmX1 hown hK hP hD hS 0 rfl rfl 2 (by decide) (hw _ tw_59) (fun _ h9 => h9) rfl (by decide +kernel) rfl rfl (Nat.le_of_ble_eq_true rfl) dX1_init_6 (fun H locs hP hD hS => ?_)
  have hP : va_P (dC, dI) vwCl [(zp, .inr (1, [.null, .null, .int (nI 0)]))] H := hP
  have hD : va_D AA [(zp, .inr (1, [.null, .null, .int (nI 0)]))] := hD
  refine lv_aload_n hx hb dX1_init_9 rfl (lv_at hl 0 rfl) ?_
  refine lv_iload_n hx hb dX1_init_10 rfl (lv_at hl 1 rfl) ?_
  refine va_newa (atype := .int) (ty := .int) (n := nI 16) (a0 := (16, .inl (cI (fun _ => 0)))) (N' := 16) hx hb (hw _ tw_46) rfl hK hP hD hS hA (fun _ => cx_zI) (by decide) (by decide) (by decide) (Nat.le_of_ble_eq_true rfl) (Nat.le_of_ble_eq_true rfl) dX1_init_11 (fun q11 c9 H hK9 hP hD hS => ?_)
  obtain rfl := cx_cAI hK9
  refine W.widen (k := 1) (n := 16) (Nat.le_of_ble_eq_true rfl) (Nat.le_of_ble_eq_true rfl) ?_
  have hP : va_P (dC, dI) vwCl [(zp, .inr (1, [.null, .null, .int (nI 0)])), (q11, .inl (kI, 16, .inl (cI (fun _ => 0))))] H := hP
  have hD : va_D AA [(zp, .inr (1, [.null, .null, .int (nI 0)])), (q11, .inl (kI, 16, .inl (cI (fun _ => 0))))] := hD
  refine va_putF (D := (dC, dI)) (ci := 1) (v := .ref q11) (ty := .array .int) (C := RX1) (T := TX1) (N := 3) hx hb hts (tb_c tbX1) tyX1 tyX1_ok nmX1 hown hK hP hD hS 0 rfl rfl 0 (by decide) (hw _ tw_53) (fun _ h9 => h9) rfl hin rfl (by decide +kernel) rfl rfl (Nat.le_of_ble_eq_true rfl) dX1_init_13 (fun H locs hP hD hS => ?_)
  have hP : va_P (dC, dI) vwCl [(zp, .inr (1, [.ref q11, .null, .int (nI 0)])), (q11, .inl (kI, 16, .inl (cI (fun _ => 0))))] H := hP
  have hD : va_D AA [(zp, .inr (1, [.ref q11, .null, .int (nI 0)])), (q11, .inl (kI, 16, .inl (cI (fun _ => 0))))] := hD
  refine lv_aload_n hx hb dX1_init_16 rfl (lv_at hl 0 rfl) ?_
  refine lv_iload_n hx hb dX1_init_17 rfl (lv_at hl 1 rfl) ?_
  refine va_newa (atype := .int) (ty := .int) (n := nI 16) (a0 := (16, .inl (cI (fun _ => 0)))) (N' := 16) hx hb (hw _ tw_46) rfl hK hP hD hS hA (fun _ => cx_zI) (by decide) (by decide) (by decide) (Nat.le_of_ble_eq_true rfl) (Nat.le_of_ble_eq_true rfl) dX1_init_18 (fun q18 c9 H hK9 hP hD hS => ?_)
  obtain rfl := cx_cAI hK9
  refine W.widen (k := 2) (n := 32) (Nat.le_of_ble_eq_true rfl) (Nat.le_of_ble_eq_true rfl) ?_
  have hP : va_P (dC, dI) vwCl [(zp, .inr (1, [.ref q11, .null, .int (nI 0)])), (q11, .inl (kI, 16, .inl (cI (fun _ => 0)))), (q18, .inl (kI, 16, .inl (cI (fun _ => 0))))] H := hP
  have hD : va_D AA [(zp, .inr (1, [.ref q11, .null, .int (nI 0)])), (q11, .inl (kI, 16, .inl (cI (fun _ => 0)))), (q18, .inl (kI, 16, .inl (cI (fun _ => 0))))] := hD
  refine va_putF (D := (dC, dI)) (ci := 1) (v := .ref q18) (ty := .array .int) (C := RX1) (T := TX1) (N := 3) hx hb hts (tb_c tbX1) tyX1 tyX1_ok nmX1 hown hK hP hD hS 0 rfl rfl 1 (by decide) (hw _ tw_56) (fun _ h9 => h9) rfl hin rfl (by decide +kernel) rfl rfl (Nat.le_of_ble_eq_true rfl) dX1_init_20 (fun H locs hP hD hS => ?_)
  have hP : va_P (dC, dI) vwCl [(zp, .inr (1, [.ref q11, .ref q18, .int (nI 0)])), (q11, .inl (kI, 16, .inl (cI (fun _ => 0)))), (q18, .inl (kI, 16, .inl (cI (fun _ => 0))))] H := hP
  have hD : va_D AA [(zp, .inr (1, [.ref q11, .ref q18, .int (nI 0)])), (q11, .inl (kI, 16, .inl (cI (fun _ => 0)))), (q18, .inl (kI, 16, .inl (cI (fun _ => 0))))] := hD
  have hP9 := hP.sub (ws' := [(zp, .inr (1, [.ref q11, .ref q18, .int (nI 0)])), (q11, .inl (kI, 16, .inl (cI (fun _ => 0)))), (q18, .inl (kI, 16, .inl (cI (fun _ => 0))))]) [0, 1, 2] rfl
  have hD9 := hD.sub (ws' := [(zp, .inr (1, [.ref q11, .ref q18, .int (nI 0)])), (q11, .inl (kI, 16, .inl (cI (fun _ => 0)))), (q18, .inl (kI, 16, .inl (cI (fun _ => 0))))]) [0, 1, 2] (by decide) rfl
  exact W.vret hx hb hr (fun t ht hW => ⟨⟨(q11, q18), rfl, trivial, by rw [ht]; exact hP9, hD9⟩, hS.F ht⟩) hS.2.2 dX1_init_23
