set_option maxHeartbeats 4000000 in
set_option maxRecDepth 100000 in
theorem c_X4_init (l : Launch) (dC : Nat → ClassId) (dI : Nat → Nat → Nat) (kI kL : ClassId) (zw : Nat) (sz : Nat) : Met l yX4_init (.code yX4_init cX4_init 1 none :: tbw) { frames := 1, cells := 1, slots := 40, locals := 20 } (va_Pc [.ref zw] (cx_M (dC, dI) vwCl [(zw, .inr (4, [.null]))] [(kI, .int), (kL, .long)] sz)) (va_Qv (fun (u : Nat) => True) (cx_B (dC, dI) vwCl (va_A [(zw, .inr (4, [.null]))] sz) (fun u : Nat => [(zw, .inr (4, [.ref u])), (u, .inl (kL, 40, .inr (.inl (cL (fun _ => 0)))))])) (va_A [(zw, .inr (4, [.null]))] sz)) 1 40 (va_A [(zw, .inr (4, [.null]))] sz) := by
  refine Met.ofW (cc := cX4_init) (maxL := 1) (ret := none) (by decide) rfl ?_
  intro p e s m args below meth c s₁ B hml hv
  obtain ⟨rfl, hsz, hP, hK, hD0⟩ := hv
  have hx := B.exec
  have hb := B.bytes
  have hr := B.returns
  have hts := atoms_spec (ws := .code yX4_init cX4_init 1 none :: tbw) B.pre
  have hw : ∀ w ∈ tbw, w.before _ s = true := fun w h => hts w (List.mem_cons_of_mem _ h)
  have hown : s.vm.findClass RX4 = some m.cls := findClass_of_methodNamed B.named
  have hin : meth.name = "<init>" := (name_of_methodNamed B.named B.method).1
  subst hsz
  have hD := hD0.self (sz := s.heap.size)
  generalize hAe : va_A [(zw, .inr (4, [.null]))] s.heap.size = AA at hD ⊢
  have hA : ∀ q : Nat, s.heap.size ≤ q → AA q := fun q h => by rw [← hAe]; exact Or.inr h
  have hS : va_S AA s.heap s.heap [] := va_S.rf
  have hP : va_P (dC, dI) vwCl [(zw, .inr (4, [.null]))] s.heap := hP
  have hl := lv_entry ([.ref zw]) (n := 1) (Nat.le_of_ble_eq_true rfl)
  rw [lg_entry_eq]
  generalize (lg_sl ([.ref zw]) ++ List.replicate (1 - (lg_sl ([.ref zw])).length) Slot.unset).toArray = ls at hl ⊢
  have hl : lv_has ls 1 [(0, .ref zw)] := hl
  refine lv_aload_n hx hb dX4_init_0 rfl (lv_at hl 0 rfl) ?_
  refine W.objInit hx hb hown (hw _ tw_109) (hw _ tw_16) (hw _ tw_17) rfl (by rw [hml]; exact hl.1) rfl dX4_init_1 (Nat.le_of_ble_eq_true rfl) (Nat.le_of_ble_eq_true rfl) ?_
  refine W.eq (g2 := F0 m 4 ls []) rfl ?_
  refine lv_aload_n hx hb dX4_init_4 rfl (lv_at hl 0 rfl) ?_
  refine lv_bipush (v := nI 40) hx hb dX4_init_5 (by decide) ?_
  refine va_newa (atype := .long) (ty := .long) (n := nI 40) (a0 := (40, .inr (.inl (cL (fun _ => 0))))) (N' := 40) hx hb (hw _ tw_114) rfl hK hP hD hS hA (fun _ => cx_zL) (by decide) (by decide) (by decide) (Nat.le_of_ble_eq_true rfl) (Nat.le_of_ble_eq_true rfl) dX4_init_7 (fun q7 c9 H hK9 hP hD hS => ?_)
  obtain rfl := cx_cAL hK9
  refine W.widen (k := 1) (n := 40) (Nat.le_of_ble_eq_true rfl) (Nat.le_of_ble_eq_true rfl) ?_
  have hP : va_P (dC, dI) vwCl [(zw, .inr (4, [.null])), (q7, .inl (kL, 40, .inr (.inl (cL (fun _ => 0)))))] H := hP
  have hD : va_D AA [(zw, .inr (4, [.null])), (q7, .inl (kL, 40, .inr (.inl (cL (fun _ => 0)))))] := hD
  refine va_putF (D := (dC, dI)) (ci := 4) (v := .ref q7) (ty := .array .long) (C := RX4) (T := TX4) (N := 1) hx hb hts (tb_c tbX4) tyX4 tyX4_ok nmX4 hown hK hP hD hS 0 rfl rfl 0 (by decide) (hw _ tw_110) (fun _ h9 => h9) rfl hin rfl (by decide +kernel) rfl rfl (Nat.le_of_ble_eq_true rfl) dX4_init_9 (fun H locs hP hD hS => ?_)
  have hP : va_P (dC, dI) vwCl [(zw, .inr (4, [.ref q7])), (q7, .inl (kL, 40, .inr (.inl (cL (fun _ => 0)))))] H := hP
  have hD : va_D AA [(zw, .inr (4, [.ref q7])), (q7, .inl (kL, 40, .inr (.inl (cL (fun _ => 0)))))] := hD
  have hP9 := hP.sub (ws' := [(zw, .inr (4, [.ref q7])), (q7, .inl (kL, 40, .inr (.inl (cL (fun _ => 0)))))]) [0, 1] rfl
  have hD9 := hD.sub (ws' := [(zw, .inr (4, [.ref q7])), (q7, .inl (kL, 40, .inr (.inl (cL (fun _ => 0)))))]) [0, 1] (by decide) rfl
  exact W.vret hx hb hr (fun t ht hW => ⟨⟨q7, rfl, trivial, by rw [ht]; exact hP9, hD9⟩, hS.F ht⟩) hS.2.2 dX4_init_12
