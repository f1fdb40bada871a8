set_option maxHeartbeats 4000000 in
set_option maxRecDepth 100000 in
theorem c_X6_equations (l : Launch) (dC : Nat → ClassId) (dI : Nat → Nat → Nat) (kI kL : ClassId) (ma : Nat) (m1 : Nat) (m2 : Nat) (m3 : Nat) (m4 : Nat) (m5 : Nat) (m6 : Nat) (m7 : Nat) (m8 : Nat) (m9 : Nat) (mA : Nat) (mB : Nat) (mC : Nat) (n : Nat) (k : Nat) (d : Nat) (dp : Nat) : Met l yX6_equations (.code yX6_equations cX6_equations 1 (some .int) :: tbw) { frames := 0, cells := 0, slots := 0, locals := 0 } (va_Pc [.ref ma] (cx_R (dC, dI) vwCl [(ma, .inr (6, [.int (nI n), .ref m1, .ref m2, .ref m3, .int (nI k), .ref m4, .ref m5, .int (nI d), .ref m6, .ref m7, .int (nI dp), .ref m8, .ref m9, .ref mA, .ref mB, .ref mC]))] [(kI, .int), (kL, .long)])) (vp_Si (fun r => r = nI k)) 0 0 (fun _ => False) := by
  refine Met.ofW (cc := cX6_equations) (maxL := 1) (ret := (some .int)) (by decide) rfl ?_
  intro p e s m args below meth c s₁ B hml hv
  obtain ⟨rfl, hP, hK⟩ := hv
  have hx := B.exec
  have hb := B.bytes
  have hr := B.returns
  have hts := atoms_spec (ws := .code yX6_equations cX6_equations 1 (some .int) :: tbw) B.pre
  have hw : ∀ w ∈ tbw, w.before _ s = true := fun w h => hts w (List.mem_cons_of_mem _ h)
  have hown : s.vm.findClass RX6 = some m.cls := findClass_of_methodNamed B.named
  have hP : va_P (dC, dI) vwCl [(ma, .inr (6, [.int (nI n), .ref m1, .ref m2, .ref m3, .int (nI k), .ref m4, .ref m5, .int (nI d), .ref m6, .ref m7, .int (nI dp), .ref m8, .ref m9, .ref mA, .ref mB, .ref mC]))] s.heap := hP
  have hl := lv_entry ([.ref ma]) (n := 1) (Nat.le_of_ble_eq_true rfl)
  rw [lg_entry_eq]
  generalize (lg_sl ([.ref ma]) ++ List.replicate (1 - (lg_sl ([.ref ma])).length) Slot.unset).toArray = ls at hl ⊢
  have hl : lv_has ls 1 [(0, .ref ma)] := hl
  refine lv_aload_n hx hb dX6_equations_0 rfl (lv_at hl 0 rfl) ?_
  refine va_get (D := (dC, dI)) (ci := 6) (v := .int (nI k)) (C := RX6) (T := TX6) (N := 16) hx hb hts (tb_c tbX6) hown hK hP 0 rfl rfl 4 (by decide) (hw _ tw_345) (fun _ h9 => h9) rfl dX6_equations_1 ?_
  exact W.iret (v := nI k) hx hb hr (fun t ht hW => ⟨_, rfl, rfl, ht⟩) (fun _ h9 => by cases h9) dX6_equations_4
