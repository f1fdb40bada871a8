theorem lw_sw (x : Int32) : ∃ j, j < 32 ∧ x &&& nI 31 = nI j := by
  refine ⟨(x &&& nI 31).toNatClampNeg, ?_⟩
  have hb : (x &&& nI 31).toBitVec = x.toBitVec &&& 31#32 := rfl
  have h1 : (x.toBitVec &&& 31#32).toNat < 32 := by
    rw [BitVec.toNat_and]
    exact Nat.lt_of_le_of_lt Nat.and_le_right (by decide)
  have h2 : (x &&& nI 31).toInt = ((x.toBitVec &&& 31#32).toNat : Int) := by
    show (x &&& nI 31).toBitVec.toInt = _
    rw [hb, BitVec.toInt_eq_toNat_of_lt (by omega)]
  have h3 : (x &&& nI 31).toNatClampNeg = (x.toBitVec &&& 31#32).toNat := by
    rw [Int32.toNatClampNeg, h2]; rfl
  refine ⟨by omega, Int32.toInt_inj.mp ?_⟩
  rw [nI_toInt (by omega), h2, h3]
theorem lw_le {L v : Nat} (hL : L ≤ 2048) (hv : v ≤ L + 3) (h : ¬ nI L - nI 4 < nI v) : v + 4 ≤ L := by
  have a : ¬ (nI L - nI 4).toInt < (nI v).toInt := fun q => h (Int32.lt_iff_toInt_lt.mpr q)
  rw [pk_sub_toInt (by omega) (by decide), nI_toInt (by omega)] at a
  omega
theorem lw_toInt {j : Nat} (h : j < 32) : (nI j).toInt = (j : Int) := nI_toInt (by omega)
theorem lw_known {s : State} {a : Array Value} (hts : ∀ w ∈ tbw, w.before a s = true) : ∃ (dC : Nat → ClassId) (dI : Nat → Nat → Nat) (kI kL : ClassId), va_K (dC, dI) vwCl [(kI, .int), (kL, .long)] s := by
  obtain ⟨c0, i0, h0⟩ := u_known (C := RX0) (T := TX0) (N := 4) hts tbX0 (hts _ tw_70)
  obtain ⟨c1, i1, h1⟩ := u_known (C := RX1) (T := TX1) (N := 3) hts tbX1 (hts _ tw_48)
  obtain ⟨c2, i2, h2⟩ := u_known (C := RX2) (T := TX2) (N := 1) hts tbX2 (hts _ tw_93)
  obtain ⟨c3, i3, h3⟩ := u_known (C := RX3) (T := TX3) (N := 4) hts tbX3 (hts _ tw_19)
  obtain ⟨c4, i4, h4⟩ := u_known (C := RX4) (T := TX4) (N := 1) hts tbX4 (hts _ tw_105)
  obtain ⟨c5, i5, h5⟩ := u_known (C := RX5) (T := TX5) (N := 7) hts tbX5 (hts _ tw_11)
  obtain ⟨c6, i6, h6⟩ := u_known (C := RX6) (T := TX6) (N := 16) hts tbX6 (hts _ tw_336)
  obtain ⟨kI, kA, comp, g1, g2, g3⟩ := Cond.arrayClass_spec (hts (.arrayClass .int) tw_46)
  obtain ⟨kL, kB, comq, f1, f2, f3⟩ := Cond.arrayClass_spec (hts (.arrayClass .long) tw_114)
  refine ⟨fun k => match k with | 0 => c0 | 1 => c1 | 2 => c2 | 3 => c3 | 4 => c4 | 5 => c5 | _ => c6, fun k => match k with | 0 => i0 | 1 => i1 | 2 => i2 | 3 => i3 | 4 => i4 | 5 => i5 | _ => i6, kI, kL, fun c q hq => ?_, fun k q hq => ?_⟩
  · match c, hq with
    | 0, hq =>
      obtain rfl : (RX0, TX0, 4) = q := Option.some.inj hq
      exact h0
    | 1, hq =>
      obtain rfl : (RX1, TX1, 3) = q := Option.some.inj hq
      exact h1
    | 2, hq =>
      obtain rfl : (RX2, TX2, 1) = q := Option.some.inj hq
      exact h2
    | 3, hq =>
      obtain rfl : (RX3, TX3, 4) = q := Option.some.inj hq
      exact h3
    | 4, hq =>
      obtain rfl : (RX4, TX4, 1) = q := Option.some.inj hq
      exact h4
    | 5, hq =>
      obtain rfl : (RX5, TX5, 7) = q := Option.some.inj hq
      exact h5
    | 6, hq =>
      obtain rfl : (RX6, TX6, 16) = q := Option.some.inj hq
      exact h6
    | n + 7, hq => exact absurd (show (none : Option vw_C) = some q from hq) (by intro h; cases h)
  · match k, hq with
    | 0, hq =>
      obtain rfl : (kI, FieldType.int) = q := Option.some.inj hq
      exact ⟨fun n z => ⟨fun k h => (by cases h), kA, g2, comp, g3⟩, g1⟩
    | 1, hq =>
      obtain rfl : (kL, FieldType.long) = q := Option.some.inj hq
      exact ⟨fun n z => ⟨fun k h => (by cases h), kB, f2, comq, f3⟩, f1⟩
    | n + 2, hq => exact absurd (show (none : Option (ClassId × FieldType)) = some q from hq) (by intro h; cases h)
