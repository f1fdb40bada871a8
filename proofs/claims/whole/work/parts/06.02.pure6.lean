/-! raw numbers of the script: terms, arguments, shapes -/
abbrev cx_T (n : Nat) (x : Int32) : Prop := 0 ≤ x ∧ x < nI n
abbrev cx_sh (n : Nat) (sy a b : Int32) : Prop := (0 ≤ sy ∧ sy < nI 16) ∧ ((a = -1 ∧ b = -1) ∨ (cx_T n a ∧ (b = -1 ∨ cx_T n b)))
def cx_n (x : Int32) : Nat := x.toNatClampNeg
/-- the code of an argument -/
def cx_c (x : Int32) : Nat := if x = -1 then 0 else cx_n x + 1
theorem cx_n_n {x : Nat} (h : x < 2 ^ 31) : cx_n (nI x) = x := nI_clamp h
theorem cx_c_a {x : Nat} (h : x ≤ 2 ^ 31) : cx_c (aI x) = x := by
  unfold cx_c
  by_cases e : x = 0
  · subst e; rfl
  · rw [if_neg (fun q => e ((aI_0 h).mp q)), aI_p e, cx_n_n (by omega)]
    omega
theorem cx_T_x {n : Nat} {x : Int32} (hn : n ≤ 40) (h : cx_T n x) : ∃ y, y < n ∧ x = nI y := by
  have h2 : x = nI (cx_n x) := by
    apply Int32.toInt_inj.mp
    have a : (0 : Int) ≤ x.toInt := Int32.le_iff_toInt_le.mp h.1
    have b : x.toInt < (nI n).toInt := Int32.lt_iff_toInt_lt.mp h.2
    rw [nI_toInt (by omega)] at b
    unfold cx_n
    have e : (x.toNatClampNeg : Int) = x.toInt := by
      rw [Int32.toNatClampNeg]
      omega
    rw [nI_toInt (by omega)]
    exact e.symm
  have h3 : cx_n x < n := by
    have b : x.toInt < (nI n).toInt := Int32.lt_iff_toInt_lt.mp h.2
    have a : (0 : Int) ≤ x.toInt := Int32.le_iff_toInt_le.mp h.1
    rw [nI_toInt (by omega)] at b
    unfold cx_n
    rw [Int32.toNatClampNeg]
    omega
  exact ⟨cx_n x, h3, h2⟩
theorem cx_T_n {n y : Nat} (hn : n ≤ 40) (h : y < n) : cx_T n (nI y) := ⟨nI_pos' (by omega), (nI_ltI (by omega) (by omega)).mpr h⟩
theorem cx_A_x {n : Nat} {x : Int32} (hn : n ≤ 40) (h : x = -1 ∨ cx_T n x) : ∃ y, y ≤ n ∧ x = aI y := by
  rcases h with h | h
  · exact ⟨0, Nat.zero_le _, h⟩
  · obtain ⟨y, h1, h2⟩ := cx_T_x hn h
    exact ⟨y + 1, h1, h2⟩
theorem cx_Ty {n : Nat} {x : Int32} (b0 : ¬ x < 0) (b1 : ¬ nI n ≤ x) : cx_T n x := ⟨Int32.not_lt.mp b0, Int32.not_le.mp b1⟩
theorem cx_Tn1 {n : Nat} {x : Int32} (b0 : x < 0) : ¬ cx_T n x := fun h => absurd b0 (Int32.not_lt.mpr h.1)
theorem cx_Tn2 {n : Nat} {x : Int32} (b0 : nI n ≤ x) : ¬ cx_T n x := fun h => absurd h.2 (Int32.not_lt.mpr b0)
theorem cx_sh1 {n : Nat} {sy a b : Int32} (b0 : sy < 0) : ¬ cx_sh n sy a b := fun h => absurd b0 (Int32.not_lt.mpr h.1.1)
theorem cx_sh2 {n : Nat} {sy a b : Int32} (b1 : ¬ sy < nI 16) : ¬ cx_sh n sy a b := fun h => b1 h.1.2
theorem cx_sh3 {n : Nat} {sy a b : Int32} (b0 : ¬ sy < 0) (b1 : sy < nI 16) (b2 : a = -1) (b3 : b = -1) : cx_sh n sy a b := ⟨⟨Int32.not_lt.mp b0, b1⟩, Or.inl ⟨b2, b3⟩⟩
theorem cx_m1_T {n : Nat} : ¬ cx_T n (-1) := fun h => absurd h.1 (by decide)
theorem cx_sh4 {n : Nat} {sy a b : Int32} (b2 : a = -1) (b3 : ¬ b = -1) : ¬ cx_sh n sy a b := fun h => h.2.elim (fun z => b3 z.2) (fun z => cx_m1_T (b2 ▸ z.1))
theorem cx_sh5 {n : Nat} {sy a b : Int32} (b0 : ¬ sy < 0) (b1 : sy < nI 16) (b4 : cx_T n a) (b5 : b = -1 ∨ cx_T n b) : cx_sh n sy a b := ⟨⟨Int32.not_lt.mp b0, b1⟩, Or.inr ⟨b4, b5⟩⟩
theorem cx_sh6 {n : Nat} {sy a b : Int32} (b2 : ¬ a = -1) (b4 : ¬ cx_T n a) : ¬ cx_sh n sy a b := fun h => h.2.elim (fun z => b2 z.1) (fun z => b4 z.1)
theorem cx_sh7 {n : Nat} {sy a b : Int32} (b2 : ¬ a = -1) (b5 : ¬ b = -1) (b6 : ¬ cx_T n b) : ¬ cx_sh n sy a b := fun h => h.2.elim (fun z => b2 z.1) (fun z => z.2.elim b5 b6)
/-- a shape's arguments, coded -/
theorem cx_sh_a {n : Nat} {sy a b : Int32} (h : cx_sh n sy a b) : (a = -1 ∨ cx_T n a) ∧ (b = -1 ∨ cx_T n b) := h.2.elim (fun z => ⟨Or.inl z.1, Or.inl z.2⟩) (fun z => ⟨Or.inr z.1, z.2⟩)
theorem cx_nof {p q r : Prop} {_ : Decidable p} {_ : Decidable q} {_ : Decidable r} (h1 : p) (h2 : q) (h3 : r) : (decide p && (decide q && decide r)) = true := by rw [decide_eq_true h1, decide_eq_true h2, decide_eq_true h3]; rfl
theorem cx_nof1 {p : Prop} {b : Bool} {_ : Decidable p} (h : ¬ p) : (decide p && b) = false := by rw [decide_eq_false h]; rfl
theorem cx_nof2 {p : Prop} {a b : Bool} {_ : Decidable p} (h : ¬ p) : (a && (decide p && b)) = false := by rw [decide_eq_false h, Bool.false_and, Bool.and_false]
theorem cx_nof3 {p : Prop} {a b : Bool} {_ : Decidable p} (h : ¬ p) : (a && (b && decide p)) = false := by rw [decide_eq_false h, Bool.and_false, Bool.and_false]
theorem cx_ars {f : Nat → Nat} {x y : Nat} : bI (decide (f x = f y)) = bI (decide (cg_ar f (x + 1) = cg_ar f (y + 1))) := by
  by_cases h : f x = f y
  · rw [decide_eq_true h, decide_eq_true (cg_ar_s.mpr h)]
  · rw [decide_eq_false h, decide_eq_false (fun z => h (cg_ar_s.mp z))]
