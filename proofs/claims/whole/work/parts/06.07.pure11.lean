/-! the reference's weights: 0 for not known -/
def wz (x : Nat) : Nat := if x = 2 ^ 60 then 0 else x
def rs (T : cg_T) (L h : Nat → Nat) (t : Nat) : Nat := if (¬ T.2.1 t = 0 ∧ wt_a L h (T.2.1 t) = 0) ∨ (¬ T.2.2 t = 0 ∧ wt_a L h (T.2.2 t) = 0) then 0 else 1 + wt_a L h (T.2.1 t) + wt_a L h (T.2.2 t)
section RS
variable {T : cg_T} {L h w : Nat → Nat} {n t : Nat}
theorem rs_0 (q : (¬ T.2.1 t = 0 ∧ wt_a L h (T.2.1 t) = 0) ∨ (¬ T.2.2 t = 0 ∧ wt_a L h (T.2.2 t) = 0)) : 0 = rs T L h t := (if_pos q).symm
theorem rs_1 (q1 : T.2.1 t = 0 ∨ ¬ wt_a L h (T.2.1 t) = 0) (q2 : T.2.2 t = 0 ∨ ¬ wt_a L h (T.2.2 t) = 0) : 1 + wt_a L h (T.2.1 t) + wt_a L h (T.2.2 t) = rs T L h t := (if_neg (fun z => z.elim (fun e => q1.elim e.1 (fun q => q e.2)) (fun e => q2.elim e.1 (fun q => q e.2)))).symm
theorem wt_a_h (hL : ∀ u, u < n → L u < n) (hH : ∀ j, j < n → h j < 2 ^ 62) {x : Nat} (hx : x ≤ n) : wt_a L h x < 2 ^ 62 := by
  cases x with
  | zero => exact Nat.two_pow_pos 62
  | succ y => exact hH _ (hL y (by omega))
theorem ra (hL : ∀ u, u < n → L u < n) (hR : ∀ j, j < n → h j = wz (w j)) (hB : ∀ j, w j = 2 ^ 60 ∨ (1 ≤ w j ∧ w j < 2 ^ 40)) {x : Nat} (hx : x ≤ n) :
    (x = 0 ∧ wt_a L h x = 0 ∧ wt_a L w x = 0) ∨ (¬ x = 0 ∧ wt_a L h x = 0 ∧ wt_a L w x = 2 ^ 60) ∨ (¬ x = 0 ∧ 1 ≤ wt_a L h x ∧ wt_a L h x = wt_a L w x ∧ wt_a L w x < 2 ^ 40) := by
  cases x with
  | zero => exact Or.inl ⟨rfl, rfl, rfl⟩
  | succ y =>
    have e : wt_a L h (y + 1) = wz (w (L y)) := hR _ (hL y (by omega))
    have e2 : wt_a L w (y + 1) = w (L y) := rfl
    rw [e, e2]
    rcases hB (L y) with q | q
    · rw [q]
      exact Or.inr (Or.inl ⟨by omega, if_pos rfl, rfl⟩)
    · have z : wz (w (L y)) = w (L y) := if_neg (by omega)
      rw [z]
      exact Or.inr (Or.inr ⟨by omega, q.1, rfl, q.2⟩)
theorem rs_c (wf : cg_wf T n) (ht : t < n) (hL : ∀ u, u < n → L u < n) (hR : ∀ j, j < n → h j = wz (w j)) (hB : ∀ j, w j = 2 ^ 60 ∨ (1 ≤ w j ∧ w j < 2 ^ 40)) :
    (rs T L h t = 0 ∧ 2 ^ 60 ≤ wt_c T L w t) ∨ (rs T L h t = wt_c T L w t ∧ 0 < wt_c T L w t ∧ wt_c T L w t < 2 ^ 60) := by
  have a := wf t ht
  have r1 := ra (L := L) hL hR hB (x := T.2.1 t) (by omega)
  have r2 := ra (L := L) hL hR hB (x := T.2.2 t) (by omega)
  have ec : wt_c T L w t = 1 + wt_a L w (T.2.1 t) + wt_a L w (T.2.2 t) := rfl
  by_cases q : (¬ T.2.1 t = 0 ∧ wt_a L h (T.2.1 t) = 0) ∨ (¬ T.2.2 t = 0 ∧ wt_a L h (T.2.2 t) = 0)
  · have e : rs T L h t = 0 := if_pos q
    left
    refine ⟨e, ?_⟩
    rw [ec]
    omega
  · have e : rs T L h t = 1 + wt_a L h (T.2.1 t) + wt_a L h (T.2.2 t) := if_neg q
    right
    rw [e, ec]
    omega
theorem wz_60 : wz (2 ^ 60) = 0 := if_pos rfl
theorem wz_k {x : Nat} (h : x < 2 ^ 60) : wz x = x := if_neg (by omega)
/-- one term's step, both sides -/
theorem rs_y {p : cg_P} (wf : cg_wf T n) (ht : t < n) (hL : ∀ u, u < n → L u < n) (hR : ∀ j, j < n → h j = wz (p.1 j)) (hB : ∀ j, p.1 j = 2 ^ 60 ∨ (1 ≤ p.1 j ∧ p.1 j < 2 ^ 40)) (h1 : 0 < rs T L h t) (h2 : h (L t) = 0 ∨ rs T L h t < h (L t)) :
    (∀ j, j < n → wt_u h (L t) (rs T L h t) j = wz ((wt_s T L p t).1 j)) ∧ true = (wt_s T L p t).2 := by
  have hl := hR _ (hL t ht)
  rcases rs_c wf ht hL hR hB with c | c
  · omega
  · have lt : wt_c T L p.1 t < p.1 (L t) := by
      rcases hB (L t) with b | b
      · omega
      · rw [wz_k (by omega)] at hl
        omega
    have e : wt_s T L p t = (wt_u p.1 (L t) (wt_c T L p.1 t), true) := if_pos lt
    rw [e]
    refine ⟨fun j hj => ?_, rfl⟩
    show wt_u h (L t) (rs T L h t) j = wz (wt_u p.1 (L t) (wt_c T L p.1 t) j)
    by_cases q : j = L t
    · rw [q, wt_u_at, wt_u_at, c.1, wz_k c.2.2]
    · rw [wt_u_ne q, wt_u_ne q]
      exact hR j hj
theorem rs_n {p : cg_P} {ch : Bool} (wf : cg_wf T n) (ht : t < n) (hL : ∀ u, u < n → L u < n) (hR : ∀ j, j < n → h j = wz (p.1 j)) (hc : ch = p.2) (hB : ∀ j, p.1 j = 2 ^ 60 ∨ (1 ≤ p.1 j ∧ p.1 j < 2 ^ 40)) (h1 : rs T L h t ≤ 0 ∨ (¬ h (L t) = 0 ∧ h (L t) ≤ rs T L h t)) :
    (∀ j, j < n → h j = wz ((wt_s T L p t).1 j)) ∧ ch = (wt_s T L p t).2 := by
  have hl := hR _ (hL t ht)
  have nlt : ¬ wt_c T L p.1 t < p.1 (L t) := by
    rcases rs_c wf ht hL hR hB with c | c
    · rcases hB (L t) with b | b <;> omega
    · rcases hB (L t) with b | b
      · rw [b, wz_60] at hl
        omega
      · rw [wz_k (by omega)] at hl
        omega
  have e : wt_s T L p t = p := if_neg nlt
  rw [e]
  exact ⟨hR, hc⟩
/-- weights that are known -/
theorem wt_f_k (wf : cg_wf T n) (hL : ∀ u, u < n → L u < n) (hn : n ≤ 40) : ∀ u, u < n → wt_f T L n (L u) < 2 ^ 60 := by
  intro u hu
  have a := wt_y_lt wf (wt_fin wf hL hn).1 u hu
  exact Nat.lt_of_lt_of_le a (Nat.pow_le_pow_right (by decide) (by omega))
theorem wt_f_h (wf : cg_wf T n) (hL : ∀ u, u < n → L u < n) (hn : n ≤ 40) (hR : ∀ j, j < n → h j = wz (wt_f T L n j)) : ∀ u, u < n → h (L u) = wt_f T L n (L u) := fun u hu => by rw [hR _ (hL u hu), wz_k (wt_f_k wf hL hn u hu)]
theorem wt_a_k (wf : cg_wf T n) (hL : ∀ u, u < n → L u < n) (hn : n ≤ 40) (hR : ∀ j, j < n → h j = wz (wt_f T L n j)) {x : Nat} (hx : x ≤ n) : wt_a L h x = wt_a L (wt_f T L n) x := by
  cases x with
  | zero => rfl
  | succ y => exact wt_f_h wf hL hn hR y (by omega)
theorem rs_k (wf : cg_wf T n) (hL : ∀ u, u < n → L u < n) (hn : n ≤ 40) (hR : ∀ j, j < n → h j = wz (wt_f T L n j)) (ht : t < n) : rs T L h t = wt_c T L (wt_f T L n) t := by
  rcases rs_c wf ht hL hR (wt_i_B (T := T) (L := L) wf hn n).2 with c | c
  · have a := wf t ht
    have ar : ∀ x, x ≤ t → wt_a L (wt_f T L n) x < 2 ^ t := fun x hx => wt_a_lt (fun u hu => wt_y_lt wf (wt_fin wf hL hn).1 u (by omega)) hx
    have b1 := ar _ a.1
    have b2 := ar _ a.2
    have b3 : 2 ^ t ≤ 2 ^ 40 := Nat.pow_le_pow_right (by decide) (by omega)
    have ec : wt_c T L (wt_f T L n) t = 1 + wt_a L (wt_f T L n) (T.2.1 t) + wt_a L (wt_f T L n) (T.2.2 t) := rfl
    have := c.2
    omega
  · exact c.1
theorem rs_lt (hL : ∀ u, u < n → L u < n) (hH : ∀ j, j < n → h j < 2 ^ 62) (wf : cg_wf T n) (ht : t < n) : rs T L h t < 2 ^ 63 := by
  have a := wf t ht
  have b1 := wt_a_h (L := L) hL hH (x := T.2.1 t) (by omega)
  have b2 := wt_a_h (L := L) hL hH (x := T.2.2 t) (by omega)
  unfold rs
  split <;> omega
theorem wz_lt {x : Nat} (h : x ≤ 2 ^ 60) : wz x < 2 ^ 62 := by
  unfold wz
  split <;> omega
theorem wt_o_u2 {p : cg_P} (hp : ∀ j, p.1 j ≤ 2 ^ 60) (v : Nat) : ∀ j, (wt_o T L p v).1 j ≤ 2 ^ 60 := fun j => Nat.le_trans (wt_o_l0 v j) (hp j)
end RS
