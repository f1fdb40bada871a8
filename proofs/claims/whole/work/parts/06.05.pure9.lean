/-! choices: all below, all but one, and those kept -/
theorem cx_sub1 {x : Nat} : nI x - nI 1 = aI x := by
  cases x with
  | zero => decide
  | succ k => exact pk_sub (by omega)
section CH
variable {S : Nat → Int32} {F E lf rt : Nat → Nat} {n k i j : Nat}
theorem cg_J_ex {C D : Nat → Bool} (h : ∀ v, v < k → C v = D v) : cg_J S F E n lf rt k i j C = cg_J S F E n lf rt k i j D := by
  unfold cg_J
  rw [cg_lab_ex h]
theorem cg_J_ab {v : Nat} (hv : v ≤ 24) (hk : k ≤ 24) : cg_J S F E n lf rt k i j (bt (cb_ab v)) = cg_J S F E n lf rt k i j (fun u => decide (u < v)) := cg_J_ex (fun u hu => cb_ab_b v (by omega) u (by omega))
theorem cg_J_or {x : Int32} {v : Nat} (hv : v ≤ 24) (hk : k ≤ 24) : cg_J S F E n lf rt k i j (bt (x ||| cb_ab v)) = cg_J S F E n lf rt k i j (cg_bw x v) := cg_J_ex (fun u hu => by rw [b_or, cb_ab_b v (by omega) u (by omega)]; rfl)
theorem cg_J_nt {v : Nat} (hv : v < k) (hk : k ≤ 24) : cg_J S F E n lf rt k i j (bt (cb_ab k &&& ((nI 1 <<< (nI v &&& 31)) ^^^ (-1)))) = cg_J S F E n lf rt k i j (fun u => !decide (u = v)) := cg_J_ex (fun u hu => by
  rw [b_and, b_xor, cb_ab_b k (by omega) u (by omega), cb_one (by omega) (by omega), b_m1 u (by omega), decide_eq_true hu, Bool.true_and, Bool.xor_true])
theorem cg_J_all {f : Nat → Nat} (hf : ∀ z, z < n → f z = cg_LA S F E n lf rt k z) (hi : i < n) (hj : j < n) : decide (f i = f j) = cg_J S F E n lf rt k i j (fun _ => true) := by
  rw [hf i hi, hf j hj]; rfl
theorem cg_xp_1 {J : (Nat → Bool) → Bool} {x z : Int32} {q : Nat} (h : cg_xp J (q + 1) x = z) (hj : J (cg_bw x q) = true) : cg_xp J q x = z := by
  rw [← h]
  exact (if_pos hj).symm
theorem cg_xp_0 {J : (Nat → Bool) → Bool} {x z : Int32} {q : Nat} (h : cg_xp J (q + 1) x = z) (hj : J (cg_bw x q) = false) : cg_xp J q (x ||| (nI 1 <<< (nI q &&& 31))) = z := by
  rw [← h]
  exact (if_neg (by rw [hj]; decide)).symm
theorem an_since_b {x y : Int32} (h : ¬ (cx_T n x ∧ cx_T n y)) : -2 = an_since n S F E k lf rt x y := (if_neg h).symm
theorem an_since_y {v : Nat} (hn : n ≤ 40) (hi : i < n) (hj : j < n) (hno : ∀ u, u < v → cg_J S F E n lf rt k i j (fun z => decide (z < u)) = false) (h : cg_J S F E n lf rt k i j (fun z => decide (z < v)) = true) (hv : v ≤ k) : nI v = an_since n S F E k lf rt (nI i) (nI j) := by
  unfold an_since
  rw [if_pos (cx_T2 hn hi hj), cx_nn hn hi, cx_nn hn hj]
  exact congrArg aI (cg_sr_y (P := fun q => cg_J S F E n lf rt k i j (fun z => decide (z < q))) hno h (by omega))
theorem an_since_n {v : Nat} (hn : n ≤ 40) (hi : i < n) (hj : j < n) (hno : ∀ u, u < v → cg_J S F E n lf rt k i j (fun z => decide (z < u)) = false) (hv : k < v) : -1 = an_since n S F E k lf rt (nI i) (nI j) := by
  unfold an_since
  rw [if_pos (cx_T2 hn hi hj), cx_nn hn hi, cx_nn hn hj]
  exact congrArg aI (cg_sr_n (P := fun q => cg_J S F E n lf rt k i j (fun z => decide (z < q))) hno (by omega))
theorem cg_sn_s {v : Nat} (hno : ∀ u, u < v → cg_J S F E n lf rt k i j (fun z => decide (z < u)) = false) (h : cg_J S F E n lf rt k i j (fun z => decide (z < v)) = false) : ∀ u, u < v + 1 → cg_J S F E n lf rt k i j (fun z => decide (z < u)) = false := cg_sr_s (P := fun q => cg_J S F E n lf rt k i j (fun z => decide (z < q))) hno h
theorem an_expl_b {x y : Int32} (h : ¬ (cx_T n x ∧ cx_T n y)) : -2 = an_expl n S F E k lf rt x y := (if_neg h).symm
theorem an_expl_n (hn : n ≤ 40) (hi : i < n) (hj : j < n) (h : cg_J S F E n lf rt k i j (fun _ => true) = false) : -1 = an_expl n S F E k lf rt (nI i) (nI j) := by
  unfold an_expl
  rw [if_pos (cx_T2 hn hi hj), cx_nn hn hi, cx_nn hn hj, if_neg (by rw [h]; decide)]
theorem an_expl_y (hn : n ≤ 40) (hi : i < n) (hj : j < n) (h : cg_J S F E n lf rt k i j (fun _ => true) = true) {x : Int32} (hx : x = cg_xp (cg_J S F E n lf rt k i j) k 0) : x = an_expl n S F E k lf rt (nI i) (nI j) := by
  unfold an_expl
  rw [if_pos (cx_T2 hn hi hj), cx_nn hn hi, cx_nn hn hj, if_pos h]
  exact hx
theorem an_need_b {x y : Int32} (h : ¬ (cx_T n x ∧ cx_T n y)) : -2 = an_need n S F E k lf rt x y := (if_neg h).symm
theorem an_need_n (hn : n ≤ 40) (hi : i < n) (hj : j < n) (h : cg_J S F E n lf rt k i j (fun _ => true) = false) : -1 = an_need n S F E k lf rt (nI i) (nI j) := by
  unfold an_need
  rw [if_pos (cx_T2 hn hi hj), cx_nn hn hi, cx_nn hn hj, if_neg (by rw [h]; decide)]
theorem an_need_y {v : Nat} (hn : n ≤ 40) (hi : i < n) (hj : j < n) (h : cg_J S F E n lf rt k i j (fun _ => true) = true) {x : Int32} (hx : x = cg_nd (fun z => cg_J S F E n lf rt k i j (fun u => !decide (u = z))) v) (hv : v = k) : x = an_need n S F E k lf rt (nI i) (nI j) := by
  unfold an_need
  rw [if_pos (cx_T2 hn hi hj), cx_nn hn hi, cx_nn hn hj, if_pos h, hx, hv]
end CH
section WA
variable {T : cg_T} {f : Nat → Nat} {n i : Nat}
theorem an_weight_b {x : Int32} (h : ¬ cx_T n x) : lN 0 = an_weight n T f x := (if_neg h).symm
theorem an_weight_y (hn : n ≤ 40) (hi : i < n) : lN (wt_f T f n (f i)) = an_weight n T f (nI i) := by
  unfold an_weight
  rw [if_pos (cx_T_n hn hi), cx_nn hn hi]
theorem an_best_b {x : Int32} (h : ¬ cx_T n x) : -2 = an_best n T f x := (if_neg h).symm
theorem an_best_y (hn : n ≤ 40) (hi : i < n) : nI (wt_b T f n i) = an_best n T f (nI i) := by
  unfold an_best
  rw [if_pos (cx_T_n hn hi), cx_nn hn hi]
theorem an_written_b {x z : Int32} (h : ¬ cx_T n x) : -2 = an_written n T f x z := (if_neg h).symm
theorem an_written_m (hn : n ≤ 40) (hi : i < n) {z : Int32} (h : z < 0) : -1 = an_written n T f (nI i) z := by
  unfold an_written
  rw [if_pos (cx_T_n hn hi), if_neg (fun q => absurd h (Int32.not_lt.mpr q.1))]
theorem an_written_n (hn : n ≤ 40) (hi : i < n) {z : Nat} (hz : z < 2 ^ 31) (h : wt_f T f n (f i) ≤ z) : -1 = an_written n T f (nI i) (nI z) := by
  unfold an_written
  rw [if_pos (cx_T_n hn hi), cx_nn hn hi, cx_n_n hz, if_neg (fun q => absurd q.2 (by omega))]
theorem an_written_y (hn : n ≤ 40) (hi : i < n) {z : Nat} (hz : z < 2 ^ 31) (h : z < wt_f T f n (f i)) : wt_y4 T f n i z = an_written n T f (nI i) (nI z) := by
  unfold an_written
  rw [if_pos (cx_T_n hn hi), cx_nn hn hi, cx_n_n hz, if_pos ⟨nI_pos' hz, h⟩]
theorem cx_pos_x {z : Int32} (h : ¬ z < 0) : ∃ y, y < 2 ^ 31 ∧ z = nI y := by
  have a : (0 : Int) ≤ z.toInt := Int32.le_iff_toInt_le.mp (Int32.not_lt.mp h)
  have b := Int32.toInt_lt z
  refine ⟨z.toInt.toNat, by omega, Int32.toInt_inj.mp ?_⟩
  rw [nI_toInt (by omega)]
  omega
/-- a step down -/
theorem wt_w_s {q : Nat × Nat} {r x y : Nat} (h : (x, y) = wt_w T f n q r) : wt_n T f n (x, y) = wt_w T f n q (r + 1) := by
  show _ = wt_n T f n (wt_w T f n q r)
  rw [← h]
theorem wt_n_r {x y : Nat} (h0 : 0 < y) (c : wt_a f (wt_f T f n) (T.2.1 x) ≤ y - 1) : wt_n T f n (x, y) = (wt_b T f n (T.2.2 x - 1), y - 1 - wt_a f (wt_f T f n) (T.2.1 x)) := by
  unfold wt_n
  rw [if_neg (by show ¬ y = 0; omega), if_pos c]
theorem wt_n_l {x y : Nat} (h0 : 0 < y) (c : ¬ wt_a f (wt_f T f n) (T.2.1 x) ≤ y - 1) : wt_n T f n (x, y) = (wt_b T f n (T.2.1 x - 1), y - 1) := by
  unfold wt_n
  rw [if_neg (by show ¬ y = 0; omega), if_neg c]
theorem wt_y4_e {q : Nat × Nat} {r x y : Nat} (wf : cg_wf T n) (hL : ∀ t, t < n → f t < n) (hn : n ≤ 40) (g : wt_g T f n q) (h : (x, y) = wt_w T f n q r) (he : y = 0 ∨ 40 ≤ r) : T.1 x = T.1 (wt_w T f n q 40).1 := by
  have e := wt_w_e wf hL hn g (r := r) (by rw [← h]; exact he)
  rw [← e, ← h]
theorem cx_fill_s {g : Nat → Nat} {v y : Nat} (h : ∀ u, u < v → g u = y) : ∀ u, u < v + 1 → wt_u g v y u = y := by
  intro u hu
  unfold wt_u
  by_cases e : u = v
  · rw [if_pos e]
  · rw [if_neg e]; exact h u (by omega)
end WA
