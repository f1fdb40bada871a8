/-! how each answer comes out -/
theorem cx_T2 {n i j : Nat} (hn : n ≤ 40) (hi : i < n) (hj : j < n) : cx_T n (nI i) ∧ cx_T n (nI j) := ⟨cx_T_n hn hi, cx_T_n hn hj⟩
theorem cx_nn {n i : Nat} (hn : n ≤ 40) (hi : i < n) : cx_n (nI i) = i := cx_n_n (by omega)
theorem cg_sr_le (P : Nat → Bool) (n : Nat) : cg_sr P n ≤ n := by
  unfold cg_sr
  split <;> omega
theorem an_equal_b {n : Nat} {f : Nat → Nat} {x y : Int32} (h : ¬ (cx_T n x ∧ cx_T n y)) : -2 = an_equal n f x y := (if_neg h).symm
theorem an_equal_y {n i j : Nat} {f : Nat → Nat} (hn : n ≤ 40) (hi : i < n) (hj : j < n) (h : f i = f j) : nI 1 = an_equal n f (nI i) (nI j) := by
  unfold an_equal
  rw [if_pos (cx_T2 hn hi hj), cx_nn hn hi, cx_nn hn hj, if_pos h]; rfl
theorem an_equal_n {n i j : Nat} {f : Nat → Nat} (hn : n ≤ 40) (hi : i < n) (hj : j < n) (h : ¬ f i = f j) : nI 0 = an_equal n f (nI i) (nI j) := by
  unfold an_equal
  rw [if_pos (cx_T2 hn hi hj), cx_nn hn hi, cx_nn hn hj, if_neg h]; rfl
theorem cg_PA_f {f on ot : Nat → Nat} {i j v : Nat} (h1 : ¬ (f (on v) = f i ∧ f (ot v) = f j)) (h2 : ¬ (f (on v) = f j ∧ f (ot v) = f i)) : cg_PA f on ot i j v = false := by
  unfold cg_PA
  rw [Bool.or_eq_false_iff, Bool.and_eq_false_iff, Bool.and_eq_false_iff]
  simp only [decide_eq_false_iff_not]
  exact ⟨Decidable.not_and_iff_or_not.mp h1, Decidable.not_and_iff_or_not.mp h2⟩
theorem cg_PA_t {f on ot : Nat → Nat} {i j v : Nat} (h : (f (on v) = f i ∧ f (ot v) = f j) ∨ (f (on v) = f j ∧ f (ot v) = f i)) : cg_PA f on ot i j v = true := by
  unfold cg_PA
  rw [Bool.or_eq_true, Bool.and_eq_true, Bool.and_eq_true]
  simp only [decide_eq_true_eq]
  exact h
theorem an_apart_b {n d : Nat} {f on ot : Nat → Nat} {x y : Int32} (h : ¬ (cx_T n x ∧ cx_T n y)) : -2 = an_apart n d f on ot x y := (if_neg h).symm
theorem an_apart_y {n d i j v : Nat} {f on ot : Nat → Nat} (hn : n ≤ 40) (hi : i < n) (hj : j < n) (hno : ∀ u, u < v → cg_PA f on ot i j u = false) (h : cg_PA f on ot i j v = true) (hv : v < d) : nI 1 = an_apart n d f on ot (nI i) (nI j) := by
  unfold an_apart
  rw [if_pos (cx_T2 hn hi hj), cx_nn hn hi, cx_nn hn hj, ← cg_sr_y hno h hv, if_neg (by omega)]; rfl
theorem an_apart_n {n d i j v : Nat} {f on ot : Nat → Nat} (hn : n ≤ 40) (hi : i < n) (hj : j < n) (hno : ∀ u, u < v → cg_PA f on ot i j u = false) (hv : d ≤ v) : nI 0 = an_apart n d f on ot (nI i) (nI j) := by
  unfold an_apart
  rw [if_pos (cx_T2 hn hi hj), cx_nn hn hi, cx_nn hn hj, ← cg_sr_n hno hv, if_pos rfl]; rfl
theorem an_cons_n {d v : Nat} {f on ot : Nat → Nat} (hno : ∀ u, u < v → cg_PC f on ot u = false) (h : cg_PC f on ot v = true) (hv : v < d) : nI 0 = bI (an_cons d f on ot) := by
  unfold an_cons
  rw [cg_fs_at h hno d hv, decide_eq_false (by omega)]; rfl
theorem an_cons_y {d v : Nat} {f on ot : Nat → Nat} (hno : ∀ u, u < v → cg_PC f on ot u = false) (hv : d ≤ v) : nI 1 = bI (an_cons d f on ot) := by
  unfold an_cons
  rw [cg_fs_no d (fun u hu => hno u (by omega)), decide_eq_true rfl]; rfl
theorem an_leader_b {n : Nat} {f : Nat → Nat} {x : Int32} (h : ¬ cx_T n x) : -2 = an_leader n f x := (if_neg h).symm
theorem an_leader_y {n i : Nat} {f : Nat → Nat} (hn : n ≤ 40) (hi : i < n) : nI (f i) = an_leader n f (nI i) := by
  unfold an_leader
  rw [if_pos (cx_T_n hn hi), cx_nn hn hi]
theorem an_members_b {n : Nat} {f : Nat → Nat} {x : Int32} (h : ¬ cx_T n x) : -2 = an_members n f x := (if_neg h).symm
theorem an_members_y {n i c v : Nat} {f : Nat → Nat} (hn : n ≤ 40) (hi : i < n) (hc : c = cg_ct (cg_PM f i) v) (hv : v = n) : nI c = an_members n f (nI i) := by
  unfold an_members
  rw [if_pos (cx_T_n hn hi), cx_nn hn hi, hc, hv]
theorem an_find_b {n : Nat} {S : Nat → Int32} {F E f : Nat → Nat} {sy a b : Int32} (h : ¬ cx_sh n sy a b) : -2 = an_find n S F E f sy a b := (if_neg h).symm
theorem cx_cc {n x : Nat} (hn : n ≤ 40) (hx : x ≤ n) : cx_c (aI x) = x := cx_c_a (by omega)
theorem an_find_y {n x y v : Nat} {S : Nat → Int32} {F E f : Nat → Nat} {sy : Int32} (hn : n ≤ 40) (h : cx_sh n sy (aI x) (aI y)) (hx : x ≤ n) (hy : y ≤ n) (hno : ∀ u, u < v → cg_PF S F E f sy x y u = false) (hp : cg_PF S F E f sy x y v = true) (hv : v < n) : nI (f v) = an_find n S F E f sy (aI x) (aI y) := by
  unfold an_find
  rw [if_pos h, cx_cc hn hx, cx_cc hn hy, cg_fs_at hp hno n hv, if_pos hv]
theorem an_find_n {n x y v : Nat} {S : Nat → Int32} {F E f : Nat → Nat} {sy : Int32} (hn : n ≤ 40) (h : cx_sh n sy (aI x) (aI y)) (hx : x ≤ n) (hy : y ≤ n) (hno : ∀ u, u < v → cg_PF S F E f sy x y u = false) (hv : n ≤ v) : -1 = an_find n S F E f sy (aI x) (aI y) := by
  unfold an_find
  rw [if_pos h, cx_cc hn hx, cx_cc hn hy, cg_fs_no n (fun u hu => hno u (by omega)), if_neg (Nat.lt_irrefl n)]
theorem cg_qn_c {n x y : Nat} {S : Nat → Int32} {F E : Nat → Nat} {sy : Int32} (hn : n ≤ 40) (hx : x ≤ n) (hy : y ≤ n) : cg_qn n S F E sy (aI x) (aI y) = cg_sr (cg_PN S F E sy x y) n := by
  unfold cg_qn
  rw [cx_cc hn hx, cx_cc hn hy]
section MK
variable {n x y : Nat} {S : Nat → Int32} {F E : Nat → Nat} {sy a b : Int32}
theorem an_make_1 (h : ¬ cx_sh n sy a b) : -2 = an_make n S F E sy a b := (if_neg h).symm
theorem st_make_1 (h : ¬ cx_sh n sy a b) : (n, S, F, E) = st_make n S F E sy a b := (if_neg (fun z => h z.1)).symm
theorem an_make_2 (hn : n ≤ 40) (h : cx_sh n sy (aI x) (aI y)) (hx : x ≤ n) (hy : y ≤ n) (hq : ¬ cg_sr (cg_PN S F E sy x y) n = 0) : aI (cg_sr (cg_PN S F E sy x y) n) = an_make n S F E sy (aI x) (aI y) := by
  unfold an_make
  rw [if_pos h, cg_qn_c hn hx hy, if_neg hq]
theorem st_make_2 (hn : n ≤ 40) (hx : x ≤ n) (hy : y ≤ n) (hq : ¬ cg_sr (cg_PN S F E sy x y) n = 0) : (n, S, F, E) = st_make n S F E sy (aI x) (aI y) := by
  unfold st_make
  rw [if_neg (fun z => hq (by rw [← cg_qn_c hn hx hy]; exact z.2.1))]
theorem an_make_3 (hn : n ≤ 40) (h : cx_sh n sy (aI x) (aI y)) (hx : x ≤ n) (hy : y ≤ n) (hq : cg_sr (cg_PN S F E sy x y) n = 0) (hf : 40 ≤ n) : -3 = an_make n S F E sy (aI x) (aI y) := by
  unfold an_make
  rw [if_pos h, cg_qn_c hn hx hy, if_pos hq, if_neg (by omega)]
theorem st_make_3 (hf : 40 ≤ n) : (n, S, F, E) = st_make n S F E sy a b := (if_neg (fun z => absurd z.2.2 (by omega))).symm
theorem an_make_4 (hn : n ≤ 40) (h : cx_sh n sy (aI x) (aI y)) (hx : x ≤ n) (hy : y ≤ n) (hq : cg_sr (cg_PN S F E sy x y) n = 0) (hf : n < 40) : nI n = an_make n S F E sy (aI x) (aI y) := by
  unfold an_make
  rw [if_pos h, cg_qn_c hn hx hy, if_pos hq, if_pos hf]
theorem st_make_4 (hn : n ≤ 40) (h : cx_sh n sy (aI x) (aI y)) (hx : x ≤ n) (hy : y ≤ n) (hq : cg_sr (cg_PN S F E sy x y) n = 0) (hf : n < 40) : (n + 1, upd S n sy, wt_u F n x, wt_u E n y) = st_make n S F E sy (aI x) (aI y) := by
  unfold st_make
  rw [if_pos ⟨h, by rw [cg_qn_c hn hx hy]; exact hq, hf⟩, cx_cc hn hx, cx_cc hn hy]
theorem cg_wf_add (w : cg_wf (S, F, E) n) (hx : x ≤ n) (hy : y ≤ n) : cg_wf (upd S n sy, wt_u F n x, wt_u E n y) (n + 1) := by
  intro t ht
  show wt_u F n x t ≤ t ∧ wt_u E n y t ≤ t
  by_cases e : t = n
  · subst e
    rw [wt_u_at, wt_u_at]
    exact ⟨hx, hy⟩
  · rw [wt_u_ne e, wt_u_ne e]
    exact w t (by omega)
end MK
theorem cg_we_up {n k : Nat} {lf rt : Nat → Nat} (w : cg_we n lf rt k) : cg_we (n + 1) lf rt k := fun i hi => ⟨Nat.lt_succ_of_lt (w i hi).1, Nat.lt_succ_of_lt (w i hi).2⟩
theorem cg_we_add {n k i j : Nat} {lf rt : Nat → Nat} (w : cg_we n lf rt k) (hi : i < n) (hj : j < n) : cg_we n (wt_u lf k i) (wt_u rt k j) (k + 1) := by
  intro t ht
  by_cases e : t = k
  · subst e
    rw [wt_u_at, wt_u_at]
    exact ⟨hi, hj⟩
  · rw [wt_u_ne e, wt_u_ne e]
    exact w t (by omega)
section EQ
variable {n k i j mx d : Nat} {S : Nat → Int32} {F E lf rt f g : Nat → Nat} {x y : Int32}
theorem an_equate_1 (h : ¬ (cx_T n x ∧ cx_T n y)) : -2 = an_equate n S F E k lf rt x y := (if_neg h).symm
theorem an_equate_2 (hn : n ≤ 40) (hi : i < n) (hj : j < n) (h : 24 ≤ k) : -3 = an_equate n S F E k lf rt (nI i) (nI j) := by
  unfold an_equate
  rw [if_pos (cx_T2 hn hi hj), if_neg (by omega)]
theorem an_equate_3 (hn : n ≤ 40) (hi : i < n) (hj : j < n) (h : ¬ 24 ≤ k) (hf : ∀ z, z < n → f z = cg_LA S F E n lf rt k z) (hg : ∀ z, z < n → g z = cg_LA S F E n (wt_u lf k i) (wt_u rt k j) (k + 1) z) : nI (cg_cn f n) - nI (cg_cn g n) = an_equate n S F E k lf rt (nI i) (nI j) := by
  unfold an_equate
  rw [if_pos (cx_T2 hn hi hj), if_pos (by omega), cx_nn hn hi, cx_nn hn hj, cg_cn_ag n hf, cg_cn_ag n hg]
theorem st_add_1 (h : ¬ (cx_T n x ∧ cx_T n y)) : (k, lf, rt) = st_add mx n k lf rt x y := (if_neg (fun z => h z.1)).symm
theorem st_add_2 (h : mx ≤ k) : (k, lf, rt) = st_add mx n k lf rt x y := (if_neg (fun z => absurd z.2 (by omega))).symm
theorem st_add_3 (hn : n ≤ 40) (hi : i < n) (hj : j < n) (h : ¬ mx ≤ k) : (k + 1, wt_u lf k i, wt_u rt k j) = st_add mx n k lf rt (nI i) (nI j) := by
  unfold st_add
  rw [if_pos ⟨cx_T2 hn hi hj, by omega⟩, cx_nn hn hi, cx_nn hn hj]
theorem an_differ_1 (h : ¬ (cx_T n x ∧ cx_T n y)) : -2 = an_differ n d x y := (if_neg h).symm
theorem an_differ_2 (hn : n ≤ 40) (hi : i < n) (hj : j < n) (h : 16 ≤ d) : -3 = an_differ n d (nI i) (nI j) := by
  unfold an_differ
  rw [if_pos (cx_T2 hn hi hj), if_neg (by omega)]
theorem an_differ_3 (hn : n ≤ 40) (hi : i < n) (hj : j < n) (h : ¬ 16 ≤ d) : nI d = an_differ n d (nI i) (nI j) := by
  unfold an_differ
  rw [if_pos (cx_T2 hn hi hj), if_pos (by omega)]
end EQ
section LV
variable {n k d dp : Nat} {ct st dt F E lf rt on ot : Nat → Nat} {S : Nat → Int32}
theorem an_open_1 (h : 6 ≤ dp) : -3 = an_open dp := (if_neg (by omega)).symm
theorem st_open_1 (h : 6 ≤ dp) : (dp, ct, st, dt) = st_open n k d dp ct st dt := (if_neg (by omega)).symm
theorem an_open_2 (h : dp < 6) : nI (dp + 1) = an_open dp := (if_pos h).symm
theorem st_open_2 (h : dp < 6) : (dp + 1, wt_u ct dp n, wt_u st dp k, wt_u dt dp d) = st_open n k d dp ct st dt := (if_pos h).symm
theorem an_close_1 (h : dp = 0) : -1 = an_close dp := (if_pos h).symm
theorem st_close_1 (h : dp = 0) : (n, k, d, dp) = st_close n k d dp ct st dt := (if_pos h).symm
theorem an_close_2 (h : 0 < dp) : nI (dp - 1) = an_close dp := (if_neg (by omega)).symm
theorem st_close_2 (h : 0 < dp) : (ct (dp - 1), st (dp - 1), dt (dp - 1), dp - 1) = st_close n k d dp ct st dt := (if_neg (by omega)).symm
theorem cg_WF_dp (w : cg_WF n F E k lf rt d on ot dp ct st dt) : dp ≤ 6 := w.2.2.2.2.2.1
theorem cg_WF_n (w : cg_WF n F E k lf rt d on ot dp ct st dt) : n ≤ 40 := w.1.1
theorem cg_WF_l (w : cg_WF n F E k lf rt d on ot dp ct st dt) (h : 0 < dp) : ct (dp - 1) ≤ 40 ∧ ct (dp - 1) ≤ n ∧ st (dp - 1) ≤ 24 ∧ cg_we (ct (dp - 1)) lf rt (st (dp - 1)) := by
  obtain ⟨⟨h1, -⟩, h2, -, -, -, -, h7, -⟩ := w
  obtain ⟨a, b, -, c, -⟩ := h7 (dp - 1) (by omega)
  exact ⟨by omega, a, by omega, c⟩
theorem cg_WF_w (w : cg_WF n F E k lf rt d on ot dp ct st dt) {m : Nat} (h : m ≤ n) : cg_wf (S, F, E) m := fun t ht => w.1.2 t (by omega)
end LV
