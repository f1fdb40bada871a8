/-! the state stays well formed -/
section WFS
variable {n k d dp : Nat} {S : Nat → Int32} {F E lf rt on ot ct st dt : Nat → Nat}
theorem WF_0 : cg_WF 0 F E 0 lf rt 0 on ot 0 ct st dt := ⟨⟨by omega, fun t ht => absurd ht (Nat.not_lt_zero t)⟩, by omega, fun i hi => absurd hi (Nat.not_lt_zero i), by omega, fun i hi => absurd hi (Nat.not_lt_zero i), by omega, fun j hj => absurd hj (Nat.not_lt_zero j), fun i j _ hj => absurd hj (Nat.not_lt_zero j)⟩
theorem WF_wf (w : cg_WF n F E k lf rt d on ot dp ct st dt) : cg_wf (S, F, E) n := fun t ht => w.1.2 t ht
theorem WF_k (w : cg_WF n F E k lf rt d on ot dp ct st dt) : k ≤ 24 := w.2.1
theorem WF_we (w : cg_WF n F E k lf rt d on ot dp ct st dt) : cg_we n lf rt k := w.2.2.1
theorem WF_d (w : cg_WF n F E k lf rt d on ot dp ct st dt) : d ≤ 16 := w.2.2.2.1
theorem WF_wo (w : cg_WF n F E k lf rt d on ot dp ct st dt) : cg_we n on ot d := w.2.2.2.2.1
theorem cg_we_mono {n m k : Nat} {lf rt : Nat → Nat} (w : cg_we n lf rt k) (h : n ≤ m) : cg_we m lf rt k := fun i hi => ⟨Nat.lt_of_lt_of_le (w i hi).1 h, Nat.lt_of_lt_of_le (w i hi).2 h⟩
theorem cg_we_keep {n k q : Nat} {lf rt : Nat → Nat} {i j : Nat} (w : cg_we n lf rt q) (h : q ≤ k) : cg_we n (wt_u lf k i) (wt_u rt k j) q := fun u hu => by
  rw [wt_u_ne (by omega), wt_u_ne (by omega)]
  exact w u hu
theorem WF_make {sy a b : Int32} {u : cg_TS} (w : cg_WF n F E k lf rt d on ot dp ct st dt) (h : u = st_make n S F E sy a b) : cg_WF u.1 u.2.2.1 u.2.2.2 k lf rt d on ot dp ct st dt := by
  by_cases c : cx_sh n sy a b ∧ cg_qn n S F E sy a b = 0 ∧ n < 40
  · have e : st_make n S F E sy a b = (n + 1, upd S n sy, wt_u F n (cx_c a), wt_u E n (cx_c b)) := if_pos c
    rw [h, e]
    have cc := cx_sh_c w.1.1 c.1
    obtain ⟨⟨h1, h2⟩, h3, h4, h5, h6, h7, h8, h9⟩ := w
    refine ⟨⟨by show n + 1 ≤ 40; omega, ?_⟩, h3, cg_we_up h4, h5, cg_we_up h6, h7, fun j hj => ?_, h9⟩
    · exact cg_wf_add (S := S) (sy := sy) h2 cc.1 cc.2
    · obtain ⟨a1, a2, a3, a4, a5⟩ := h8 j hj
      exact ⟨Nat.le_succ_of_le a1, a2, a3, a4, a5⟩
  · have e : st_make n S F E sy a b = (n, S, F, E) := if_neg c
    rw [h, e]
    exact w
theorem WF_eq {x y : Int32} {u : cg_ES} (w : cg_WF n F E k lf rt d on ot dp ct st dt) (h : u = st_add 24 n k lf rt x y) : cg_WF n F E u.1 u.2.1 u.2.2 d on ot dp ct st dt := by
  by_cases c : (cx_T n x ∧ cx_T n y) ∧ k < 24
  · have e : st_add 24 n k lf rt x y = (k + 1, wt_u lf k (cx_n x), wt_u rt k (cx_n y)) := if_pos c
    rw [h, e]
    obtain ⟨⟨h1, h2⟩, h3, h4, h5, h6, h7, h8, h9⟩ := w
    refine ⟨⟨h1, h2⟩, by show k + 1 ≤ 24; omega, cg_we_add h4 (cx_T_nn h1 c.1.1) (cx_T_nn h1 c.1.2), h5, h6, h7, fun j hj => ?_, h9⟩
    obtain ⟨a1, a2, a3, a4, a5⟩ := h8 j hj
    exact ⟨a1, Nat.le_succ_of_le a2, a3, cg_we_keep a4 a2, a5⟩
  · have e : st_add 24 n k lf rt x y = (k, lf, rt) := if_neg c
    rw [h, e]
    exact w
theorem WF_di {x y : Int32} {u : cg_ES} (w : cg_WF n F E k lf rt d on ot dp ct st dt) (h : u = st_add 16 n d on ot x y) : cg_WF n F E k lf rt u.1 u.2.1 u.2.2 dp ct st dt := by
  by_cases c : (cx_T n x ∧ cx_T n y) ∧ d < 16
  · have e : st_add 16 n d on ot x y = (d + 1, wt_u on d (cx_n x), wt_u ot d (cx_n y)) := if_pos c
    rw [h, e]
    obtain ⟨⟨h1, h2⟩, h3, h4, h5, h6, h7, h8, h9⟩ := w
    refine ⟨⟨h1, h2⟩, h3, h4, by show d + 1 ≤ 16; omega, cg_we_add h6 (cx_T_nn h1 c.1.1) (cx_T_nn h1 c.1.2), h7, fun j hj => ?_, h9⟩
    obtain ⟨a1, a2, a3, a4, a5⟩ := h8 j hj
    exact ⟨a1, a2, Nat.le_succ_of_le a3, a4, cg_we_keep a5 a3⟩
  · have e : st_add 16 n d on ot x y = (d, on, ot) := if_neg c
    rw [h, e]
    exact w
theorem WF_op {u : cg_LS} (w : cg_WF n F E k lf rt d on ot dp ct st dt) (h : u = st_open n k d dp ct st dt) : cg_WF n F E k lf rt d on ot u.1 u.2.1 u.2.2.1 u.2.2.2 := by
  by_cases c : dp < 6
  · have e : st_open n k d dp ct st dt = (dp + 1, wt_u ct dp n, wt_u st dp k, wt_u dt dp d) := if_pos c
    rw [h, e]
    obtain ⟨⟨h1, h2⟩, h3, h4, h5, h6, h7, h8, h9⟩ := w
    refine ⟨⟨h1, h2⟩, h3, h4, h5, h6, by show dp + 1 ≤ 6; omega, fun j hj => ?_, fun i j hij hj => ?_⟩
    · have hj : j < dp + 1 := hj
      show wt_u ct dp n j ≤ n ∧ wt_u st dp k j ≤ k ∧ wt_u dt dp d j ≤ d ∧ cg_we (wt_u ct dp n j) lf rt (wt_u st dp k j) ∧ cg_we (wt_u ct dp n j) on ot (wt_u dt dp d j)
      by_cases q : j = dp
      · rw [q, wt_u_at, wt_u_at, wt_u_at]
        exact ⟨Nat.le_refl _, Nat.le_refl _, Nat.le_refl _, h4, h6⟩
      · rw [wt_u_ne q, wt_u_ne q, wt_u_ne q]
        exact h8 j (by omega)
    · have hj : j < dp + 1 := hj
      show wt_u ct dp n i ≤ wt_u ct dp n j ∧ wt_u st dp k i ≤ wt_u st dp k j ∧ wt_u dt dp d i ≤ wt_u dt dp d j
      rw [wt_u_ne (by omega : ¬ i = dp), wt_u_ne (by omega : ¬ i = dp), wt_u_ne (by omega : ¬ i = dp)]
      by_cases q : j = dp
      · rw [q, wt_u_at, wt_u_at, wt_u_at]
        obtain ⟨a1, a2, a3, -⟩ := h8 i (by omega)
        exact ⟨a1, a2, a3⟩
      · rw [wt_u_ne q, wt_u_ne q, wt_u_ne q]
        exact h9 i j hij (by omega)
  · have e : st_open n k d dp ct st dt = (dp, ct, st, dt) := if_neg c
    rw [h, e]
    exact w
theorem WF_cl {u : Nat × Nat × Nat × Nat} (w : cg_WF n F E k lf rt d on ot dp ct st dt) (h : u = st_close n k d dp ct st dt) : cg_WF u.1 F E u.2.1 lf rt u.2.2.1 on ot u.2.2.2 ct st dt := by
  by_cases c : dp = 0
  · have e : st_close n k d dp ct st dt = (n, k, d, dp) := if_pos c
    rw [h, e]
    exact w
  · have e : st_close n k d dp ct st dt = (ct (dp - 1), st (dp - 1), dt (dp - 1), dp - 1) := if_neg c
    rw [h, e]
    obtain ⟨⟨h1, h2⟩, h3, h4, h5, h6, h7, h8, h9⟩ := w
    obtain ⟨a1, a2, a3, a4, a5⟩ := h8 (dp - 1) (by omega)
    refine ⟨⟨Nat.le_trans a1 h1, fun t ht => h2 t (Nat.lt_of_lt_of_le ht a1)⟩, Nat.le_trans a2 h3, a4, Nat.le_trans a3 h5, a5, by show dp - 1 ≤ 6; omega, fun j hj => ?_, fun i j hij hj => ?_⟩
    · have hj : j < dp - 1 := hj
      obtain ⟨b1, b2, b3, b4, b5⟩ := h8 j (by omega)
      obtain ⟨c1, c2, c3⟩ := h9 j (dp - 1) hj (by omega)
      exact ⟨c1, c2, c3, b4, b5⟩
    · have hj : j < dp - 1 := hj
      exact h9 i j hij (by omega)
end WFS
