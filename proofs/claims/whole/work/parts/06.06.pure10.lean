/-! the reference's own steps -/
theorem wt_u_id {g : Nat → Nat} {v : Nat} : wt_u g v (g v) = g := by
  funext u
  unfold wt_u
  by_cases e : u = v
  · rw [if_pos e, e]
  · rw [if_neg e]
theorem cg_mu_n2 {n : Nat} {f g : Nat → Nat} {i j v : Nat} (hg : g = cg_mu n f i j v) (h : ¬ g v = max (f i) (f j)) : wt_u g v (g v) = cg_mu n f i j (v + 1) := by
  rw [wt_u_id]
  exact cg_mu_n hg h
theorem cg_in_y2 {T : cg_T} {n v q : Nat} {p : cg_P} {g : Nat → Nat} {ch : Bool} (hg : (g, ch) = cg_in T n p v q) (h1 : ¬ g v = g q) (h2 : cg_lk T g v q) : (cg_mg n g v q, true) = cg_in T n p v (q + 1) := by
  show _ = cg_st T n (cg_in T n p v q) v q
  rw [← hg]
  unfold cg_st
  rw [if_pos ⟨h1, h2⟩]
theorem cg_in_n2 {T : cg_T} {n v q : Nat} {p : cg_P} {g : Nat → Nat} {ch : Bool} (hg : (g, ch) = cg_in T n p v q) (h : g v = g q ∨ ¬ cg_lk T g v q) : (g, ch) = cg_in T n p v (q + 1) := by
  show _ = cg_st T n (cg_in T n p v q) v q
  rw [← hg]
  unfold cg_st
  rw [if_neg (fun z => h.elim (fun e => z.1 e) (fun e => e z.2))]
theorem cg_ou_end {T : cg_T} {n v : Nat} {f g : Nat → Nat} {ch : Bool} (hg : (g, ch) = cg_ou T n (f, false) v) (h1 : v ≤ n) (h2 : n ≤ v) : (g, ch) = cg_rd T n f := by
  rw [hg, Nat.le_antisymm h1 h2]
  rfl
theorem cg_rc2 {T : cg_T} {n r : Nat} {f g g3 : Nat → Nat} {ch : Bool} (k : cg_ok n f) (h : g3 = cg_it T n f r) (e : (g, ch) = cg_rd T n g3) : ch = true ∨ cg_fx T n (cg_it T n f (r + 1)) := by
  have e2 : ch = (cg_rd T n g3).2 := congrArg Prod.snd e
  rw [h] at e2
  cases hb : ch with
  | true => exact Or.inl rfl
  | false => exact Or.inr (cg_it_x k (e2.symm.trans hb))
theorem cx_ch1 {x : Int32} {bf q : Nat} (h : q < bf) : (fun v => decide (v < bf) || bt x v) q = true := by
  show (decide (q < bf) || bt x q) = true
  rw [decide_eq_true h]; rfl
theorem cx_ch2 {x : Int32} {bf q : Nat} (hq : q < 32) (h : (x >>> (nI q &&& 31)) &&& nI 1 = nI 1) : (fun v => decide (v < bf) || bt x v) q = true := by
  show (decide (q < bf) || bt x q) = true
  rw [(cb_shr hq).mp h, Bool.or_true]
theorem cx_ch3 {x : Int32} {bf q : Nat} (hq : q < 32) (h1 : bf ≤ q) (h : ¬ (x >>> (nI q &&& 31)) &&& nI 1 = nI 1) : (fun v => decide (v < bf) || bt x v) q = false := by
  show (decide (q < bf) || bt x q) = false
  rw [decide_eq_false (by omega), Bool.false_or]
  cases hb : bt x q with
  | false => rfl
  | true => exact absurd ((cb_shr hq).mpr hb) h
theorem cg_it_ag {T : cg_T} {n : Nat} {f g : Nat → Nat} (w : cg_wf T n) (h : ∀ u, u < n → g u = f u) : ∀ r u, u < n → cg_it T n g r u = cg_it T n f r u := by
  intro r
  induction r with
  | zero => exact h
  | succ r ih => exact (cg_rd_ag w ih).2
theorem cg_work_e {T : cg_T} {n q k : Nat} {lf rt g : Nat → Nat} {C : Nat → Bool} (w : cg_wf T n) (h : ∀ u, u < n → g u = cg_eq n lf rt C q u) (hq : q = k) : ∀ u, u < n → cg_it T n g n u = cg_lab T n lf rt C k u := by
  rw [hq] at h
  exact cg_it_ag w h n
theorem cg_all2 {T : cg_T} {n k : Nat} {lf rt : Nat → Nat} {x : Int32} : cg_lab T n lf rt (fun v => decide (v < k) || bt x v) k = cg_lab T n lf rt (fun _ => true) k := cg_lab_ex (fun i hi => by rw [decide_eq_true hi]; rfl)
theorem cg_J_dec {S : Nat → Int32} {F E lf rt g : Nat → Nat} {n k i j : Nat} {C : Nat → Bool} (h : ∀ z, z < n → g z = cg_lab (S, F, E) n lf rt C k z) (hi : i < n) (hj : j < n) : decide (g i = g j) = cg_J S F E n lf rt k i j C := by
  rw [h i hi, h j hj]; rfl
theorem cx_wt {P : Prop} {_ : Decidable P} (h : ¬ P) : nI 1 = bI (!decide P) := by rw [decide_eq_false h]; rfl
theorem cx_wf {P : Prop} {_ : Decidable P} (h : P) : nI 0 = bI (!decide P) := by rw [decide_eq_true h]; rfl
theorem cx_wsh {P : Prop} {_ : Decidable P} (h : (!decide P) = false) : P := by
  by_cases q : P
  · exact q
  · rw [decide_eq_false q] at h; exact absurd h (by decide)
theorem cx_wno {P : Prop} {_ : Decidable P} (h : (!decide P) = true) : ¬ P := by
  intro q
  rw [decide_eq_true q] at h; exact absurd h (by decide)
theorem cx_15 {x : Int32} : nI 15 < x ↔ ¬ x < nI 16 := by
  rw [Int32.not_lt, Int32.lt_iff_toInt_lt, Int32.le_iff_toInt_le, nI_toInt (by decide), nI_toInt (by decide)]
  omega
theorem cx_sw2 {n : Nat} {sy a b : Int32} (b1 : nI 15 < sy) : ¬ cx_sh n sy a b := fun h => (cx_15.mp b1) h.1.2
theorem cx_sw4 {n : Nat} {sy a b : Int32} (b4 : ¬ b = -1) (b5 : ¬ cx_T n b) : ¬ cx_sh n sy a b := fun h => (cx_sh_a h).2.elim b4 b5
theorem cx_sw5 {n : Nat} {sy a b : Int32} (b0 : ¬ sy < 0) (b1 : ¬ nI 15 < sy) (b2 : a = -1 ∨ cx_T n a) (b4 : b = -1 ∨ cx_T n b) (b6 : ¬ a = -1 ∨ b = -1) : cx_sh n sy a b := by
  refine ⟨⟨Int32.not_lt.mp b0, Decidable.byContradiction fun q => b1 (cx_15.mpr q)⟩, ?_⟩
  rcases b2 with h | h
  · rcases b6 with g | g
    · exact absurd h g
    · exact Or.inl ⟨h, g⟩
  · exact Or.inr ⟨h, b4⟩
section MK2
variable {n x y v : Nat} {S : Nat → Int32} {F E : Nat → Nat} {sy : Int32}
theorem an_make_5 (hn : n ≤ 40) (h : cx_sh n sy (aI x) (aI y)) (hx : x ≤ n) (hy : y ≤ n) (hno : ∀ u, u < v → cg_PN S F E sy x y u = false) (hp : cg_PN S F E sy x y v = true) (hv : v < n) : nI v = an_make n S F E sy (aI x) (aI y) := by
  have e := cg_sr_y hno hp hv
  have a := an_make_2 (S := S) (F := F) (E := E) hn h hx hy (by omega)
  rw [← e] at a
  exact a
theorem st_make_5 (hn : n ≤ 40) (hx : x ≤ n) (hy : y ≤ n) (hno : ∀ u, u < v → cg_PN S F E sy x y u = false) (hp : cg_PN S F E sy x y v = true) (hv : v < n) : (n, S, F, E) = st_make n S F E sy (aI x) (aI y) := by
  have e := cg_sr_y hno hp hv
  exact st_make_2 hn hx hy (by omega)
end MK2
theorem cx_con1 {P : Nat → Bool} {v : Nat} {ch : Bool} (h : ch = decide (cg_fs P v = v)) (b1 : ch = false) : false = decide (cg_fs P (v + 1) = v + 1) := by
  rw [cg_fs_s, ← h, b1]; rfl
theorem cx_con2 {f on ot : Nat → Nat} {v : Nat} {ch : Bool} (h : ch = decide (cg_fs (cg_PC f on ot) v = v)) (b1 : ch = true) (b2 : decide (f (on v) = f (ot v)) = false) : true = decide (cg_fs (cg_PC f on ot) (v + 1) = v + 1) := by
  rw [cg_fs_s, ← h, b1, show cg_PC f on ot v = false from b2]; rfl
theorem cx_con3 {f on ot : Nat → Nat} {v : Nat} {ch : Bool} (h : ch = decide (cg_fs (cg_PC f on ot) v = v)) (b2 : decide (f (on v) = f (ot v)) = true) : false = decide (cg_fs (cg_PC f on ot) (v + 1) = v + 1) := by
  rw [cg_fs_s, show cg_PC f on ot v = true from b2, Bool.not_true, Bool.and_false]
theorem cx_con4 {n d v : Nat} {f g on ot : Nat → Nat} {ch : Bool} (hd : cg_we n on ot d) (hg : ∀ z, z < n → g z = f z) (h : ch = decide (cg_fs (cg_PC g on ot) v = v)) (hv : v = d) : bI ch = bI (an_cons d f on ot) := by
  rw [← an_cons_ag hd hg, h, hv]; rfl
theorem cx_mem1 {g : Nat → Nat} {i v : Nat} (h : decide (g i = g v) = true) : cg_PM g i v = true := decide_eq_true (of_decide_eq_true h).symm
theorem cx_mem2 {g : Nat → Nat} {i v : Nat} (h : decide (g i = g v) = false) : cg_PM g i v = false := decide_eq_false (fun e => of_decide_eq_false h e.symm)
section FI
variable {S : Nat → Int32} {F E lf rt : Nat → Nat} {n k i j : Nat}
theorem cg_J_z {q : Nat} : cg_J S F E n lf rt k i j (fun z => decide (z < q) || bt (nI 0) z) = cg_J S F E n lf rt k i j (fun z => decide (z < q)) := cg_J_ex (fun v _ => by rw [show bt (nI 0) v = false from b_0 v, Bool.or_false])
theorem an_since_f (hn : n ≤ 40) (hi : i < n) (hj : j < n) : aI (cg_sr (fun q => cg_J S F E n lf rt k i j (fun z => decide (z < q) || bt (nI 0) z)) (k + 1)) = an_since n S F E k lf rt (nI i) (nI j) := by
  unfold an_since
  rw [if_pos (cx_T2 hn hi hj), cx_nn hn hi, cx_nn hn hj]
  exact congrArg aI (cg_sr_ag (fun v _ => cg_J_z))
theorem cg_J_bw {x : Int32} {q : Nat} : cg_J S F E n lf rt k i j (fun z => decide (z < q) || bt x z) = cg_J S F E n lf rt k i j (cg_bw x q) := cg_J_ex (fun v _ => Bool.or_comm _ _)
theorem cg_Jm {C D : Nat → Bool} (wf : cg_wf (S, F, E) n) (we : cg_we n lf rt k) (hi : i < n) (hj : j < n) (h : ∀ v, v < k → C v = true → D v = true) (c : cg_J S F E n lf rt k i j C = true) : cg_J S F E n lf rt k i j D = true := decide_eq_true (cg_mono wf we h i hi j hj (of_decide_eq_true c))
theorem cg_sr_p {P : Nat → Bool} {m q : Nat} (h : q + 1 = cg_sr P m) : q < m ∧ P q = true ∧ ∀ u, u < q → P u = false := by
  unfold cg_sr at h
  by_cases c : cg_fs P m < m
  · rw [if_pos c] at h
    have e : q = cg_fs P m := by omega
    have a := cg_fs_p m c
    rw [← e] at a c
    exact ⟨c, a.1, a.2⟩
  · rw [if_neg c] at h
    omega
theorem cg_sr_f {P : Nat → Bool} {m p : Nat} (hp : p < m) (h : P p = true) : ¬ cg_sr P m = 0 ∧ cg_sr P m - 1 ≤ p := by
  obtain ⟨u, h1, h2⟩ := cg_least (fun v => v < m ∧ P v = true) ⟨p, hp, h⟩
  have hle : u ≤ p := Nat.le_of_not_lt fun q => h2 p q ⟨hp, h⟩
  have e := cg_sr_y (P := P) (n := m) (v := u) (fun v hv => by
    cases hb : P v with
    | false => rfl
    | true => exact absurd ⟨by omega, hb⟩ (h2 v hv)) h1.2 h1.1
  omega
def cg_xq (S : Nat → Int32) (F E : Nat → Nat) (n : Nat) (lf rt : Nat → Nat) (k i j : Nat) (x : Int32) : Nat := cg_sr (fun q => cg_J S F E n lf rt k i j (fun z => decide (z < q) || bt x z)) (k + 1)
/-- what is found for x: from there on downwards, nothing else is kept -/
theorem cg_xq_s {x : Int32} {q m : Nat} (wf : cg_wf (S, F, E) n) (we : cg_we n lf rt k) (hi : i < n) (hj : j < n) (h : q + 1 = cg_xq S F E n lf rt k i j x) (hm : q ≤ m) : cg_xp (cg_J S F E n lf rt k i j) m x = cg_xp (cg_J S F E n lf rt k i j) q x := by
  obtain ⟨-, a, -⟩ := cg_sr_p h
  refine cg_xp_sk m hm (fun v h1 _ => ?_)
  refine cg_Jm wf we hi hj (fun u _ c => ?_) a
  show (bt x u || decide (u < v)) = true
  have c : (decide (u < q) || bt x u) = true := c
  rw [Bool.or_eq_true] at c ⊢
  rcases c with c | c
  · exact Or.inr (decide_eq_true (Nat.lt_of_lt_of_le (of_decide_eq_true c) h1))
  · exact Or.inl c
theorem cg_xq_0 (wf : cg_wf (S, F, E) n) (we : cg_we n lf rt k) (hi : i < n) (hj : j < n) {q : Nat} (h : q + 1 = cg_xq S F E n lf rt k i j (nI 0)) : cg_xp (cg_J S F E n lf rt k i j) q (nI 0) = cg_xp (cg_J S F E n lf rt k i j) k 0 := (cg_xq_s wf we hi hj h (by have := (cg_sr_p h).1; omega)).symm
theorem cg_xq_n {x z : Int32} {q : Nat} (hk : k ≤ 24) (wf : cg_wf (S, F, E) n) (we : cg_we n lf rt k) (hi : i < n) (hj : j < n) (h : q + 1 = cg_xq S F E n lf rt k i j x) (h0 : 0 < q) (hx : cg_xp (cg_J S F E n lf rt k i j) q x = z) :
    ¬ cg_xq S F E n lf rt k i j (x ||| (nI 1 <<< (nI (q - 1) &&& 31))) = 0 ∧ cg_xq S F E n lf rt k i j (x ||| (nI 1 <<< (nI (q - 1) &&& 31))) - 1 < q ∧ cg_xp (cg_J S F E n lf rt k i j) (cg_xq S F E n lf rt k i j (x ||| (nI 1 <<< (nI (q - 1) &&& 31))) - 1) (x ||| (nI 1 <<< (nI (q - 1) &&& 31))) = z := by
  obtain ⟨p, rfl⟩ : ∃ p, q = p + 1 := ⟨q - 1, by omega⟩
  obtain ⟨a1, a2, a3⟩ := cg_sr_p h
  rw [show p + 1 - 1 = p from rfl]
  have hb : ∀ v, v < k → (decide (v < p) || bt (x ||| (nI 1 <<< (nI p &&& 31))) v) = (decide (v < p + 1) || bt x v) := by
    intro v hv
    rw [b_or, cb_one (by omega) (by omega)]
    by_cases e : v = p
    · subst e
      rw [decide_eq_true rfl, decide_eq_true (Nat.lt_succ_self v), Bool.or_true, Bool.or_true, Bool.true_or]
    · rw [decide_eq_false e, Bool.or_false]
      by_cases c : v < p
      · rw [decide_eq_true c, decide_eq_true (by omega : v < p + 1)]
      · rw [decide_eq_false c, decide_eq_false (by omega : ¬ v < p + 1)]
  have f1 : cg_J S F E n lf rt k i j (fun v => decide (v < p) || bt (x ||| (nI 1 <<< (nI p &&& 31))) v) = true := (cg_J_ex hb).trans a2
  obtain ⟨c1, c2⟩ := cg_sr_f (P := fun q => cg_J S F E n lf rt k i j (fun v => decide (v < q) || bt (x ||| (nI 1 <<< (nI p &&& 31))) v)) (m := k + 1) (p := p) (by omega) f1
  refine ⟨c1, Nat.lt_succ_of_le c2, ?_⟩
  have g : cg_xp (cg_J S F E n lf rt k i j) p (x ||| (nI 1 <<< (nI p &&& 31))) = z := cg_xp_0 hx (cg_J_bw.symm.trans (a3 p (Nat.lt_succ_self p)))
  rw [← g]
  have c9 : ¬ cg_xq S F E n lf rt k i j (x ||| (nI 1 <<< (nI p &&& 31))) = 0 := c1
  have c8 : cg_xq S F E n lf rt k i j (x ||| (nI 1 <<< (nI p &&& 31))) - 1 ≤ p := c2
  exact (cg_xq_s wf we hi hj (by omega) c8).symm
theorem cg_xq_y (wf : cg_wf (S, F, E) n) (we : cg_we n lf rt k) (hi : i < n) (hj : j < n) (h : ¬ cg_xq S F E n lf rt k i j (nI 0) = 0) : cg_J S F E n lf rt k i j (fun _ => true) = true := by
  obtain ⟨-, a, -⟩ := cg_sr_p (q := cg_xq S F E n lf rt k i j (nI 0) - 1) (P := fun q => cg_J S F E n lf rt k i j (fun z => decide (z < q) || bt (nI 0) z)) (m := k + 1) (by unfold cg_xq; unfold cg_xq at h; omega)
  exact cg_Jm wf we hi hj (fun _ _ _ => rfl) a
theorem cg_xq_no (h : cg_xq S F E n lf rt k i j (nI 0) = 0) : cg_J S F E n lf rt k i j (fun _ => true) = false := by
  cases hb : cg_J S F E n lf rt k i j (fun _ => true) with
  | false => rfl
  | true =>
    refine absurd h (cg_sr_f (p := k) (Nat.lt_succ_self k) ?_).1
    exact (cg_J_ex (fun v hv => by rw [decide_eq_true hv]; rfl)).trans hb
theorem cg_J_nt2 {v : Nat} (hv : v < k) (hk : k ≤ 24) : cg_J S F E n lf rt k i j (fun u => decide (u < 0) || bt (cb_ab k &&& ((nI 1 <<< (nI v &&& 31)) ^^^ (-1))) u) = cg_J S F E n lf rt k i j (fun u => !decide (u = v)) := (cg_J_ex (fun u _ => by rw [decide_eq_false (Nat.not_lt_zero u), Bool.false_or])).trans (cg_J_nt hv hk)
end FI
