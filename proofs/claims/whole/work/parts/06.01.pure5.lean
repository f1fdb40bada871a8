/-! one step of each loop; labels that agree below n -/
theorem cg_ok_B {n : Nat} {f : Nat → Nat} (h : cg_ok n f) : ∀ u, u < n → f u < n := fun u hu => Nat.lt_of_le_of_lt (h u hu).1 hu
theorem cg_ok_ag {n : Nat} {f g : Nat → Nat} (h : ∀ u, u < n → g u = f u) (k : cg_ok n f) : cg_ok n g := by
  intro t ht
  have a := k t ht
  rw [h t ht]
  refine ⟨a.1, ?_⟩
  rw [h (f t) (by omega)]
  exact a.2
theorem cg_ar_ne {f : Nat → Nat} {x y : Nat} (h : x = 0 ∨ y = 0) (ne : ¬ x = y) : ¬ cg_ar f x = cg_ar f y := by
  cases x with
  | zero =>
    cases y with
    | zero => exact absurd rfl ne
    | succ y => exact fun e => absurd (show (0 : Nat) = f y + 1 from e) (by omega)
  | succ x =>
    cases y with
    | zero => exact fun e => absurd (show f x + 1 = (0 : Nat) from e) (by omega)
    | succ y => exact absurd h (by omega)
theorem cg_ar_s {f : Nat → Nat} {x y : Nat} : cg_ar f (x + 1) = cg_ar f (y + 1) ↔ f x = f y := by
  show f x + 1 = f y + 1 ↔ f x = f y
  omega
theorem cg_cn_y {f : Nat → Nat} {c t : Nat} (hc : c = cg_cn f t) (h : f t = t) : c + 1 = cg_cn f (t + 1) := by
  show c + 1 = cg_cn f t + (if f t = t then 1 else 0)
  rw [if_pos h, hc]
theorem cg_cn_n {f : Nat → Nat} {c t : Nat} (hc : c = cg_cn f t) (h : ¬ f t = t) : c = cg_cn f (t + 1) := by
  show c = cg_cn f t + (if f t = t then 1 else 0)
  rw [if_neg h, hc]; rfl
theorem cg_ct_y {P : Nat → Bool} {c t : Nat} (hc : c = cg_ct P t) (h : P t = true) : c + 1 = cg_ct P (t + 1) := by
  show c + 1 = cg_ct P t + (if P t = true then 1 else 0)
  rw [if_pos h, hc]
theorem cg_ct_n {P : Nat → Bool} {c t : Nat} (hc : c = cg_ct P t) (h : P t = false) : c = cg_ct P (t + 1) := by
  show c = cg_ct P t + (if P t = true then 1 else 0)
  rw [if_neg (by rw [h]; decide), hc]; rfl
/-- a merging that has come up to v -/
def cg_mu (n : Nat) (f : Nat → Nat) (i j v : Nat) : Nat → Nat := fun u => if u < v then cg_mg n f i j u else f u
theorem cg_mu_0 {n : Nat} {f : Nat → Nat} {i j : Nat} : f = cg_mu n f i j 0 := by
  funext u
  unfold cg_mu
  rw [if_neg (Nat.not_lt_zero u)]
theorem cg_mu_at {n : Nat} {f g : Nat → Nat} {i j v : Nat} (hg : g = cg_mu n f i j v) : g v = f v := by
  rw [hg]
  unfold cg_mu
  rw [if_neg (Nat.lt_irrefl v)]
theorem cg_mu_y {n : Nat} {f g : Nat → Nat} {i j v : Nat} (hg : g = cg_mu n f i j v) (hv : v < n) (h : g v = max (f i) (f j)) : wt_u g v (min (f i) (f j)) = cg_mu n f i j (v + 1) := by
  have h2 := cg_mu_at hg
  rw [h2] at h
  funext u
  unfold wt_u
  by_cases e : u = v
  · rw [if_pos e, e]
    unfold cg_mu
    rw [if_pos (Nat.lt_succ_self v), cg_mg_y hv h]
  · rw [if_neg e, hg]
    unfold cg_mu
    by_cases q : u < v
    · rw [if_pos q, if_pos (by omega)]
    · rw [if_neg q, if_neg (by omega)]
theorem cg_mu_n {n : Nat} {f g : Nat → Nat} {i j v : Nat} (hg : g = cg_mu n f i j v) (h : ¬ g v = max (f i) (f j)) : g = cg_mu n f i j (v + 1) := by
  have h2 := cg_mu_at hg
  rw [h2] at h
  funext u
  rw [hg]
  unfold cg_mu
  by_cases e : u = v
  · rw [if_neg (by omega), if_pos (by omega), e, cg_mg_n h]
  · by_cases q : u < v
    · rw [if_pos q, if_pos (by omega)]
    · rw [if_neg q, if_neg (by omega)]
theorem cg_mu_e {n : Nat} {f g : Nat → Nat} {i j v : Nat} (hg : g = cg_mu n f i j v) (h : n ≤ v) : g = cg_mg n f i j := by
  funext u
  rw [hg]
  unfold cg_mu
  by_cases q : u < v
  · rw [if_pos q]
  · rw [if_neg q]
    unfold cg_mg
    rw [if_neg (fun z => absurd z.1 (by omega))]
theorem cg_lk_s {T : cg_T} {f : Nat → Nat} {s t : Nat} (h : cg_lk T f s t) : cg_lk T f t s := ⟨h.1.symm, h.2.1.symm, h.2.2.symm⟩
theorem cg_in_y {T : cg_T} {n v q : Nat} {p : cg_P} {g : Nat → Nat} {ch : Bool} (hg : (g, ch) = cg_in T n p v q) (h1 : ¬ g q = g v) (h2 : cg_lk T g q v) : (cg_mg n g q v, true) = cg_in T n p v (q + 1) := by
  show _ = cg_st T n (cg_in T n p v q) v q
  rw [← hg]
  unfold cg_st
  rw [if_pos ⟨fun e => h1 e.symm, cg_lk_s h2⟩, cg_mg_cm]
theorem cg_in_n {T : cg_T} {n v q : Nat} {p : cg_P} {g : Nat → Nat} {ch : Bool} (hg : (g, ch) = cg_in T n p v q) (h : g q = g v ∨ ¬ cg_lk T g q v) : (g, ch) = cg_in T n p v (q + 1) := by
  show _ = cg_st T n (cg_in T n p v q) v q
  rw [← hg]
  unfold cg_st
  rw [if_neg (fun z => h.elim (fun e => z.1 e.symm) (fun e => e (cg_lk_s z.2)))]
theorem cg_in_ok {T : cg_T} {n v q : Nat} {f g : Nat → Nat} {ch : Bool} (k : cg_ok n f) (hg : (g, ch) = cg_in T n (cg_ou T n (f, false) v) v q) (hv : v < n) (hq : q ≤ n) : cg_ok n g := by
  have a := (cg_in_ch (T := T) (cg_ou_ch (T := T) (p := (f, false)) k v (by omega)).1 (s := v) hv q hq).1
  rw [← hg] at a
  exact a
/-- agreement below n -/
def cg_pa (n : Nat) (p q : cg_P) : Prop := p.2 = q.2 ∧ ∀ u, u < n → p.1 u = q.1 u
theorem cg_lk_ag {T : cg_T} {n : Nat} {f g : Nat → Nat} (w : cg_wf T n) (h : ∀ u, u < n → g u = f u) {s t : Nat} (hs : s < n) (ht : t < n) : cg_lk T g s t ↔ cg_lk T f s t := by
  have a := w s hs
  have b := w t ht
  show (T.1 s = T.1 t ∧ cg_ar g (T.2.1 s) = cg_ar g (T.2.1 t) ∧ cg_ar g (T.2.2 s) = cg_ar g (T.2.2 t)) ↔ _
  rw [cg_ar_ag h (x := T.2.1 s) (by omega), cg_ar_ag h (x := T.2.1 t) (by omega), cg_ar_ag h (x := T.2.2 s) (by omega), cg_ar_ag h (x := T.2.2 t) (by omega)]
theorem cg_st_ag {T : cg_T} {n : Nat} {p q : cg_P} (w : cg_wf T n) (h : cg_pa n p q) {s t : Nat} (hs : s < n) (ht : t < n) : cg_pa n (cg_st T n p s t) (cg_st T n q s t) := by
  have e : (p.1 s ≠ p.1 t ∧ cg_lk T p.1 s t) ↔ (q.1 s ≠ q.1 t ∧ cg_lk T q.1 s t) := by
    rw [cg_lk_ag w h.2 hs ht, h.2 s hs, h.2 t ht]
  unfold cg_st
  by_cases c : p.1 s ≠ p.1 t ∧ cg_lk T p.1 s t
  · rw [if_pos c, if_pos (e.mp c)]
    exact ⟨rfl, cg_mg_ag h.2 hs ht⟩
  · rw [if_neg c, if_neg (fun z => c (e.mpr z))]
    exact h
theorem cg_in_ag {T : cg_T} {n : Nat} {p q : cg_P} (w : cg_wf T n) (h : cg_pa n p q) {s : Nat} (hs : s < n) : ∀ t, t ≤ n → cg_pa n (cg_in T n p s t) (cg_in T n q s t) := by
  intro t
  induction t with
  | zero => intro _; exact h
  | succ t ih => intro ht; exact cg_st_ag w (ih (by omega)) hs (by omega)
theorem cg_ou_ag {T : cg_T} {n : Nat} {p q : cg_P} (w : cg_wf T n) (h : cg_pa n p q) : ∀ s, s ≤ n → cg_pa n (cg_ou T n p s) (cg_ou T n q s) := by
  intro s
  induction s with
  | zero => intro _; exact h
  | succ s ih => intro hs; exact cg_in_ag w (ih (by omega)) (by omega) s (by omega)
theorem cg_rd_ag {T : cg_T} {n : Nat} {f g : Nat → Nat} (w : cg_wf T n) (h : ∀ u, u < n → g u = f u) : cg_pa n (cg_rd T n g) (cg_rd T n f) := cg_ou_ag (p := (g, false)) (q := (f, false)) w ⟨rfl, h⟩ n (Nat.le_refl _)
/-! settling: alone, the equations, the rounds -/
theorem cg_id_s {g : Nat → Nat} {v : Nat} (h : ∀ u, u < v → g u = u) : ∀ u, u < v + 1 → wt_u g v v u = u := by
  intro u hu
  unfold wt_u
  by_cases e : u = v
  · rw [if_pos e, e]
  · rw [if_neg e]; exact h u (by omega)
theorem cg_eq_y {n i : Nat} {le ri : Nat → Nat} {S : Nat → Bool} {g : Nat → Nat} (h : ∀ u, u < n → g u = cg_eq n le ri S i u) (hl : le i < n) (hr : ri i < n) (hS : S i = true) : ∀ u, u < n → cg_mg n g (le i) (ri i) u = cg_eq n le ri S (i + 1) u := by
  have e : cg_eq n le ri S (i + 1) = cg_mg n (cg_eq n le ri S i) (le i) (ri i) := if_pos hS
  rw [e]
  exact cg_mg_ag h hl hr
theorem cg_eq_n {n i : Nat} {le ri : Nat → Nat} {S : Nat → Bool} {g : Nat → Nat} (h : ∀ u, u < n → g u = cg_eq n le ri S i u) (hS : S i = false) : ∀ u, u < n → g u = cg_eq n le ri S (i + 1) u := by
  have e : cg_eq n le ri S (i + 1) = cg_eq n le ri S i := if_neg (by rw [hS]; decide)
  rw [e]
  exact h
theorem cg_eq_B {n i k : Nat} {le ri : Nat → Nat} {S : Nat → Bool} {g : Nat → Nat} (h : ∀ u, u < n → g u = cg_eq n le ri S i u) (w : cg_we n le ri k) (hi : i ≤ k) : ∀ u, u < n → g u < n := cg_ok_B (cg_ok_ag h (cg_eq_ok i (fun j hj => w j (by omega))))
theorem cg_rs {T : cg_T} {n r : Nat} {f g : Nat → Nat} (w : cg_wf T n) (h : ∀ u, u < n → g u = cg_it T n f r u) : ∀ u, u < n → (cg_rd T n g).1 u = cg_it T n f (r + 1) u := (cg_rd_ag w h).2
theorem cg_rc {T : cg_T} {n r : Nat} {f g : Nat → Nat} (w : cg_wf T n) (k : cg_ok n f) (h : ∀ u, u < n → g u = cg_it T n f r u) : (cg_rd T n g).2 = true ∨ cg_fx T n (cg_it T n f (r + 1)) := by
  rw [(cg_rd_ag w h).1]
  cases hb : (cg_rd T n (cg_it T n f r)).2 with
  | true => exact Or.inl rfl
  | false => exact Or.inr (cg_it_x k hb)
theorem cg_re {T : cg_T} {n r k : Nat} {le ri : Nat → Nat} {S : Nat → Bool} {g : Nat → Nat} {ch : Bool} (we : cg_we n le ri k) (h : ∀ u, u < n → g u = cg_it T n (cg_eq n le ri S k) r u) (hc : ch = true ∨ cg_fx T n (cg_it T n (cg_eq n le ri S k) r)) (q : n ≤ r ∨ ch = false) : ∀ u, u < n → g u = cg_lab T n le ri S k u := by
  have e : cg_it T n (cg_eq n le ri S k) r = cg_it T n (cg_eq n le ri S k) n := by
    refine cg_it_e (cg_eq_ok k we) ?_
    rcases q with q | q
    · exact Or.inr q
    · rcases hc with hc | hc
      · rw [q] at hc; exact absurd hc (by decide)
      · exact Or.inl hc
  rw [e] at h
  exact h
/-! weights, a step each -/
theorem wt_a_b {L w : Nat → Nat} (h : ∀ j, w j ≤ 2 ^ 60) (x : Nat) : wt_a L w x ≤ 2 ^ 60 := by
  cases x with
  | zero => exact Nat.zero_le _
  | succ k => exact h _
theorem wt_c_b {T : cg_T} {L w : Nat → Nat} (h : ∀ j, w j ≤ 2 ^ 60) (t : Nat) : wt_c T L w t ≤ 2 ^ 61 + 1 := by
  have a := wt_a_b (L := L) h (T.2.1 t)
  have b := wt_a_b (L := L) h (T.2.2 t)
  unfold wt_c
  omega
theorem wt_o_y {T : cg_T} {L : Nat → Nat} {p : cg_P} {g : Nat → Nat} {ch : Bool} {v : Nat} (hg : (g, ch) = wt_o T L p v) (h : wt_c T L g v < g (L v)) : (wt_u g (L v) (wt_c T L g v), true) = wt_o T L p (v + 1) := by
  show _ = wt_s T L (wt_o T L p v) v
  rw [← hg]
  unfold wt_s
  rw [if_pos h]
theorem wt_o_n {T : cg_T} {L : Nat → Nat} {p : cg_P} {g : Nat → Nat} {ch : Bool} {v : Nat} (hg : (g, ch) = wt_o T L p v) (h : g (L v) ≤ wt_c T L g v) : (g, ch) = wt_o T L p (v + 1) := by
  show _ = wt_s T L (wt_o T L p v) v
  rw [← hg]
  unfold wt_s
  rw [if_neg (Nat.not_lt_of_le h)]
theorem wt_o_u {T : cg_T} {L : Nat → Nat} {w g : Nat → Nat} {ch : Bool} {v : Nat} (hg : (g, ch) = wt_o T L (w, false) v) (h : ∀ j, w j ≤ 2 ^ 60) : ∀ j, g j ≤ 2 ^ 60 := by
  have a := wt_o_l0 (T := T) (L := L) (p := (w, false)) v
  rw [← hg] at a
  exact fun j => Nat.le_trans (a j) (h j)
theorem wt_is {T : cg_T} {L : Nat → Nat} {n r : Nat} {g : Nat → Nat} (h : g = wt_i T L n r) : (wt_r T L n g).1 = wt_i T L n (r + 1) := by rw [h]; rfl
theorem wt_ic {T : cg_T} {L : Nat → Nat} {n r : Nat} {g : Nat → Nat} (hL : ∀ t, t < n → L t < n) (h : g = wt_i T L n r) : (wt_r T L n g).2 = true ∨ wt_x T L n (wt_i T L n (r + 1)) := by
  rw [h]
  cases hb : (wt_r T L n (wt_i T L n r)).2 with
  | true => exact Or.inl rfl
  | false => exact Or.inr (wt_i_x hL hb)
theorem wt_ie {T : cg_T} {L : Nat → Nat} {n r : Nat} {g : Nat → Nat} {ch : Bool} (wf : cg_wf T n) (hL : ∀ t, t < n → L t < n) (hn : n ≤ 40) (h : g = wt_i T L n r) (hc : ch = true ∨ wt_x T L n (wt_i T L n r)) (q : n ≤ r ∨ ch = false) : g = wt_f T L n := by
  rw [h]
  refine wt_i_e wf hL hn ?_
  rcases q with q | q
  · exact Or.inr q
  · rcases hc with hc | hc
    · rw [q] at hc; exact absurd hc (by decide)
    · exact Or.inl hc
theorem wt_f_u {T : cg_T} {L : Nat → Nat} {n : Nat} : ∀ j, wt_f T L n j ≤ 2 ^ 60 := wt_i_u n
theorem wt_b_at {T : cg_T} {L : Nat → Nat} {n t v : Nat} (hno : ∀ u, u < v → ¬ (L u = L t ∧ wt_c T L (wt_f T L n) u = wt_f T L n (L t))) (h1 : L v = L t) (h2 : wt_c T L (wt_f T L n) v = wt_f T L n (L t)) (hv : v < n) : v = wt_b T L n t := by
  refine (cg_fs_at (by simp [h1, h2]) (fun x hx => ?_) n hv).symm
  have q := hno x hx
  simp only [Bool.and_eq_false_iff, decide_eq_false_iff_not]
  by_cases q1 : L x = L t
  · exact Or.inr fun q2 => q ⟨q1, q2⟩
  · exact Or.inl q1
theorem wt_b_s {T : cg_T} {L : Nat → Nat} {n t v : Nat} (hno : ∀ u, u < v → ¬ (L u = L t ∧ wt_c T L (wt_f T L n) u = wt_f T L n (L t))) (h : ¬ (L v = L t ∧ wt_c T L (wt_f T L n) v = wt_f T L n (L t))) : ∀ u, u < v + 1 → ¬ (L u = L t ∧ wt_c T L (wt_f T L n) u = wt_f T L n (L t)) := by
  intro u hu
  by_cases e : u = v
  · rw [e]; exact h
  · exact hno u (by omega)
theorem wt_b_d {T : cg_T} {L : Nat → Nat} {n t v : Nat} (wf : cg_wf T n) (hL : ∀ t, t < n → L t < n) (hn : n ≤ 40) (ht : t < n) (hno : ∀ u, u < v → ¬ (L u = L t ∧ wt_c T L (wt_f T L n) u = wt_f T L n (L t))) (h : n ≤ v) : False := by
  have a := wt_b_p wf hL hn ht
  exact hno _ (Nat.lt_of_lt_of_le a.1 h) a.2
/-! searching -/
def cg_sr (P : Nat → Bool) (n : Nat) : Nat := if cg_fs P n < n then cg_fs P n + 1 else 0
theorem cg_sr_y {P : Nat → Bool} {n v : Nat} (hno : ∀ u, u < v → P u = false) (h : P v = true) (hv : v < n) : v + 1 = cg_sr P n := by
  have e := cg_fs_at h hno n hv
  unfold cg_sr
  rw [e, if_pos hv]
theorem cg_sr_n {P : Nat → Bool} {n v : Nat} (hno : ∀ u, u < v → P u = false) (hv : n ≤ v) : 0 = cg_sr P n := by
  have e := cg_fs_no n (P := P) (fun u hu => hno u (by omega))
  unfold cg_sr
  rw [if_neg (by omega)]
theorem cg_sr_s {P : Nat → Bool} {v : Nat} (hno : ∀ u, u < v → P u = false) (h : P v = false) : ∀ u, u < v + 1 → P u = false := by
  intro u hu
  by_cases e : u = v
  · rw [e]; exact h
  · exact hno u (by omega)
/-! bits of a choice -/
theorem cb_1 : ∀ i, i < 32 → bt (nI 1) i = decide (i = 0) := by decide +kernel
theorem cb_one {q j : Nat} (hq : q < 32) (hj : j < 32) : bt (nI 1 <<< (nI q &&& 31)) j = decide (j = q) := by
  rw [b_shl q hq (nI 1) hj, cb_1 (j - q) (by omega)]
  by_cases h : q ≤ j
  · by_cases e : j = q
    · subst e; simp
    · rw [decide_eq_true h, decide_eq_false (by omega : ¬ j - q = 0), decide_eq_false e]; rfl
  · rw [decide_eq_false h, decide_eq_false (by omega : ¬ j = q)]; rfl
theorem cb_test {x : Int32} {q : Nat} (hq : q < 32) : x &&& (nI 1 <<< (nI q &&& 31)) = 0 ↔ bt x q = false := by
  constructor
  · intro h
    have a : bt (x &&& (nI 1 <<< (nI q &&& 31))) q = bt 0 q := by rw [h]
    rw [b_and, cb_one hq hq, b_0, decide_eq_true rfl, Bool.and_true] at a
    exact a
  · intro h
    refine b_ext fun j hj => ?_
    rw [b_and, cb_one hq hj, b_0]
    by_cases e : j = q
    · rw [e, h]; rfl
    · rw [decide_eq_false e, Bool.and_false]
def cb_ab (k : Nat) : Int32 := (nI 1 <<< (nI k &&& 31)) - nI 1
theorem cb_ab_b : ∀ k, k < 25 → ∀ j, j < 32 → bt (cb_ab k) j = decide (j < k) := by decide +kernel
theorem cb_tst1 {x : Int32} : x &&& nI 1 = nI 1 ↔ bt x 0 = true := by
  constructor
  · intro h
    have a : bt (x &&& nI 1) 0 = bt (nI 1) 0 := by rw [h]
    rw [b_and, cb_1 0 (by decide), decide_eq_true rfl, Bool.and_true] at a
    exact a
  · intro h
    refine b_ext fun j hj => ?_
    rw [b_and, cb_1 j hj]
    by_cases e : j = 0
    · rw [e, h]; rfl
    · rw [decide_eq_false e, Bool.and_false]
theorem cb_shr {x : Int32} {q : Nat} (hq : q < 32) : (x >>> (nI q &&& 31)) &&& nI 1 = nI 1 ↔ bt x q = true := by
  rw [cb_tst1, b_sshr q hq x (by decide), if_pos (by omega), Nat.add_zero]
