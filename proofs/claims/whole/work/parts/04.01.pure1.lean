/-! labels: merging, rounds, the congruence of a choice of equations (pure part; T: symbol, first and second argument, an argument coded: 0 none, k + 1 the term k) -/
abbrev cg_T : Type := (Nat → Int32) × (Nat → Nat) × (Nat → Nat)
abbrev cg_P : Type := (Nat → Nat) × Bool
def cg_mg (n : Nat) (f : Nat → Nat) (s t : Nat) : Nat → Nat := fun u => if u < n ∧ f u = max (f s) (f t) then min (f s) (f t) else f u
def cg_ar (f : Nat → Nat) : Nat → Nat
  | 0 => 0
  | k + 1 => f k + 1
abbrev cg_lk (T : cg_T) (f : Nat → Nat) (s t : Nat) : Prop := T.1 s = T.1 t ∧ cg_ar f (T.2.1 s) = cg_ar f (T.2.1 t) ∧ cg_ar f (T.2.2 s) = cg_ar f (T.2.2 t)
def cg_st (T : cg_T) (n : Nat) (p : cg_P) (s t : Nat) : cg_P := if p.1 s ≠ p.1 t ∧ cg_lk T p.1 s t then (cg_mg n p.1 s t, true) else p
def cg_in (T : cg_T) (n : Nat) (p : cg_P) (s : Nat) : Nat → cg_P
  | 0 => p
  | t + 1 => cg_st T n (cg_in T n p s t) s t
def cg_ou (T : cg_T) (n : Nat) (p : cg_P) : Nat → cg_P
  | 0 => p
  | s + 1 => cg_in T n (cg_ou T n p s) s s
def cg_rd (T : cg_T) (n : Nat) (f : Nat → Nat) : cg_P := cg_ou T n (f, false) n
def cg_it (T : cg_T) (n : Nat) (f : Nat → Nat) : Nat → Nat → Nat
  | 0 => f
  | k + 1 => (cg_rd T n (cg_it T n f k)).1
def cg_eq (n : Nat) (le ri : Nat → Nat) (S : Nat → Bool) : Nat → Nat → Nat
  | 0 => fun t => t
  | i + 1 => if S i = true then cg_mg n (cg_eq n le ri S i) (le i) (ri i) else cg_eq n le ri S i
def cg_lab (T : cg_T) (n : Nat) (le ri : Nat → Nat) (S : Nat → Bool) (k : Nat) : Nat → Nat := cg_it T n (cg_eq n le ri S k) n
def cg_cn (f : Nat → Nat) : Nat → Nat
  | 0 => 0
  | t + 1 => cg_cn f t + if f t = t then 1 else 0
def cg_ok (n : Nat) (f : Nat → Nat) : Prop := ∀ t, t < n → f t ≤ t ∧ f (f t) = f t
def cg_wf (T : cg_T) (n : Nat) : Prop := ∀ t, t < n → T.2.1 t ≤ t ∧ T.2.2 t ≤ t
def cg_we (n : Nat) (le ri : Nat → Nat) (k : Nat) : Prop := ∀ i, i < k → le i < n ∧ ri i < n
theorem cg_mg_y {n : Nat} {f : Nat → Nat} {s t u : Nat} (hu : u < n) (c : f u = max (f s) (f t)) : cg_mg n f s t u = min (f s) (f t) := if_pos ⟨hu, c⟩
theorem cg_mg_n {n : Nat} {f : Nat → Nat} {s t u : Nat} (c : ¬ f u = max (f s) (f t)) : cg_mg n f s t u = f u := if_neg fun q => c q.2
theorem cg_ok_min {n : Nat} {f : Nat → Nat} {s t : Nat} (h : cg_ok n f) (hs : s < n) (ht : t < n) : f (min (f s) (f t)) = min (f s) (f t) := by
  rcases Nat.le_total (f s) (f t) with q | q
  · rw [Nat.min_eq_left q]; exact (h s hs).2
  · rw [Nat.min_eq_right q]; exact (h t ht).2
theorem cg_ok_max {n : Nat} {f : Nat → Nat} {s t : Nat} (h : cg_ok n f) (hs : s < n) (ht : t < n) : f (max (f s) (f t)) = max (f s) (f t) := by
  rcases Nat.le_total (f s) (f t) with q | q
  · rw [Nat.max_eq_right q]; exact (h t ht).2
  · rw [Nat.max_eq_left q]; exact (h s hs).2
theorem cg_mg_ok {n : Nat} {f : Nat → Nat} {s t : Nat} (h : cg_ok n f) (hs : s < n) (ht : t < n) : cg_ok n (cg_mg n f s t) := by
  intro u hu
  have h1 := (h u hu).1
  have h2 := (h u hu).2
  by_cases c : f u = max (f s) (f t)
  · rw [cg_mg_y hu c]
    refine ⟨?_, ?_⟩
    · have a := Nat.min_le_left (f s) (f t)
      have b := Nat.le_max_left (f s) (f t)
      omega
    · by_cases c2 : f (min (f s) (f t)) = max (f s) (f t)
      · refine cg_mg_y ?_ c2
        have a := Nat.min_le_left (f s) (f t)
        have b := (h s hs).1
        omega
      · rw [cg_mg_n c2]
        exact cg_ok_min h hs ht
  · rw [cg_mg_n c]
    refine ⟨h1, ?_⟩
    rw [cg_mg_n (by rw [h2]; exact c)]
    exact h2
theorem cg_cn_le {f g : Nat → Nat} : ∀ m, (∀ t, t < m → g t = t → f t = t) → cg_cn g m ≤ cg_cn f m := by
  intro m
  induction m with
  | zero => intro _; exact Nat.le_refl _
  | succ m ih =>
    intro hk
    have h1 := ih (fun t ht => hk t (by omega))
    have hm := hk m (by omega)
    show cg_cn g m + (if g m = m then 1 else 0) ≤ cg_cn f m + (if f m = m then 1 else 0)
    by_cases e : g m = m
    · rw [if_pos e, if_pos (hm e)]; omega
    · rw [if_neg e]; omega
theorem cg_cn_lt {f g : Nat → Nat} {h : Nat} (h1 : f h = h) (h2 : ¬ g h = h) : ∀ m, h < m → (∀ t, t < m → g t = t → f t = t) → cg_cn g m < cg_cn f m := by
  intro m
  induction m with
  | zero => intro q; omega
  | succ m ih =>
    intro q hk
    have hk' : ∀ t, t < m → g t = t → f t = t := fun t ht => hk t (by omega)
    have hm := hk m (by omega)
    show cg_cn g m + (if g m = m then 1 else 0) < cg_cn f m + (if f m = m then 1 else 0)
    by_cases e : h = m
    · have a := cg_cn_le m hk'
      rw [← e, if_neg h2, if_pos h1]
      rw [← e] at a
      omega
    · have a := ih (by omega) hk'
      by_cases e1 : g m = m
      · rw [if_pos e1, if_pos (hm e1)]; omega
      · rw [if_neg e1]; omega
theorem cg_cn_top (f : Nat → Nat) : ∀ m, cg_cn f m ≤ m := by
  intro m
  induction m with
  | zero => exact Nat.le_refl _
  | succ m ih =>
    show cg_cn f m + (if f m = m then 1 else 0) ≤ m + 1
    by_cases e : f m = m
    · rw [if_pos e]; omega
    · rw [if_neg e]; omega
theorem cg_mg_lt {n : Nat} {f : Nat → Nat} {s t : Nat} (h : cg_ok n f) (hs : s < n) (ht : t < n) (hne : ¬ f s = f t) : cg_cn (cg_mg n f s t) n < cg_cn f n := by
  have hmx : max (f s) (f t) < n := by
    have a := (h s hs).1
    have b := (h t ht).1
    rcases Nat.le_total (f s) (f t) with q | q
    · rw [Nat.max_eq_right q]; omega
    · rw [Nat.max_eq_left q]; omega
  have hmm : ¬ min (f s) (f t) = max (f s) (f t) := by
    rcases Nat.le_total (f s) (f t) with q | q
    · rw [Nat.max_eq_right q, Nat.min_eq_left q]; exact hne
    · rw [Nat.max_eq_left q, Nat.min_eq_right q]; exact fun e => hne e.symm
  have hr := cg_ok_max h hs ht
  refine cg_cn_lt hr (by rw [cg_mg_y hmx hr]; exact hmm) n hmx fun u hu hg => ?_
  by_cases c : f u = max (f s) (f t)
  · rw [cg_mg_y hu c] at hg
    have hm := cg_ok_min h hs ht
    rw [hg] at hm
    exact hm
  · rw [cg_mg_n c] at hg
    exact hg
/-- a stretch of merging: nothing has changed, or there are fewer classes -/
def cg_ch (n : Nat) (p q : cg_P) : Prop := q = p ∨ (q.2 = true ∧ cg_cn q.1 n < cg_cn p.1 n)
theorem cg_ch_tr {n : Nat} {p q r : cg_P} (h1 : cg_ch n p q) (h2 : cg_ch n q r) : cg_ch n p r := by
  rcases h1 with rfl | h1
  · exact h2
  · rcases h2 with rfl | h2
    · exact Or.inr h1
    · exact Or.inr ⟨h2.1, Nat.lt_trans h2.2 h1.2⟩
theorem cg_st_ch {T : cg_T} {n : Nat} {p : cg_P} {s t : Nat} (h : cg_ok n p.1) (hs : s < n) (ht : t < n) : cg_ok n (cg_st T n p s t).1 ∧ cg_ch n p (cg_st T n p s t) := by
  by_cases c : p.1 s ≠ p.1 t ∧ cg_lk T p.1 s t
  · have e : cg_st T n p s t = (cg_mg n p.1 s t, true) := if_pos c
    rw [e]
    exact ⟨cg_mg_ok h hs ht, Or.inr ⟨rfl, cg_mg_lt h hs ht c.1⟩⟩
  · have e : cg_st T n p s t = p := if_neg c
    rw [e]
    exact ⟨h, Or.inl rfl⟩
theorem cg_in_ch {T : cg_T} {n : Nat} {p : cg_P} {s : Nat} (h : cg_ok n p.1) (hs : s < n) : ∀ t, t ≤ n → cg_ok n (cg_in T n p s t).1 ∧ cg_ch n p (cg_in T n p s t) := by
  intro t
  induction t with
  | zero => intro _; exact ⟨h, Or.inl rfl⟩
  | succ t ih =>
    intro ht
    obtain ⟨a, b⟩ := ih (by omega)
    obtain ⟨c, d⟩ := cg_st_ch (T := T) (t := t) a hs (by omega)
    exact ⟨c, cg_ch_tr b d⟩
theorem cg_ou_ch {T : cg_T} {n : Nat} {p : cg_P} (h : cg_ok n p.1) : ∀ s, s ≤ n → cg_ok n (cg_ou T n p s).1 ∧ cg_ch n p (cg_ou T n p s) := by
  intro s
  induction s with
  | zero => intro _; exact ⟨h, Or.inl rfl⟩
  | succ s ih =>
    intro hs
    obtain ⟨a, b⟩ := ih (by omega)
    obtain ⟨c, d⟩ := cg_in_ch (T := T) a (s := s) (by omega) s (by omega)
    exact ⟨c, cg_ch_tr b d⟩
theorem cg_rd_ch {T : cg_T} {n : Nat} {f : Nat → Nat} (h : cg_ok n f) : cg_ok n (cg_rd T n f).1 ∧ cg_ch n (f, false) (cg_rd T n f) := cg_ou_ch (p := (f, false)) h n (Nat.le_refl _)
def cg_fx (T : cg_T) (n : Nat) (f : Nat → Nat) : Prop := cg_rd T n f = (f, false)
theorem cg_rd_f {T : cg_T} {n : Nat} {f : Nat → Nat} (h : cg_ok n f) (hb : (cg_rd T n f).2 = false) : cg_fx T n f := by
  rcases (cg_rd_ch (T := T) h).2 with e | e
  · exact e
  · rw [hb] at e; exact absurd e.1 (by decide)
theorem cg_it_ok {T : cg_T} {n : Nat} {f : Nat → Nat} (h : cg_ok n f) : ∀ k, cg_ok n (cg_it T n f k) := by
  intro k
  induction k with
  | zero => exact h
  | succ k ih => exact (cg_rd_ch ih).1
theorem cg_it_s {T : cg_T} {n : Nat} {f : Nat → Nat} {k : Nat} (h : cg_fx T n (cg_it T n f k)) : cg_it T n f (k + 1) = cg_it T n f k := by
  show (cg_rd T n (cg_it T n f k)).1 = _
  rw [show cg_rd T n (cg_it T n f k) = (cg_it T n f k, false) from h]
theorem cg_it_fx {T : cg_T} {n : Nat} {f : Nat → Nat} (h : cg_ok n f) : ∀ k, cg_fx T n (cg_it T n f k) ∨ cg_cn (cg_it T n f (k + 1)) n + (k + 1) ≤ cg_cn f n := by
  intro k
  induction k with
  | zero =>
    rcases (cg_rd_ch (T := T) h).2 with e | e
    · exact Or.inl e
    · exact Or.inr (Nat.succ_le_of_lt e.2)
  | succ k ih =>
    rcases ih with e | e
    · refine Or.inl ?_
      rw [cg_it_s e]
      exact e
    · rcases (cg_rd_ch (T := T) (cg_it_ok h (k + 1))).2 with g | g
      · exact Or.inl g
      · refine Or.inr ?_
        have a : cg_cn (cg_it T n f (k + 1 + 1)) n < cg_cn (cg_it T n f (k + 1)) n := g.2
        omega
theorem cg_it_n {T : cg_T} {n : Nat} {f : Nat → Nat} (h : cg_ok n f) : cg_fx T n (cg_it T n f n) := by
  rcases cg_it_fx (T := T) h n with e | e
  · exact e
  · have a := cg_cn_top f n
    omega
theorem cg_it_j {T : cg_T} {n : Nat} {f : Nat → Nat} {k : Nat} (h : cg_fx T n (cg_it T n f k)) : ∀ j, cg_it T n f (k + j) = cg_it T n f k := by
  intro j
  induction j with
  | zero => rfl
  | succ j ih =>
    have e : cg_it T n f (k + j + 1) = cg_it T n f (k + j) := cg_it_s (by rw [ih]; exact h)
    exact e.trans ih
/-- the rounds end: nothing changes any more, or n rounds are through -/
theorem cg_it_e {T : cg_T} {n : Nat} {f : Nat → Nat} {r : Nat} (h : cg_ok n f) (hr : cg_fx T n (cg_it T n f r) ∨ n ≤ r) : cg_it T n f r = cg_it T n f n := by
  by_cases c : n ≤ r
  · have e := cg_it_j (cg_it_n (T := T) h) (r - n)
    rw [show n + (r - n) = r by omega] at e
    exact e
  · rcases hr with hr | hr
    · have e := cg_it_j hr (n - r)
      rw [show r + (n - r) = n by omega] at e
      exact e.symm
    · exact absurd hr c
theorem cg_it_x {T : cg_T} {n : Nat} {f : Nat → Nat} {r : Nat} (h : cg_ok n f) (hb : (cg_rd T n (cg_it T n f r)).2 = false) : cg_fx T n (cg_it T n f (r + 1)) := by
  have e := cg_rd_f (cg_it_ok h r) hb
  rw [cg_it_s e]
  exact e
/-- nothing changes in a round: the labels are closed -/
theorem cg_in_f {T : cg_T} {n : Nat} {p : cg_P} {s : Nat} {g : Nat → Nat} : ∀ t, cg_in T n p s t = (g, false) → p = (g, false) ∧ ∀ u, u < t → ¬ (g s ≠ g u ∧ cg_lk T g s u) := by
  intro t
  induction t with
  | zero => intro h; exact ⟨h, fun u hu => absurd hu (Nat.not_lt_zero _)⟩
  | succ t ih =>
    intro h
    have h2 : cg_st T n (cg_in T n p s t) s t = (g, false) := h
    by_cases c : (cg_in T n p s t).1 s ≠ (cg_in T n p s t).1 t ∧ cg_lk T (cg_in T n p s t).1 s t
    · have e : cg_st T n (cg_in T n p s t) s t = (cg_mg n (cg_in T n p s t).1 s t, true) := if_pos c
      rw [e] at h2
      exact Bool.noConfusion (show true = false from congrArg Prod.snd h2)
    · have e : cg_st T n (cg_in T n p s t) s t = cg_in T n p s t := if_neg c
      rw [e] at h2
      obtain ⟨a, b⟩ := ih h2
      refine ⟨a, fun u hu => ?_⟩
      by_cases q : u = t
      · rw [h2] at c
        rw [q]
        exact c
      · exact b u (by omega)
theorem cg_ou_f {T : cg_T} {n : Nat} {p : cg_P} {g : Nat → Nat} : ∀ s, cg_ou T n p s = (g, false) → p = (g, false) ∧ ∀ a, a < s → ∀ u, u < a → ¬ (g a ≠ g u ∧ cg_lk T g a u) := by
  intro s
  induction s with
  | zero => intro h; exact ⟨h, fun a ha => absurd ha (Nat.not_lt_zero _)⟩
  | succ s ih =>
    intro h
    obtain ⟨a, b⟩ := cg_in_f s (show cg_in T n (cg_ou T n p s) s s = (g, false) from h)
    obtain ⟨c, d⟩ := ih a
    refine ⟨c, fun v hv => ?_⟩
    by_cases q : v = s
    · rw [q]; exact b
    · exact d v (by omega)
def cg_cl (T : cg_T) (n : Nat) (g : Nat → Nat) : Prop := ∀ a, a < n → ∀ u, u < n → cg_lk T g a u → g a = g u
theorem cg_fx_cl {T : cg_T} {n : Nat} {g : Nat → Nat} (h : cg_fx T n g) : cg_cl T n g := by
  have k := (cg_ou_f (p := (g, false)) n h).2
  intro a ha u hu hl
  rcases Nat.lt_trichotomy u a with q | q | q
  · exact Decidable.byContradiction fun e => k a ha u q ⟨e, hl⟩
  · rw [q]
  · exact Decidable.byContradiction fun e => k u hu a q ⟨fun z => e z.symm, hl.1.symm, hl.2.1.symm, hl.2.2.symm⟩
/-- what one labelling joins, the other joins too -/
def cg_sb (n : Nat) (f h : Nat → Nat) : Prop := ∀ u, u < n → ∀ v, v < n → f u = f v → h u = h v
theorem cg_mg_sb {n : Nat} {f h : Nat → Nat} {s t : Nat} (k : cg_sb n f h) (hs : s < n) (ht : t < n) (e : h s = h t) : cg_sb n (cg_mg n f s t) h := by
  have key : ∀ u, u < n → ∀ v, v < n → f u = max (f s) (f t) → f v = min (f s) (f t) → h u = h v := by
    intro u hu v hv a b
    rcases Nat.le_total (f s) (f t) with q | q
    · rw [Nat.max_eq_right q] at a
      rw [Nat.min_eq_left q] at b
      rw [k u hu t ht a, k v hv s hs b]
      exact e.symm
    · rw [Nat.max_eq_left q] at a
      rw [Nat.min_eq_right q] at b
      rw [k u hu s hs a, k v hv t ht b]
      exact e
  intro u hu v hv g
  by_cases c1 : f u = max (f s) (f t)
  · by_cases c2 : f v = max (f s) (f t)
    · exact k u hu v hv (c1.trans c2.symm)
    · rw [cg_mg_y hu c1, cg_mg_n c2] at g
      exact key u hu v hv c1 g.symm
  · by_cases c2 : f v = max (f s) (f t)
    · rw [cg_mg_n c1, cg_mg_y hv c2] at g
      exact (key v hv u hu c2 g).symm
    · rw [cg_mg_n c1, cg_mg_n c2] at g
      exact k u hu v hv g
theorem cg_ar_sb {n : Nat} {f h : Nat → Nat} (k : cg_sb n f h) {x y : Nat} (hx : x ≤ n) (hy : y ≤ n) (e : cg_ar f x = cg_ar f y) : cg_ar h x = cg_ar h y := by
  cases x with
  | zero =>
    cases y with
    | zero => rfl
    | succ y => exact absurd (show (0 : Nat) = f y + 1 from e) (by omega)
  | succ x =>
    cases y with
    | zero => exact absurd (show f x + 1 = (0 : Nat) from e) (by omega)
    | succ y =>
      have e2 : f x + 1 = f y + 1 := e
      show h x + 1 = h y + 1
      rw [k x (by omega) y (by omega) (by omega)]
theorem cg_lk_sb {T : cg_T} {n : Nat} {f h : Nat → Nat} (w : cg_wf T n) (k : cg_sb n f h) {s t : Nat} (hs : s < n) (ht : t < n) (e : cg_lk T f s t) : cg_lk T h s t := by
  have a := w s hs
  have b := w t ht
  exact ⟨e.1, cg_ar_sb k (by omega) (by omega) e.2.1, cg_ar_sb k (by omega) (by omega) e.2.2⟩
theorem cg_st_sb {T : cg_T} {n : Nat} {p : cg_P} {h : Nat → Nat} (w : cg_wf T n) (hc : cg_cl T n h) {s t : Nat} (k : cg_sb n p.1 h) (hs : s < n) (ht : t < n) : cg_sb n (cg_st T n p s t).1 h := by
  by_cases c : p.1 s ≠ p.1 t ∧ cg_lk T p.1 s t
  · have e : cg_st T n p s t = (cg_mg n p.1 s t, true) := if_pos c
    rw [e]
    exact cg_mg_sb k hs ht (hc s hs t ht (cg_lk_sb w k hs ht c.2))
  · have e : cg_st T n p s t = p := if_neg c
    rw [e]
    exact k
theorem cg_in_sb {T : cg_T} {n : Nat} {p : cg_P} {h : Nat → Nat} (w : cg_wf T n) (hc : cg_cl T n h) {s : Nat} (k : cg_sb n p.1 h) (hs : s < n) : ∀ t, t ≤ n → cg_sb n (cg_in T n p s t).1 h := by
  intro t
  induction t with
  | zero => intro _; exact k
  | succ t ih => intro ht; exact cg_st_sb w hc (ih (by omega)) hs (by omega)
theorem cg_ou_sb {T : cg_T} {n : Nat} {p : cg_P} {h : Nat → Nat} (w : cg_wf T n) (hc : cg_cl T n h) (k : cg_sb n p.1 h) : ∀ s, s ≤ n → cg_sb n (cg_ou T n p s).1 h := by
  intro s
  induction s with
  | zero => intro _; exact k
  | succ s ih => intro hs; exact cg_in_sb w hc (ih (by omega)) (by omega) s (by omega)
theorem cg_it_sb {T : cg_T} {n : Nat} {f h : Nat → Nat} (w : cg_wf T n) (hc : cg_cl T n h) (k : cg_sb n f h) : ∀ r, cg_sb n (cg_it T n f r) h := by
  intro r
  induction r with
  | zero => exact k
  | succ r ih => exact cg_ou_sb (p := (cg_it T n f r, false)) w hc ih n (Nat.le_refl _)
theorem cg_eq_sb {n : Nat} {le ri : Nat → Nat} {S : Nat → Bool} {h : Nat → Nat} : ∀ k, cg_we n le ri k → (∀ i, i < k → S i = true → h (le i) = h (ri i)) → cg_sb n (cg_eq n le ri S k) h := by
  intro k
  induction k with
  | zero => intro _ _ u _ v _ e; exact congrArg h e
  | succ k ih =>
    intro w he
    have a := ih (fun i hi => w i (by omega)) (fun i hi => he i (by omega))
    by_cases c : S k = true
    · have e : cg_eq n le ri S (k + 1) = cg_mg n (cg_eq n le ri S k) (le k) (ri k) := if_pos c
      rw [e]
      exact cg_mg_sb a (w k (by omega)).1 (w k (by omega)).2 (he k (by omega) c)
    · have e : cg_eq n le ri S (k + 1) = cg_eq n le ri S k := if_neg c
      rw [e]
      exact a
theorem cg_eq_ok {n : Nat} {le ri : Nat → Nat} {S : Nat → Bool} : ∀ k, cg_we n le ri k → cg_ok n (cg_eq n le ri S k) := by
  intro k
  induction k with
  | zero => intro _ t _; exact ⟨Nat.le_refl _, rfl⟩
  | succ k ih =>
    intro w
    have a := ih (fun i hi => w i (by omega))
    by_cases c : S k = true
    · have e : cg_eq n le ri S (k + 1) = cg_mg n (cg_eq n le ri S k) (le k) (ri k) := if_pos c
      rw [e]
      exact cg_mg_ok a (w k (by omega)).1 (w k (by omega)).2
    · have e : cg_eq n le ri S (k + 1) = cg_eq n le ri S k := if_neg c
      rw [e]
      exact a
theorem cg_mg_st {n : Nat} {f : Nat → Nat} {s t : Nat} (hs : s < n) (ht : t < n) : cg_mg n f s t s = cg_mg n f s t t := by
  rcases Nat.le_total (f s) (f t) with q | q
  · rw [cg_mg_y ht (Nat.max_eq_right q).symm]
    by_cases c : f s = max (f s) (f t)
    · rw [cg_mg_y hs c]
    · rw [cg_mg_n c, Nat.min_eq_left q]
  · rw [cg_mg_y hs (Nat.max_eq_left q).symm]
    by_cases c : f t = max (f s) (f t)
    · rw [cg_mg_y ht c]
    · rw [cg_mg_n c, Nat.min_eq_right q]
/-- what was joined stays so -/
theorem cg_mg_up {n : Nat} {f : Nat → Nat} {s t : Nat} : cg_sb n f (cg_mg n f s t) := by
  intro u hu v hv e
  by_cases c : f u = max (f s) (f t)
  · rw [cg_mg_y hu c, cg_mg_y hv (e.symm.trans c)]
  · rw [cg_mg_n c, cg_mg_n (by rw [← e]; exact c)]
    exact e
theorem cg_sb_tr {n : Nat} {f g h : Nat → Nat} (a : cg_sb n f g) (b : cg_sb n g h) : cg_sb n f h := fun u hu v hv e => b u hu v hv (a u hu v hv e)
theorem cg_st_up {T : cg_T} {n : Nat} {p : cg_P} {s t : Nat} : cg_sb n p.1 (cg_st T n p s t).1 := by
  by_cases c : p.1 s ≠ p.1 t ∧ cg_lk T p.1 s t
  · have e : cg_st T n p s t = (cg_mg n p.1 s t, true) := if_pos c
    rw [e]
    exact cg_mg_up
  · have e : cg_st T n p s t = p := if_neg c
    rw [e]
    exact fun _ _ _ _ q => q
theorem cg_in_up {T : cg_T} {n : Nat} {p : cg_P} {s : Nat} : ∀ t, cg_sb n p.1 (cg_in T n p s t).1 := by
  intro t
  induction t with
  | zero => exact fun _ _ _ _ q => q
  | succ t ih => exact cg_sb_tr ih cg_st_up
theorem cg_ou_up {T : cg_T} {n : Nat} {p : cg_P} : ∀ s, cg_sb n p.1 (cg_ou T n p s).1 := by
  intro s
  induction s with
  | zero => exact fun _ _ _ _ q => q
  | succ s ih => exact cg_sb_tr ih (cg_in_up s)
theorem cg_it_up {T : cg_T} {n : Nat} {f : Nat → Nat} : ∀ r, cg_sb n f (cg_it T n f r) := by
  intro r
  induction r with
  | zero => exact fun _ _ _ _ q => q
  | succ r ih => exact cg_sb_tr ih (cg_ou_up (p := (cg_it T n f r, false)) n)
theorem cg_eq_in {n : Nat} {le ri : Nat → Nat} {S : Nat → Bool} : ∀ k, cg_we n le ri k → ∀ i, i < k → S i = true → cg_eq n le ri S k (le i) = cg_eq n le ri S k (ri i) := by
  intro k
  induction k with
  | zero => intro _ i hi; exact absurd hi (Nat.not_lt_zero _)
  | succ k ih =>
    intro w i hi hS
    by_cases c : S k = true
    · have e : cg_eq n le ri S (k + 1) = cg_mg n (cg_eq n le ri S k) (le k) (ri k) := if_pos c
      rw [e]
      by_cases q : i = k
      · rw [q]
        exact cg_mg_st (w k (by omega)).1 (w k (by omega)).2
      · exact cg_mg_up _ (w i hi).1 _ (w i hi).2 (ih (fun j hj => w j (by omega)) i (by omega) hS)
    · have e : cg_eq n le ri S (k + 1) = cg_eq n le ri S k := if_neg c
      rw [e]
      by_cases q : i = k
      · rw [q] at hS; exact absurd hS c
      · exact ih (fun j hj => w j (by omega)) i (by omega) hS
theorem cg_lab_ok {T : cg_T} {n k : Nat} {le ri : Nat → Nat} {S : Nat → Bool} (w : cg_we n le ri k) : cg_ok n (cg_lab T n le ri S k) := cg_it_ok (cg_eq_ok k w) n
theorem cg_lab_cl {T : cg_T} {n k : Nat} {le ri : Nat → Nat} {S : Nat → Bool} (w : cg_we n le ri k) : cg_cl T n (cg_lab T n le ri S k) := cg_fx_cl (cg_it_n (cg_eq_ok k w))
theorem cg_lab_in {T : cg_T} {n k : Nat} {le ri : Nat → Nat} {S : Nat → Bool} (w : cg_we n le ri k) {i : Nat} (hi : i < k) (hS : S i = true) : cg_lab T n le ri S k (le i) = cg_lab T n le ri S k (ri i) := cg_it_up n _ (w i hi).1 _ (w i hi).2 (cg_eq_in k w i hi hS)
/-- more equations join more -/
theorem cg_mono {T : cg_T} {n k : Nat} {le ri : Nat → Nat} {S S' : Nat → Bool} (wT : cg_wf T n) (w : cg_we n le ri k) (h : ∀ i, i < k → S i = true → S' i = true) : cg_sb n (cg_lab T n le ri S k) (cg_lab T n le ri S' k) :=
  cg_it_sb wT (cg_lab_cl w) (cg_eq_sb k w (fun _ hi hS => cg_lab_in w hi (h _ hi hS))) n
theorem cg_eq_ex {n : Nat} {le ri : Nat → Nat} {S S' : Nat → Bool} : ∀ k, (∀ i, i < k → S i = S' i) → cg_eq n le ri S k = cg_eq n le ri S' k := by
  intro k
  induction k with
  | zero => intro _; rfl
  | succ k ih =>
    intro h
    show (if S k = true then cg_mg n (cg_eq n le ri S k) (le k) (ri k) else cg_eq n le ri S k) = (if S' k = true then cg_mg n (cg_eq n le ri S' k) (le k) (ri k) else cg_eq n le ri S' k)
    rw [ih (fun i hi => h i (by omega)), h k (by omega)]
theorem cg_lab_ex {T : cg_T} {n k : Nat} {le ri : Nat → Nat} {S S' : Nat → Bool} (h : ∀ i, i < k → S i = S' i) : cg_lab T n le ri S k = cg_lab T n le ri S' k := by
  show cg_it T n (cg_eq n le ri S k) n = cg_it T n (cg_eq n le ri S' k) n
  rw [cg_eq_ex k h]
