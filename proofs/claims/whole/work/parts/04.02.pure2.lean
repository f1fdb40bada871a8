/-! searching, counting, agreeing below n -/
theorem cg_least (P : Nat → Prop) (h : ∃ n, P n) : ∃ u, P u ∧ ∀ v, v < u → ¬ P v := by
  obtain ⟨n, hn⟩ := h
  induction n using Nat.strongRecOn with
  | ind n ih =>
    by_cases c : ∃ v, v < n ∧ P v
    · obtain ⟨v, h1, h2⟩ := c
      exact ih v h1 h2
    · exact ⟨n, hn, fun v hv q => c ⟨v, hv, q⟩⟩
theorem cg_mg_ag {n : Nat} {f g : Nat → Nat} {s t : Nat} (h : ∀ u, u < n → g u = f u) (hs : s < n) (ht : t < n) : ∀ u, u < n → cg_mg n g s t u = cg_mg n f s t u := by
  intro u hu
  unfold cg_mg
  rw [h u hu, h s hs, h t ht]
theorem cg_mg_cm {n : Nat} {f : Nat → Nat} {s t : Nat} : cg_mg n f s t = cg_mg n f t s := by
  funext u
  unfold cg_mg
  rw [Nat.max_comm, Nat.min_comm]
theorem cg_ar_ag {n : Nat} {f g : Nat → Nat} (h : ∀ u, u < n → g u = f u) {x : Nat} (hx : x ≤ n) : cg_ar g x = cg_ar f x := by
  cases x with
  | zero => rfl
  | succ k =>
    show g k + 1 = f k + 1
    rw [h k (by omega)]
/-- the least place below n at which P holds, n if there is none -/
def cg_fs (P : Nat → Bool) : Nat → Nat
  | 0 => 0
  | n + 1 => if cg_fs P n < n then cg_fs P n else if P n = true then n else n + 1
theorem cg_fs_le (P : Nat → Bool) : ∀ n, cg_fs P n ≤ n := by
  intro n
  induction n with
  | zero => exact Nat.le_refl _
  | succ n ih =>
    show (if cg_fs P n < n then cg_fs P n else if P n = true then n else n + 1) ≤ n + 1
    split
    · omega
    · split <;> omega
theorem cg_fs_no {P : Nat → Bool} : ∀ n, (∀ v, v < n → P v = false) → cg_fs P n = n := by
  intro n
  induction n with
  | zero => intro _; rfl
  | succ n ih =>
    intro h
    have e := ih (fun v hv => h v (by omega))
    show (if cg_fs P n < n then cg_fs P n else if P n = true then n else n + 1) = n + 1
    rw [if_neg (by omega), if_neg (by rw [h n (by omega)]; decide)]
theorem cg_fs_at {P : Nat → Bool} {u : Nat} (hu : P u = true) (hv : ∀ v, v < u → P v = false) : ∀ n, u < n → cg_fs P n = u := by
  intro n
  induction n with
  | zero => intro h; omega
  | succ n ih =>
    intro h
    show (if cg_fs P n < n then cg_fs P n else if P n = true then n else n + 1) = u
    by_cases e : u = n
    · have k := cg_fs_no n (P := P) (fun v h2 => hv v (by omega))
      rw [if_neg (by omega), if_pos (by rw [← e]; exact hu)]
      exact e.symm
    · have k := ih (by omega)
      rw [if_pos (by omega)]
      exact k
theorem cg_fs_p {P : Nat → Bool} : ∀ n, cg_fs P n < n → P (cg_fs P n) = true ∧ ∀ v, v < cg_fs P n → P v = false := by
  intro n
  induction n with
  | zero => intro h; exact absurd h (Nat.not_lt_zero _)
  | succ n ih =>
    intro h
    by_cases c : cg_fs P n < n
    · have e : cg_fs P (n + 1) = cg_fs P n := if_pos c
      rw [e]
      exact ih c
    · have hno : ∀ v, v < n → P v = false := by
        intro v hv
        cases hp : P v with
        | false => rfl
        | true =>
          obtain ⟨u, h1, h2⟩ := cg_least (fun v => v < n ∧ P v = true) ⟨v, hv, hp⟩
          have := cg_fs_at (P := P) (u := u) h1.2 (fun x hx => by
            cases hq : P x with
            | false => rfl
            | true => exact absurd ⟨by omega, hq⟩ (h2 x hx)) n h1.1
          omega
      by_cases hp : P n = true
      · have e : cg_fs P (n + 1) = n := by
          show (if cg_fs P n < n then cg_fs P n else if P n = true then n else n + 1) = n
          rw [if_neg c, if_pos hp]
        rw [e]
        exact ⟨hp, hno⟩
      · have e : cg_fs P (n + 1) = n + 1 := by
          show (if cg_fs P n < n then cg_fs P n else if P n = true then n else n + 1) = n + 1
          rw [if_neg c, if_neg hp]
        omega
/-- at how many places below n it holds -/
def cg_ct (P : Nat → Bool) : Nat → Nat
  | 0 => 0
  | t + 1 => cg_ct P t + if P t = true then 1 else 0
theorem cg_ct_le {P Q : Nat → Bool} : ∀ m, (∀ t, t < m → Q t = true → P t = true) → cg_ct Q m ≤ cg_ct P m := by
  intro m
  induction m with
  | zero => intro _; exact Nat.le_refl _
  | succ m ih =>
    intro hk
    have h1 := ih (fun t ht => hk t (by omega))
    have hm := hk m (by omega)
    show cg_ct Q m + (if Q m = true then 1 else 0) ≤ cg_ct P m + (if P m = true then 1 else 0)
    by_cases e : Q m = true
    · rw [if_pos e, if_pos (hm e)]; omega
    · rw [if_neg e]; omega
theorem cg_ct_lt {P Q : Nat → Bool} {h : Nat} (h1 : P h = true) (h2 : ¬ Q h = true) : ∀ m, h < m → (∀ t, t < m → Q t = true → P t = true) → cg_ct Q m < cg_ct P m := by
  intro m
  induction m with
  | zero => intro q; omega
  | succ m ih =>
    intro q hk
    have hk' : ∀ t, t < m → Q t = true → P t = true := fun t ht => hk t (by omega)
    have hm := hk m (by omega)
    show cg_ct Q m + (if Q m = true then 1 else 0) < cg_ct P m + (if P m = true then 1 else 0)
    by_cases e : h = m
    · have a := cg_ct_le m hk'
      rw [← e, if_neg h2, if_pos h1]
      rw [← e] at a
      omega
    · have a := ih (by omega) hk'
      by_cases e1 : Q m = true
      · rw [if_pos e1, if_pos (hm e1)]; omega
      · rw [if_neg e1]; omega
theorem cg_ct_top (P : Nat → Bool) : ∀ m, cg_ct P m ≤ m := by
  intro m
  induction m with
  | zero => exact Nat.le_refl _
  | succ m ih =>
    show cg_ct P m + (if P m = true then 1 else 0) ≤ m + 1
    by_cases e : P m = true
    · rw [if_pos e]; omega
    · rw [if_neg e]; omega
theorem cg_ct_no {P : Nat → Bool} {h : Nat} (h2 : ¬ P h = true) : ∀ m, h < m → cg_ct P m < m := by
  intro m
  induction m with
  | zero => intro q; omega
  | succ m ih =>
    intro q
    show cg_ct P m + (if P m = true then 1 else 0) < m + 1
    by_cases e : h = m
    · have a := cg_ct_top P m
      rw [if_neg (by rw [← e]; exact h2)]; omega
    · have a := ih (by omega)
      by_cases e1 : P m = true
      · rw [if_pos e1]; omega
      · rw [if_neg e1]; omega
/-! weights: T terms, L labels, w the weights of the labels; 2 ^ 60 is 'not known yet' -/
def wt_a (L w : Nat → Nat) : Nat → Nat
  | 0 => 0
  | k + 1 => w (L k)
def wt_c (T : cg_T) (L w : Nat → Nat) (t : Nat) : Nat := 1 + wt_a L w (T.2.1 t) + wt_a L w (T.2.2 t)
def wt_u (w : Nat → Nat) (c x : Nat) : Nat → Nat := fun j => if j = c then x else w j
def wt_s (T : cg_T) (L : Nat → Nat) (p : cg_P) (t : Nat) : cg_P := if wt_c T L p.1 t < p.1 (L t) then (wt_u p.1 (L t) (wt_c T L p.1 t), true) else p
def wt_o (T : cg_T) (L : Nat → Nat) (p : cg_P) : Nat → cg_P
  | 0 => p
  | t + 1 => wt_s T L (wt_o T L p t) t
def wt_r (T : cg_T) (L : Nat → Nat) (n : Nat) (w : Nat → Nat) : cg_P := wt_o T L (w, false) n
def wt_i (T : cg_T) (L : Nat → Nat) (n : Nat) : Nat → Nat → Nat
  | 0 => fun _ => 2 ^ 60
  | k + 1 => (wt_r T L n (wt_i T L n k)).1
def wt_f (T : cg_T) (L : Nat → Nat) (n : Nat) : Nat → Nat := wt_i T L n n
def wt_m (w : Nat → Nat) : Nat → Nat
  | 0 => 0
  | j + 1 => wt_m w j + w j
def wt_x (T : cg_T) (L : Nat → Nat) (n : Nat) (w : Nat → Nat) : Prop := wt_r T L n w = (w, false)
def wt_l (g f : Nat → Nat) : Prop := ∀ j, g j ≤ f j
theorem wt_l_tr {f g h : Nat → Nat} (a : wt_l f g) (b : wt_l g h) : wt_l f h := fun j => Nat.le_trans (a j) (b j)
theorem wt_m_le {f g : Nat → Nat} (h : wt_l g f) : ∀ m, wt_m g m ≤ wt_m f m := by
  intro m
  induction m with
  | zero => exact Nat.le_refl _
  | succ m ih => exact Nat.add_le_add ih (h m)
theorem wt_m_lt {f g : Nat → Nat} (h : wt_l g f) {c : Nat} (hc : g c < f c) : ∀ m, c < m → wt_m g m < wt_m f m := by
  intro m
  induction m with
  | zero => intro q; omega
  | succ m ih =>
    intro q
    show wt_m g m + g m < wt_m f m + f m
    have a := h m
    by_cases e : c = m
    · have b := wt_m_le h m
      rw [← e]
      rw [← e] at b
      omega
    · have b := ih (by omega)
      omega
theorem wt_u_le {w : Nat → Nat} {c x : Nat} (h : x ≤ w c) : wt_l (wt_u w c x) w := by
  intro j
  unfold wt_u
  by_cases e : j = c
  · rw [if_pos e, e]; exact h
  · rw [if_neg e]; exact Nat.le_refl _
theorem wt_u_at {w : Nat → Nat} {c x : Nat} : wt_u w c x c = x := if_pos rfl
theorem wt_u_ne {w : Nat → Nat} {c x j : Nat} (h : ¬ j = c) : wt_u w c x j = w j := if_neg h
theorem wt_s_le {T : cg_T} {L : Nat → Nat} {p : cg_P} {t : Nat} : wt_l (wt_s T L p t).1 p.1 := by
  by_cases c : wt_c T L p.1 t < p.1 (L t)
  · have e : wt_s T L p t = (wt_u p.1 (L t) (wt_c T L p.1 t), true) := if_pos c
    rw [e]
    exact wt_u_le (Nat.le_of_lt c)
  · have e : wt_s T L p t = p := if_neg c
    rw [e]
    exact fun _ => Nat.le_refl _
theorem wt_s_at {T : cg_T} {L : Nat → Nat} {p : cg_P} {t : Nat} : (wt_s T L p t).1 (L t) ≤ wt_c T L p.1 t := by
  by_cases c : wt_c T L p.1 t < p.1 (L t)
  · have e : wt_s T L p t = (wt_u p.1 (L t) (wt_c T L p.1 t), true) := if_pos c
    rw [e]
    show wt_u p.1 (L t) (wt_c T L p.1 t) (L t) ≤ _
    rw [wt_u_at]
    exact Nat.le_refl _
  · have e : wt_s T L p t = p := if_neg c
    rw [e]
    exact Nat.le_of_not_lt c
theorem wt_o_le {T : cg_T} {L : Nat → Nat} {p : cg_P} {a : Nat} : ∀ j, wt_l (wt_o T L p (a + j)).1 (wt_o T L p a).1 := by
  intro j
  induction j with
  | zero => exact fun _ => Nat.le_refl _
  | succ j ih => exact wt_l_tr (wt_s_le (p := wt_o T L p (a + j)) (t := a + j)) ih
theorem wt_o_l0 {T : cg_T} {L : Nat → Nat} {p : cg_P} (m : Nat) : wt_l (wt_o T L p m).1 p.1 := by
  have h := wt_o_le (T := T) (L := L) (p := p) (a := 0) m
  rw [Nat.zero_add] at h
  exact h
theorem wt_a_le {L g f : Nat → Nat} (h : wt_l g f) (x : Nat) : wt_a L g x ≤ wt_a L f x := by
  cases x with
  | zero => exact Nat.le_refl _
  | succ k => exact h _
theorem wt_c_le {T : cg_T} {L g f : Nat → Nat} (h : wt_l g f) (t : Nat) : wt_c T L g t ≤ wt_c T L f t := by
  have a := wt_a_le (L := L) h (T.2.1 t)
  have b := wt_a_le (L := L) h (T.2.2 t)
  unfold wt_c
  omega
theorem wt_o_ch {T : cg_T} {L : Nat → Nat} {n : Nat} (hL : ∀ t, t < n → L t < n) {p : cg_P} : ∀ m, m ≤ n → wt_o T L p m = p ∨ ((wt_o T L p m).2 = true ∧ wt_m (wt_o T L p m).1 n < wt_m p.1 n) := by
  intro m
  induction m with
  | zero => intro _; exact Or.inl rfl
  | succ m ih =>
    intro hm
    have k := ih (by omega)
    by_cases c : wt_c T L (wt_o T L p m).1 m < (wt_o T L p m).1 (L m)
    · have e : wt_o T L p (m + 1) = (wt_u (wt_o T L p m).1 (L m) (wt_c T L (wt_o T L p m).1 m), true) := if_pos c
      rw [e]
      refine Or.inr ⟨rfl, ?_⟩
      have a : wt_m (wt_u (wt_o T L p m).1 (L m) (wt_c T L (wt_o T L p m).1 m)) n < wt_m (wt_o T L p m).1 n :=
        wt_m_lt (wt_u_le (Nat.le_of_lt c)) (c := L m) (by rw [wt_u_at]; exact c) n (hL m (by omega))
      have b := wt_m_le (wt_o_l0 (T := T) (L := L) (p := p) m) n
      exact Nat.lt_of_lt_of_le a b
    · have e : wt_o T L p (m + 1) = wt_o T L p m := if_neg c
      rw [e]
      exact k
theorem wt_r_f {T : cg_T} {L : Nat → Nat} {n : Nat} (hL : ∀ t, t < n → L t < n) {w : Nat → Nat} (hb : (wt_r T L n w).2 = false) : wt_x T L n w := by
  rcases wt_o_ch (T := T) hL (p := (w, false)) n (Nat.le_refl _) with e | e
  · exact e
  · exact absurd (e.1.symm.trans hb) (by decide)
theorem wt_i_s {T : cg_T} {L : Nat → Nat} {n k : Nat} (h : wt_x T L n (wt_i T L n k)) : wt_i T L n (k + 1) = wt_i T L n k := by
  show (wt_r T L n (wt_i T L n k)).1 = _
  rw [show wt_r T L n (wt_i T L n k) = (wt_i T L n k, false) from h]
theorem wt_i_j {T : cg_T} {L : Nat → Nat} {n k : Nat} (h : wt_x T L n (wt_i T L n k)) : ∀ j, wt_i T L n (k + j) = wt_i T L n k := by
  intro j
  induction j with
  | zero => rfl
  | succ j ih =>
    have e : wt_i T L n (k + j + 1) = wt_i T L n (k + j) := wt_i_s (by rw [ih]; exact h)
    exact e.trans ih
theorem wt_i_u {T : cg_T} {L : Nat → Nat} {n : Nat} : ∀ k j, wt_i T L n k j ≤ 2 ^ 60 := by
  intro k
  induction k with
  | zero => intro j; exact Nat.le_refl _
  | succ k ih => intro j; exact Nat.le_trans (wt_o_l0 (p := (wt_i T L n k, false)) n j) (ih j)
theorem wt_i_ex {T : cg_T} {L : Nat → Nat} {n : Nat} (hL : ∀ t, t < n → L t < n) : ∀ m k, wt_m (wt_i T L n k) n ≤ m → ∃ j, wt_x T L n (wt_i T L n j) := by
  intro m
  induction m with
  | zero =>
    intro k hk
    rcases wt_o_ch (T := T) hL (p := (wt_i T L n k, false)) n (Nat.le_refl _) with e | e
    · exact ⟨k, e⟩
    · have a := e.2
      have b : wt_m ((wt_i T L n k, false) : cg_P).1 n ≤ 0 := hk
      omega
  | succ m ih =>
    intro k hk
    rcases wt_o_ch (T := T) hL (p := (wt_i T L n k, false)) n (Nat.le_refl _) with e | e
    · exact ⟨k, e⟩
    · have a : wt_m (wt_i T L n (k + 1)) n < wt_m (wt_i T L n k) n := e.2
      exact ih (k + 1) (by omega)
/-- nothing can be lowered any more -/
def wt_y (T : cg_T) (L : Nat → Nat) (n : Nat) (w : Nat → Nat) : Prop := ∀ t, t < n → w (L t) ≤ wt_c T L w t
theorem wt_o_f {T : cg_T} {L : Nat → Nat} {p : cg_P} {w : Nat → Nat} : ∀ m, wt_o T L p m = (w, false) → p = (w, false) ∧ ∀ t, t < m → w (L t) ≤ wt_c T L w t := by
  intro m
  induction m with
  | zero => intro h; exact ⟨h, fun t ht => absurd ht (Nat.not_lt_zero _)⟩
  | succ m ih =>
    intro h
    by_cases c : wt_c T L (wt_o T L p m).1 m < (wt_o T L p m).1 (L m)
    · have e : wt_o T L p (m + 1) = (wt_u (wt_o T L p m).1 (L m) (wt_c T L (wt_o T L p m).1 m), true) := if_pos c
      rw [e] at h
      exact Bool.noConfusion (show true = false from congrArg Prod.snd h)
    · have e : wt_o T L p (m + 1) = wt_o T L p m := if_neg c
      rw [e] at h
      obtain ⟨a, b⟩ := ih h
      refine ⟨a, fun t ht => ?_⟩
      by_cases q : t = m
      · rw [h] at c
        rw [q]
        exact Nat.le_of_not_lt c
      · exact b t (by omega)
theorem wt_x_y {T : cg_T} {L : Nat → Nat} {n : Nat} {w : Nat → Nat} (h : wt_x T L n w) : wt_y T L n w := (wt_o_f (p := (w, false)) n h).2
theorem wt_y_x {T : cg_T} {L : Nat → Nat} {n : Nat} {w : Nat → Nat} (h : wt_y T L n w) : wt_x T L n w := by
  have k : ∀ m, m ≤ n → wt_o T L (w, false) m = (w, false) := by
    intro m
    induction m with
    | zero => intro _; rfl
    | succ m ih =>
      intro hm
      show wt_s T L (wt_o T L (w, false) m) m = (w, false)
      rw [ih (by omega)]
      exact if_neg (Nat.not_lt_of_le (h m (by omega)))
  exact k n (Nat.le_refl _)
theorem wt_a_lt {L w : Nat → Nat} {t : Nat} (h : ∀ u, u < t → w (L u) < 2 ^ (u + 1)) {x : Nat} (hx : x ≤ t) : wt_a L w x < 2 ^ t := by
  cases x with
  | zero => exact Nat.two_pow_pos t
  | succ k => exact Nat.lt_of_lt_of_le (h k (by omega)) (Nat.pow_le_pow_right (by decide) hx)
theorem wt_c_lt {T : cg_T} {L w : Nat → Nat} {n t : Nat} (wf : cg_wf T n) (ht : t < n) (h : ∀ u, u < t → w (L u) < 2 ^ (u + 1)) : wt_c T L w t < 2 ^ (t + 1) := by
  have a := wt_a_lt h (wf t ht).1
  have b := wt_a_lt h (wf t ht).2
  rw [Nat.pow_succ]
  unfold wt_c
  omega
theorem wt_y_lt {T : cg_T} {L w : Nat → Nat} {n : Nat} (wf : cg_wf T n) (h : wt_y T L n w) : ∀ t, t < n → w (L t) < 2 ^ (t + 1) := by
  intro t
  induction t using Nat.strongRecOn with
  | ind t ih =>
    intro ht
    exact Nat.lt_of_le_of_lt (h t ht) (wt_c_lt wf ht (fun u hu => ih u hu (by omega)))
/-- a known weight is the cost of some term, or more -/
def wt_v (T : cg_T) (L : Nat → Nat) (n : Nat) (w : Nat → Nat) : Prop := ∀ t, t < n → w (L t) = 2 ^ 60 ∨ ∃ u, u < n ∧ L u = L t ∧ wt_c T L w u ≤ w (L t)
theorem wt_s_v {T : cg_T} {L : Nat → Nat} {n : Nat} {p : cg_P} {t : Nat} (ht : t < n) (h : wt_v T L n p.1) : wt_v T L n (wt_s T L p t).1 := by
  have hle := wt_s_le (T := T) (L := L) (p := p) (t := t)
  by_cases c : wt_c T L p.1 t < p.1 (L t)
  · have e : wt_s T L p t = (wt_u p.1 (L t) (wt_c T L p.1 t), true) := if_pos c
    rw [e] at hle ⊢
    intro a ha
    by_cases q : L a = L t
    · refine Or.inr ⟨t, ht, q.symm, ?_⟩
      show wt_c T L (wt_u p.1 (L t) (wt_c T L p.1 t)) t ≤ wt_u p.1 (L t) (wt_c T L p.1 t) (L a)
      rw [q, wt_u_at]
      exact wt_c_le hle t
    · show wt_u p.1 (L t) (wt_c T L p.1 t) (L a) = 2 ^ 60 ∨ _
      rcases h a ha with g | ⟨u, h1, h2, h3⟩
      · left
        rw [wt_u_ne q]
        exact g
      · refine Or.inr ⟨u, h1, h2, ?_⟩
        show wt_c T L (wt_u p.1 (L t) (wt_c T L p.1 t)) u ≤ wt_u p.1 (L t) (wt_c T L p.1 t) (L a)
        rw [wt_u_ne q]
        exact Nat.le_trans (wt_c_le hle u) h3
  · have e : wt_s T L p t = p := if_neg c
    rw [e]
    exact h
theorem wt_o_v {T : cg_T} {L : Nat → Nat} {n : Nat} {p : cg_P} (h : wt_v T L n p.1) : ∀ m, m ≤ n → wt_v T L n (wt_o T L p m).1 := by
  intro m
  induction m with
  | zero => intro _; exact h
  | succ m ih => intro hm; exact wt_s_v (p := wt_o T L p m) (by omega) (ih (by omega))
theorem wt_i_v {T : cg_T} {L : Nat → Nat} {n : Nat} : ∀ k, wt_v T L n (wt_i T L n k) := by
  intro k
  induction k with
  | zero => intro t _; exact Or.inl rfl
  | succ k ih => exact wt_o_v (p := (wt_i T L n k, false)) ih n (Nat.le_refl _)
theorem wt_o_lo {T : cg_T} {L : Nat → Nat} {n : Nat} {F : Nat → Nat} (wf : cg_wf T n) (hF : wt_y T L n F) {p : cg_P} (h : ∀ t, t < n → F (L t) ≤ p.1 (L t)) : ∀ m, m ≤ n → ∀ t, t < n → F (L t) ≤ (wt_o T L p m).1 (L t) := by
  intro m
  induction m with
  | zero => intro _; exact h
  | succ m ih =>
    intro hm t ht
    have k := ih (by omega)
    by_cases c : wt_c T L (wt_o T L p m).1 m < (wt_o T L p m).1 (L m)
    · have e : wt_o T L p (m + 1) = (wt_u (wt_o T L p m).1 (L m) (wt_c T L (wt_o T L p m).1 m), true) := if_pos c
      rw [e]
      show F (L t) ≤ wt_u (wt_o T L p m).1 (L m) (wt_c T L (wt_o T L p m).1 m) (L t)
      by_cases q : L t = L m
      · rw [q, wt_u_at]
        have ar : ∀ x, x ≤ m → wt_a L F x ≤ wt_a L (wt_o T L p m).1 x := by
          intro x hx
          cases x with
          | zero => exact Nat.le_refl _
          | succ y => exact k y (by omega)
        have a := ar _ (wf m (by omega)).1
        have b := ar _ (wf m (by omega)).2
        refine Nat.le_trans (hF m (by omega)) ?_
        unfold wt_c
        omega
      · rw [wt_u_ne q]
        exact k t ht
    · have e : wt_o T L p (m + 1) = wt_o T L p m := if_neg c
      rw [e]
      exact k t ht
def wt_k (L F : Nat → Nat) (v : Nat) : Nat → Nat := cg_ct (fun t => decide (F (L t) < v))
theorem wt_k_lt {L F : Nat → Nat} {n a v : Nat} (ha : a < n) (h : F (L a) < v) : wt_k L F (F (L a)) n < wt_k L F v n := by
  refine cg_ct_lt (h := a) (by simpa using h) (by simp) n ha fun t _ ht => ?_
  have ht : F (L t) < F (L a) := by simpa using ht
  simpa using (Nat.lt_trans ht h)
theorem wt_k_n {L F : Nat → Nat} {n t : Nat} (ht : t < n) : wt_k L F (F (L t)) n < n := cg_ct_no (h := t) (by simp) n ht
/-- r rounds make right all weights below which fewer than r terms weigh less -/
theorem wt_cv {T : cg_T} {L F : Nat → Nat} {n : Nat} (wf : cg_wf T n) (hn : n ≤ 40) (hF : wt_y T L n F) (hv : wt_v T L n F) (hU : ∀ t, t < n → F (L t) ≤ 2 ^ 60) : ∀ r, (∀ t, t < n → F (L t) ≤ wt_i T L n r (L t)) ∧ ∀ t, t < n → wt_k L F (F (L t)) n < r → wt_i T L n r (L t) = F (L t) := by
  have hlt := wt_y_lt wf hF
  intro r
  induction r with
  | zero => exact ⟨hU, fun t _ h => absurd h (Nat.not_lt_zero _)⟩
  | succ r ih =>
    obtain ⟨lo, ex⟩ := ih
    have lo2 := wt_o_lo wf hF (p := (wt_i T L n r, false)) lo
    refine ⟨lo2 n (Nat.le_refl _), fun t ht hk => ?_⟩
    have hp : F (L t) < 2 ^ 60 := by
      refine Nat.lt_of_lt_of_le (hlt t ht) (Nat.pow_le_pow_right (by decide) ?_)
      omega
    rcases hv t ht with g | ⟨u, hu, e, hc⟩
    · omega
    · have hc2 : wt_c T L F u = F (L t) := Nat.le_antisymm hc (by rw [← e]; exact hF u hu)
      have ar : ∀ x, x ≤ u → wt_a L F x < F (L t) → wt_a L (wt_o T L (wt_i T L n r, false) u).1 x = wt_a L F x := by
        intro x hx hl
        cases x with
        | zero => rfl
        | succ y =>
          have hy : y < n := by omega
          have hl : F (L y) < F (L t) := hl
          have e1 := ex y hy (Nat.lt_of_lt_of_le (wt_k_lt (L := L) (F := F) hy hl) (by omega))
          have e2 := lo2 u (by omega) y hy
          have e3 := wt_o_l0 (T := T) (L := L) (p := (wt_i T L n r, false)) u (L y)
          have e3 : (wt_o T L (wt_i T L n r, false) u).1 (L y) ≤ wt_i T L n r (L y) := e3
          show (wt_o T L (wt_i T L n r, false) u).1 (L y) = F (L y)
          omega
      have a1 : wt_a L F (T.2.1 u) < F (L t) := by rw [← hc2]; unfold wt_c; omega
      have a2 : wt_a L F (T.2.2 u) < F (L t) := by rw [← hc2]; unfold wt_c; omega
      have b1 := ar _ (wf u hu).1 a1
      have b2 := ar _ (wf u hu).2 a2
      have cu : wt_c T L (wt_o T L (wt_i T L n r, false) u).1 u = F (L t) := by
        rw [← hc2]
        unfold wt_c
        rw [b1, b2]
      have s1 : (wt_o T L (wt_i T L n r, false) (u + 1)).1 (L u) ≤ F (L t) := by
        rw [← cu]
        exact wt_s_at (p := wt_o T L (wt_i T L n r, false) u)
      have s2 := wt_o_le (T := T) (L := L) (p := (wt_i T L n r, false)) (a := u + 1) (n - (u + 1)) (L u)
      rw [show u + 1 + (n - (u + 1)) = n by omega] at s2
      have s3 := lo2 n (Nat.le_refl _) t ht
      show (wt_o T L (wt_i T L n r, false) n).1 (L t) = F (L t)
      rw [e] at s1 s2
      omega
theorem wt_fin {T : cg_T} {L : Nat → Nat} {n : Nat} (wf : cg_wf T n) (hL : ∀ t, t < n → L t < n) (hn : n ≤ 40) : wt_y T L n (wt_f T L n) ∧ wt_v T L n (wt_f T L n) := by
  obtain ⟨j, hj⟩ := wt_i_ex (T := T) hL _ 0 (Nat.le_refl _)
  have hF := wt_x_y hj
  have hv := wt_i_v (T := T) (L := L) (n := n) j
  have c := (wt_cv wf hn hF hv (fun t _ => wt_i_u j (L t)) n).2
  have ag : ∀ t, t < n → wt_f T L n (L t) = wt_i T L n j (L t) := fun t ht => c t ht (wt_k_n ht)
  refine ⟨fun t ht => ?_, wt_i_v n⟩
  have ar : ∀ x, x ≤ t → wt_a L (wt_f T L n) x = wt_a L (wt_i T L n j) x := by
    intro x hx
    cases x with
    | zero => rfl
    | succ y => exact ag y (by omega)
  have k := hF t ht
  rw [ag t ht]
  unfold wt_c
  rw [ar _ (wf t ht).1, ar _ (wf t ht).2]
  exact k
theorem wt_fix {T : cg_T} {L : Nat → Nat} {n : Nat} (wf : cg_wf T n) (hL : ∀ t, t < n → L t < n) (hn : n ≤ 40) : wt_x T L n (wt_i T L n n) := wt_y_x (wt_fin wf hL hn).1
theorem wt_i_e {T : cg_T} {L : Nat → Nat} {n r : Nat} (wf : cg_wf T n) (hL : ∀ t, t < n → L t < n) (hn : n ≤ 40) (hr : wt_x T L n (wt_i T L n r) ∨ n ≤ r) : wt_i T L n r = wt_f T L n := by
  show wt_i T L n r = wt_i T L n n
  by_cases c : n ≤ r
  · have e := wt_i_j (wt_fix wf hL hn) (r - n)
    rw [show n + (r - n) = r by omega] at e
    exact e
  · rcases hr with hr | hr
    · have e := wt_i_j hr (n - r)
      rw [show r + (n - r) = n by omega] at e
      exact e.symm
    · exact absurd hr c
theorem wt_i_x {T : cg_T} {L : Nat → Nat} {n r : Nat} (hL : ∀ t, t < n → L t < n) (hb : (wt_r T L n (wt_i T L n r)).2 = false) : wt_x T L n (wt_i T L n (r + 1)) := by
  have e := wt_r_f hL hb
  rw [wt_i_s e]
  exact e
/-- bounds on the way: known weights are small and not 0 -/
def wt_B (L : Nat → Nat) (m : Nat) (w : Nat → Nat) : Prop := (∀ u, u < m → w (L u) < 2 ^ (u + 1)) ∧ ∀ j, w j = 2 ^ 60 ∨ (1 ≤ w j ∧ w j < 2 ^ 40)
theorem wt_s_B {T : cg_T} {L : Nat → Nat} {n : Nat} {p : cg_P} {t : Nat} (wf : cg_wf T n) (hn : n ≤ 40) (ht : t < n) (h : wt_B L t p.1) : wt_B L (t + 1) (wt_s T L p t).1 := by
  have hc := wt_c_lt (L := L) (w := p.1) wf ht h.1
  have hle := wt_s_le (T := T) (L := L) (p := p) (t := t)
  have hat := wt_s_at (T := T) (L := L) (p := p) (t := t)
  refine ⟨fun u hu => ?_, fun j => ?_⟩
  · by_cases q : u = t
    · rw [q]
      exact Nat.lt_of_le_of_lt hat hc
    · exact Nat.lt_of_le_of_lt (hle (L u)) (h.1 u (by omega))
  · by_cases c : wt_c T L p.1 t < p.1 (L t)
    · have e : wt_s T L p t = (wt_u p.1 (L t) (wt_c T L p.1 t), true) := if_pos c
      rw [e]
      show wt_u p.1 (L t) (wt_c T L p.1 t) j = 2 ^ 60 ∨ (1 ≤ wt_u p.1 (L t) (wt_c T L p.1 t) j ∧ wt_u p.1 (L t) (wt_c T L p.1 t) j < 2 ^ 40)
      by_cases q : j = L t
      · rw [q, wt_u_at]
        refine Or.inr ⟨by unfold wt_c; omega, Nat.lt_of_lt_of_le hc (Nat.pow_le_pow_right (by decide) (by omega))⟩
      · rw [wt_u_ne q]
        exact h.2 j
    · have e : wt_s T L p t = p := if_neg c
      rw [e]
      exact h.2 j
theorem wt_o_B {T : cg_T} {L : Nat → Nat} {n : Nat} {p : cg_P} (wf : cg_wf T n) (hn : n ≤ 40) (h : wt_B L 0 p.1) : ∀ m, m ≤ n → wt_B L m (wt_o T L p m).1 := by
  intro m
  induction m with
  | zero => intro _; exact h
  | succ m ih => intro hm; exact wt_s_B (p := wt_o T L p m) wf hn (by omega) (ih (by omega))
theorem wt_i_B {T : cg_T} {L : Nat → Nat} {n : Nat} (wf : cg_wf T n) (hn : n ≤ 40) : ∀ k, wt_B L 0 (wt_i T L n k) := by
  intro k
  induction k with
  | zero => exact ⟨fun u hu => absurd hu (Nat.not_lt_zero _), fun _ => Or.inl rfl⟩
  | succ k ih =>
    have a := wt_o_B (T := T) (p := (wt_i T L n k, false)) wf hn ih n (Nat.le_refl _)
    exact ⟨fun u hu => absurd hu (Nat.not_lt_zero _), a.2⟩
