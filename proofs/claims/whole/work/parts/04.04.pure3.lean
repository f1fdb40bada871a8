/-! the best term, the shortest writing -/
def wt_b (T : cg_T) (L : Nat → Nat) (n : Nat) (t : Nat) : Nat := cg_fs (fun u => decide (L u = L t) && decide (wt_c T L (wt_f T L n) u = wt_f T L n (L t))) n
theorem wt_b_p {T : cg_T} {L : Nat → Nat} {n t : Nat} (wf : cg_wf T n) (hL : ∀ t, t < n → L t < n) (hn : n ≤ 40) (ht : t < n) : wt_b T L n t < n ∧ L (wt_b T L n t) = L t ∧ wt_c T L (wt_f T L n) (wt_b T L n t) = wt_f T L n (L t) := by
  obtain ⟨hy, hv⟩ := wt_fin wf hL hn
  have hlt := wt_y_lt wf hy t ht
  have hlt2 : wt_f T L n (L t) < 2 ^ 60 := Nat.lt_of_lt_of_le hlt (Nat.pow_le_pow_right (by decide) (by omega))
  rcases hv t ht with g | ⟨u, hu, e, hc⟩
  · omega
  · have hc2 : wt_c T L (wt_f T L n) u = wt_f T L n (L t) := Nat.le_antisymm hc (by rw [← e]; exact hy u hu)
    have hlt3 : wt_b T L n t < n := by
      by_cases c : wt_b T L n t < n
      · exact c
      · obtain ⟨v, h1, h2⟩ := cg_least (fun v => L v = L t ∧ wt_c T L (wt_f T L n) v = wt_f T L n (L t)) ⟨u, e, hc2⟩
        have hvu : v ≤ u := Nat.le_of_not_lt fun q => h2 u q ⟨e, hc2⟩
        have k : wt_b T L n t = v := cg_fs_at (by simp [h1.1, h1.2]) (fun x hx => by
          have q := h2 x hx
          simp only [Bool.and_eq_false_iff, decide_eq_false_iff_not]
          by_cases q1 : L x = L t
          · exact Or.inr fun q2 => q ⟨q1, q2⟩
          · exact Or.inl q1) n (by omega)
        omega
    have k := (cg_fs_p n hlt3).1
    simp only [Bool.and_eq_true, decide_eq_true_eq] at k
    exact ⟨hlt3, k.1, k.2⟩
def wt_n (T : cg_T) (L : Nat → Nat) (n : Nat) (q : Nat × Nat) : Nat × Nat :=
  if q.2 = 0 then q else if wt_a L (wt_f T L n) (T.2.1 q.1) ≤ q.2 - 1 then (wt_b T L n (T.2.2 q.1 - 1), q.2 - 1 - wt_a L (wt_f T L n) (T.2.1 q.1)) else (wt_b T L n (T.2.1 q.1 - 1), q.2 - 1)
def wt_w (T : cg_T) (L : Nat → Nat) (n : Nat) (q : Nat × Nat) : Nat → Nat × Nat
  | 0 => q
  | k + 1 => wt_n T L n (wt_w T L n q k)
/-- on the way down: a best term, and a place within its weight -/
def wt_g (T : cg_T) (L : Nat → Nat) (n : Nat) (q : Nat × Nat) : Prop := q.1 < n ∧ wt_c T L (wt_f T L n) q.1 = wt_f T L n (L q.1) ∧ q.2 < wt_f T L n (L q.1)
theorem wt_n_g {T : cg_T} {L : Nat → Nat} {n : Nat} (wf : cg_wf T n) (hL : ∀ t, t < n → L t < n) (hn : n ≤ 40) {q : Nat × Nat} (h : wt_g T L n q) (h0 : ¬ q.2 = 0) :
    (wt_a L (wt_f T L n) (T.2.1 q.1) ≤ q.2 - 1 → ¬ T.2.2 q.1 = 0) ∧ (¬ wt_a L (wt_f T L n) (T.2.1 q.1) ≤ q.2 - 1 → ¬ T.2.1 q.1 = 0) ∧ wt_g T L n (wt_n T L n q) ∧ (wt_n T L n q).2 < q.2 ∧ wt_f T L n (L (wt_n T L n q).1) < wt_f T L n (L q.1) := by
  obtain ⟨hq, hc, hl⟩ := h
  have w1 := (wf q.1 hq).1
  have w2 := (wf q.1 hq).2
  have hc1 : 1 + wt_a L (wt_f T L n) (T.2.1 q.1) + wt_a L (wt_f T L n) (T.2.2 q.1) = wt_f T L n (L q.1) := hc
  by_cases c : wt_a L (wt_f T L n) (T.2.1 q.1) ≤ q.2 - 1
  · have e : wt_n T L n q = (wt_b T L n (T.2.2 q.1 - 1), q.2 - 1 - wt_a L (wt_f T L n) (T.2.1 q.1)) := by
      unfold wt_n
      rw [if_neg h0, if_pos c]
    rw [e]
    have ne : ¬ T.2.2 q.1 = 0 := by
      intro z
      have z2 : wt_a L (wt_f T L n) (T.2.2 q.1) = 0 := by rw [z]; rfl
      omega
    obtain ⟨y, hy⟩ : ∃ y, T.2.2 q.1 = y + 1 := ⟨T.2.2 q.1 - 1, by omega⟩
    have hya : wt_a L (wt_f T L n) (T.2.2 q.1) = wt_f T L n (L y) := by rw [hy]; rfl
    obtain ⟨b1, b2, b3⟩ := wt_b_p (T := T) (t := T.2.2 q.1 - 1) wf hL hn (by omega)
    have hy2 : T.2.2 q.1 - 1 = y := by omega
    rw [hy2] at b1 b2 b3 ⊢
    refine ⟨fun _ => ne, fun z => absurd c z, ⟨b1, by rw [b3, b2], ?_⟩, ?_, ?_⟩
    · show q.2 - 1 - wt_a L (wt_f T L n) (T.2.1 q.1) < wt_f T L n (L (wt_b T L n y))
      rw [b2]
      omega
    · show q.2 - 1 - wt_a L (wt_f T L n) (T.2.1 q.1) < q.2
      omega
    · show wt_f T L n (L (wt_b T L n y)) < wt_f T L n (L q.1)
      rw [b2]
      omega
  · have e : wt_n T L n q = (wt_b T L n (T.2.1 q.1 - 1), q.2 - 1) := by
      unfold wt_n
      rw [if_neg h0, if_neg c]
    rw [e]
    have ne : ¬ T.2.1 q.1 = 0 := by
      intro z
      have z2 : wt_a L (wt_f T L n) (T.2.1 q.1) = 0 := by rw [z]; rfl
      omega
    obtain ⟨y, hy⟩ : ∃ y, T.2.1 q.1 = y + 1 := ⟨T.2.1 q.1 - 1, by omega⟩
    have hya : wt_a L (wt_f T L n) (T.2.1 q.1) = wt_f T L n (L y) := by rw [hy]; rfl
    obtain ⟨b1, b2, b3⟩ := wt_b_p (T := T) (t := T.2.1 q.1 - 1) wf hL hn (by omega)
    have hy2 : T.2.1 q.1 - 1 = y := by omega
    rw [hy2] at b1 b2 b3 ⊢
    refine ⟨fun z => absurd z c, fun _ => ne, ⟨b1, by rw [b3, b2], ?_⟩, ?_, ?_⟩
    · show q.2 - 1 < wt_f T L n (L (wt_b T L n y))
      rw [b2]
      omega
    · show q.2 - 1 < q.2
      omega
    · show wt_f T L n (L (wt_b T L n y)) < wt_f T L n (L q.1)
      rw [b2]
      omega
theorem wt_w_g {T : cg_T} {L : Nat → Nat} {n : Nat} (wf : cg_wf T n) (hL : ∀ t, t < n → L t < n) (hn : n ≤ 40) {q : Nat × Nat} (h : wt_g T L n q) : ∀ k, wt_g T L n (wt_w T L n q k) ∧ ((wt_w T L n q k).2 = 0 ∨ k + wt_k L (wt_f T L n) (wt_f T L n (L (wt_w T L n q k).1)) n < n) := by
  intro k
  induction k with
  | zero => exact ⟨h, Or.inr (by show 0 + _ < n; rw [Nat.zero_add]; exact wt_k_n h.1)⟩
  | succ k ih =>
    obtain ⟨a, b⟩ := ih
    by_cases c : (wt_w T L n q k).2 = 0
    · have e : wt_w T L n q (k + 1) = wt_w T L n q k := if_pos c
      rw [e]
      exact ⟨a, Or.inl c⟩
    · obtain ⟨_, _, g, _, hd⟩ := wt_n_g wf hL hn a c
      refine ⟨g, Or.inr ?_⟩
      rcases b with b | b
      · exact absurd b c
      · have d := wt_k_lt (L := L) (F := wt_f T L n) (n := n) (a := (wt_n T L n (wt_w T L n q k)).1) g.1 hd
        show k + 1 + wt_k L (wt_f T L n) (wt_f T L n (L (wt_n T L n (wt_w T L n q k)).1)) n < n
        omega
theorem wt_w_z {T : cg_T} {L : Nat → Nat} {n : Nat} {q : Nat × Nat} {k : Nat} (h : (wt_w T L n q k).2 = 0) : ∀ j, wt_w T L n q (k + j) = wt_w T L n q k := by
  intro j
  induction j with
  | zero => rfl
  | succ j ih =>
    have e : wt_w T L n q (k + j + 1) = wt_w T L n q (k + j) := if_pos (by rw [ih]; exact h)
    exact e.trans ih
/-- the way down ends within 40 steps -/
theorem wt_w_e {T : cg_T} {L : Nat → Nat} {n : Nat} (wf : cg_wf T n) (hL : ∀ t, t < n → L t < n) (hn : n ≤ 40) {q : Nat × Nat} (h : wt_g T L n q) {r : Nat} (hr : (wt_w T L n q r).2 = 0 ∨ 40 ≤ r) : wt_w T L n q r = wt_w T L n q 40 := by
  have z : (wt_w T L n q 40).2 = 0 := by
    rcases (wt_w_g wf hL hn h 40).2 with e | e
    · exact e
    · omega
  by_cases c : 40 ≤ r
  · have e := wt_w_z z (r - 40)
    rw [show 40 + (r - 40) = r by omega] at e
    exact e
  · rcases hr with hr | hr
    · have e := wt_w_z hr (40 - r)
      rw [show r + (40 - r) = 40 by omega] at e
      exact e.symm
    · exact absurd hr c
/-- the symbol at a place of the shortest writing -/
def wt_y4 (T : cg_T) (L : Nat → Nat) (n t k : Nat) : Int32 := T.1 (wt_w T L n (wt_b T L n t, k) 40).1
/-! the explanation: J says whether a choice of equations joins; x holds the choice as bits -/
def cg_bw (x : Int32) (k : Nat) : Nat → Bool := fun j => bt x j || decide (j < k)
def cg_xp (J : (Nat → Bool) → Bool) : Nat → Int32 → Int32
  | 0, x => x
  | i + 1, x => if J (cg_bw x i) = true then cg_xp J i x else cg_xp J i (x ||| ((1 : Int32) <<< (nI i &&& 31)))
theorem cg_xp_sk {J : (Nat → Bool) → Bool} {x : Int32} {k : Nat} : ∀ i, k ≤ i → (∀ j, k ≤ j → j < i → J (cg_bw x j) = true) → cg_xp J i x = cg_xp J k x := by
  intro i
  induction i with
  | zero => intro h _; rw [Nat.le_zero.mp h]
  | succ i ih =>
    intro h hj
    by_cases e : k = i + 1
    · rw [e]
    · have a : cg_xp J (i + 1) x = cg_xp J i x := if_pos (hj i (by omega) (by omega))
      rw [a]
      exact ih (by omega) (fun j h1 h2 => hj j h1 (by omega))
theorem cg_xp_ad {J : (Nat → Bool) → Bool} {x : Int32} {i : Nat} (h : ¬ J (cg_bw x i) = true) : cg_xp J (i + 1) x = cg_xp J i (x ||| ((1 : Int32) <<< (nI i &&& 31))) := if_neg h
/-! labels that agree below n give the same weights -/
theorem wt_a_ag {L L' w : Nat → Nat} {n x : Nat} (h : ∀ t, t < n → L t = L' t) (hx : x ≤ n) : wt_a L w x = wt_a L' w x := by
  cases x with
  | zero => rfl
  | succ k =>
    show w (L k) = w (L' k)
    rw [h k (by omega)]
theorem wt_c_ag {T : cg_T} {L L' w : Nat → Nat} {n t : Nat} (wf : cg_wf T n) (h : ∀ t, t < n → L t = L' t) (ht : t < n) : wt_c T L w t = wt_c T L' w t := by
  have a := wf t ht
  unfold wt_c
  rw [wt_a_ag h (by omega), wt_a_ag h (by omega)]
theorem wt_o_ag {T : cg_T} {L L' : Nat → Nat} {n : Nat} {p : cg_P} (wf : cg_wf T n) (h : ∀ t, t < n → L t = L' t) : ∀ m, m ≤ n → wt_o T L p m = wt_o T L' p m := by
  intro m
  induction m with
  | zero => intro _; rfl
  | succ m ih =>
    intro hm
    show wt_s T L (wt_o T L p m) m = wt_s T L' (wt_o T L' p m) m
    rw [ih (by omega)]
    unfold wt_s
    rw [wt_c_ag wf h (by omega), h m (by omega)]
theorem wt_i_ag {T : cg_T} {L L' : Nat → Nat} {n : Nat} (wf : cg_wf T n) (h : ∀ t, t < n → L t = L' t) : ∀ k, wt_i T L n k = wt_i T L' n k := by
  intro k
  induction k with
  | zero => rfl
  | succ k ih =>
    show (wt_o T L (wt_i T L n k, false) n).1 = (wt_o T L' (wt_i T L' n k, false) n).1
    rw [ih, wt_o_ag wf h n (Nat.le_refl _)]
theorem wt_f_ag {T : cg_T} {L L' : Nat → Nat} {n : Nat} (wf : cg_wf T n) (h : ∀ t, t < n → L t = L' t) : wt_f T L n = wt_f T L' n := wt_i_ag wf h n
theorem cg_fs_ag {P P' : Nat → Bool} : ∀ n, (∀ v, v < n → P v = P' v) → cg_fs P n = cg_fs P' n := by
  intro n
  induction n with
  | zero => intro _; rfl
  | succ n ih =>
    intro h
    show (if cg_fs P n < n then cg_fs P n else if P n = true then n else n + 1) = (if cg_fs P' n < n then cg_fs P' n else if P' n = true then n else n + 1)
    rw [ih (fun v hv => h v (by omega)), h n (by omega)]
theorem cg_ct_ag {P P' : Nat → Bool} : ∀ n, (∀ v, v < n → P v = P' v) → cg_ct P n = cg_ct P' n := by
  intro n
  induction n with
  | zero => intro _; rfl
  | succ n ih =>
    intro h
    show cg_ct P n + (if P n = true then 1 else 0) = cg_ct P' n + (if P' n = true then 1 else 0)
    rw [ih (fun v hv => h v (by omega)), h n (by omega)]
theorem cg_cn_ag {f g : Nat → Nat} : ∀ n, (∀ v, v < n → f v = g v) → cg_cn f n = cg_cn g n := by
  intro n
  induction n with
  | zero => intro _; rfl
  | succ n ih =>
    intro h
    show cg_cn f n + (if f n = n then 1 else 0) = cg_cn g n + (if g n = n then 1 else 0)
    rw [ih (fun v hv => h v (by omega)), h n (by omega)]
theorem wt_b_ag {T : cg_T} {L L' : Nat → Nat} {n t : Nat} (wf : cg_wf T n) (h : ∀ t, t < n → L t = L' t) (ht : t < n) : wt_b T L n t = wt_b T L' n t := by
  refine cg_fs_ag n fun v hv => ?_
  rw [h v hv, h t ht, wt_f_ag wf h, wt_c_ag wf h hv]
/-! the state of the ledger: terms, equations, disequations, levels -/
abbrev cg_S : Type := (Nat × (Nat → Int32) × (Nat → Nat) × (Nat → Nat)) × (Nat × (Nat → Nat) × (Nat → Nat)) × (Nat × (Nat → Nat) × (Nat → Nat)) × (Nat × (Nat → Nat) × (Nat → Nat) × (Nat → Nat))
def cg_WT (n : Nat) (F E : Nat → Nat) : Prop := n ≤ 40 ∧ ∀ t, t < n → F t ≤ t ∧ E t ≤ t
/-- terms, equations, disequations as they are, and as they were when each level was opened -/
def cg_WF (n : Nat) (F E : Nat → Nat) (k : Nat) (lf rt : Nat → Nat) (d : Nat) (on ot : Nat → Nat) (dp : Nat) (ct st dt : Nat → Nat) : Prop :=
  cg_WT n F E ∧ k ≤ 24 ∧ cg_we n lf rt k ∧ d ≤ 16 ∧ cg_we n on ot d ∧ dp ≤ 6 ∧
  (∀ j, j < dp → ct j ≤ n ∧ st j ≤ k ∧ dt j ≤ d ∧ cg_we (ct j) lf rt (st j) ∧ cg_we (ct j) on ot (dt j)) ∧
  (∀ i j, i < j → j < dp → ct i ≤ ct j ∧ st i ≤ st j ∧ dt i ≤ dt j)
