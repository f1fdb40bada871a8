/-! the answers, as functions of the abstract state; f: labels -/
abbrev cg_LA (S : Nat → Int32) (F E : Nat → Nat) (n : Nat) (lf rt : Nat → Nat) (k : Nat) : Nat → Nat := cg_lab (S, F, E) n lf rt (fun _ => true) k
abbrev cg_TS : Type := Nat × (Nat → Int32) × (Nat → Nat) × (Nat → Nat)
abbrev cg_ES : Type := Nat × (Nat → Nat) × (Nat → Nat)
abbrev cg_LS : Type := Nat × (Nat → Nat) × (Nat → Nat) × (Nat → Nat)
def cg_PN (S : Nat → Int32) (F E : Nat → Nat) (sy : Int32) (x y : Nat) : Nat → Bool := fun u => decide (S u = sy) && (decide (F u = x) && decide (E u = y))
def cg_qn (n : Nat) (S : Nat → Int32) (F E : Nat → Nat) (sy a b : Int32) : Nat := cg_sr (cg_PN S F E sy (cx_c a) (cx_c b)) n
def an_make (n : Nat) (S : Nat → Int32) (F E : Nat → Nat) (sy a b : Int32) : Int32 :=
  if cx_sh n sy a b then (if cg_qn n S F E sy a b = 0 then (if n < 40 then nI n else -3) else aI (cg_qn n S F E sy a b)) else -2
def st_make (n : Nat) (S : Nat → Int32) (F E : Nat → Nat) (sy a b : Int32) : cg_TS :=
  if cx_sh n sy a b ∧ cg_qn n S F E sy a b = 0 ∧ n < 40 then (n + 1, upd S n sy, wt_u F n (cx_c a), wt_u E n (cx_c b)) else (n, S, F, E)
def an_equate (n : Nat) (S : Nat → Int32) (F E : Nat → Nat) (k : Nat) (lf rt : Nat → Nat) (x y : Int32) : Int32 :=
  if cx_T n x ∧ cx_T n y then (if k < 24 then nI (cg_cn (cg_LA S F E n lf rt k) n) - nI (cg_cn (cg_LA S F E n (wt_u lf k (cx_n x)) (wt_u rt k (cx_n y)) (k + 1)) n) else -3) else -2
def st_add (mx n k : Nat) (lf rt : Nat → Nat) (x y : Int32) : cg_ES :=
  if (cx_T n x ∧ cx_T n y) ∧ k < mx then (k + 1, wt_u lf k (cx_n x), wt_u rt k (cx_n y)) else (k, lf, rt)
def an_differ (n d : Nat) (x y : Int32) : Int32 := if cx_T n x ∧ cx_T n y then (if d < 16 then nI d else -3) else -2
def an_open (dp : Nat) : Int32 := if dp < 6 then nI (dp + 1) else -3
def st_open (n k d dp : Nat) (ct st dt : Nat → Nat) : cg_LS := if dp < 6 then (dp + 1, wt_u ct dp n, wt_u st dp k, wt_u dt dp d) else (dp, ct, st, dt)
def an_close (dp : Nat) : Int32 := if dp = 0 then -1 else nI (dp - 1)
def st_close (n k d dp : Nat) (ct st dt : Nat → Nat) : Nat × Nat × Nat × Nat := if dp = 0 then (n, k, d, dp) else (ct (dp - 1), st (dp - 1), dt (dp - 1), dp - 1)
def an_equal (n : Nat) (f : Nat → Nat) (x y : Int32) : Int32 := if cx_T n x ∧ cx_T n y then (if f (cx_n x) = f (cx_n y) then 1 else 0) else -2
def cg_PA (f on ot : Nat → Nat) (s t : Nat) : Nat → Bool := fun i => (decide (f (on i) = f s) && decide (f (ot i) = f t)) || (decide (f (on i) = f t) && decide (f (ot i) = f s))
def an_apart (n d : Nat) (f on ot : Nat → Nat) (x y : Int32) : Int32 := if cx_T n x ∧ cx_T n y then (if cg_sr (cg_PA f on ot (cx_n x) (cx_n y)) d = 0 then 0 else 1) else -2
def cg_PC (f on ot : Nat → Nat) : Nat → Bool := fun i => decide (f (on i) = f (ot i))
def an_cons (d : Nat) (f on ot : Nat → Nat) : Bool := decide (cg_fs (cg_PC f on ot) d = d)
def an_leader (n : Nat) (f : Nat → Nat) (x : Int32) : Int32 := if cx_T n x then nI (f (cx_n x)) else -2
def cg_PM (f : Nat → Nat) (t : Nat) : Nat → Bool := fun u => decide (f u = f t)
def an_members (n : Nat) (f : Nat → Nat) (x : Int32) : Int32 := if cx_T n x then nI (cg_ct (cg_PM f (cx_n x)) n) else -2
def cg_PF (S : Nat → Int32) (F E f : Nat → Nat) (sy : Int32) (x y : Nat) : Nat → Bool := fun u => decide (S u = sy ∧ cg_ar f (F u) = cg_ar f x ∧ cg_ar f (E u) = cg_ar f y)
def an_find (n : Nat) (S : Nat → Int32) (F E f : Nat → Nat) (sy a b : Int32) : Int32 :=
  if cx_sh n sy a b then (if cg_fs (cg_PF S F E f sy (cx_c a) (cx_c b)) n < n then nI (f (cg_fs (cg_PF S F E f sy (cx_c a) (cx_c b)) n)) else -1) else -2
/-- whether a choice joins i and j -/
def cg_J (S : Nat → Int32) (F E : Nat → Nat) (n : Nat) (lf rt : Nat → Nat) (k i j : Nat) (C : Nat → Bool) : Bool := decide (cg_lab (S, F, E) n lf rt C k i = cg_lab (S, F, E) n lf rt C k j)
def an_since (n : Nat) (S : Nat → Int32) (F E : Nat → Nat) (k : Nat) (lf rt : Nat → Nat) (x y : Int32) : Int32 :=
  if cx_T n x ∧ cx_T n y then aI (cg_sr (fun q => cg_J S F E n lf rt k (cx_n x) (cx_n y) (fun v => decide (v < q))) (k + 1)) else -2
def an_expl (n : Nat) (S : Nat → Int32) (F E : Nat → Nat) (k : Nat) (lf rt : Nat → Nat) (x y : Int32) : Int32 :=
  if cx_T n x ∧ cx_T n y then (if cg_J S F E n lf rt k (cx_n x) (cx_n y) (fun _ => true) = true then cg_xp (cg_J S F E n lf rt k (cx_n x) (cx_n y)) k 0 else -1) else -2
def cg_nd (J : Nat → Bool) : Nat → Int32
  | 0 => 0
  | i + 1 => if J i = true then cg_nd J i else cg_nd J i ||| (nI 1 <<< (nI i &&& 31))
def an_need (n : Nat) (S : Nat → Int32) (F E : Nat → Nat) (k : Nat) (lf rt : Nat → Nat) (x y : Int32) : Int32 :=
  if cx_T n x ∧ cx_T n y then (if cg_J S F E n lf rt k (cx_n x) (cx_n y) (fun _ => true) = true then cg_nd (fun i => cg_J S F E n lf rt k (cx_n x) (cx_n y) (fun v => !decide (v = i))) k else -1) else -2
def an_weight (n : Nat) (T : cg_T) (f : Nat → Nat) (x : Int32) : Int64 := if cx_T n x then lN (wt_f T f n (f (cx_n x))) else lN 0
def an_best (n : Nat) (T : cg_T) (f : Nat → Nat) (x : Int32) : Int32 := if cx_T n x then nI (wt_b T f n (cx_n x)) else -2
def an_written (n : Nat) (T : cg_T) (f : Nat → Nat) (x z : Int32) : Int32 :=
  if cx_T n x then (if 0 ≤ z ∧ cx_n z < wt_f T f n (f (cx_n x)) then wt_y4 T f n (cx_n x) (cx_n z) else -1) else -2
theorem cg_nd_y {J : Nat → Bool} {i : Nat} {x : Int32} (hx : x = cg_nd J i) (h : J i = true) : x = cg_nd J (i + 1) := by
  show x = if J i = true then cg_nd J i else _
  rw [if_pos h, hx]
theorem cg_nd_n {J : Nat → Bool} {i : Nat} {x : Int32} (hx : x = cg_nd J i) (h : J i = false) : x ||| (nI 1 <<< (nI i &&& 31)) = cg_nd J (i + 1) := by
  show _ = if J i = true then cg_nd J i else _
  rw [if_neg (by rw [h]; decide), hx]
/-! agreement -/
theorem cx_T_2 {n : Nat} {x y : Int32} (hn : n ≤ 40) (h : cx_T n x ∧ cx_T n y) : ∃ i j, (i < n ∧ x = nI i) ∧ (j < n ∧ y = nI j) := by
  obtain ⟨i, hi⟩ := cx_T_x hn h.1
  obtain ⟨j, hj⟩ := cx_T_x hn h.2
  exact ⟨i, j, hi, hj⟩
theorem cx_T_nn {n : Nat} {x : Int32} (hn : n ≤ 40) (h : cx_T n x) : cx_n x < n := by
  obtain ⟨i, h1, h2⟩ := cx_T_x hn h
  rw [h2, cx_n_n (by omega)]
  exact h1
theorem an_equal_ag {n : Nat} {f g : Nat → Nat} {x y : Int32} (hn : n ≤ 40) (h : ∀ u, u < n → f u = g u) : an_equal n f x y = an_equal n g x y := by
  unfold an_equal
  by_cases c : cx_T n x ∧ cx_T n y
  · rw [if_pos c, if_pos c, h _ (cx_T_nn hn c.1), h _ (cx_T_nn hn c.2)]
  · rw [if_neg c, if_neg c]
theorem cg_sr_ag {P P' : Nat → Bool} {n : Nat} (h : ∀ v, v < n → P v = P' v) : cg_sr P n = cg_sr P' n := by
  unfold cg_sr
  rw [cg_fs_ag n h]
theorem an_apart_ag {n d : Nat} {f g on ot : Nat → Nat} {x y : Int32} (hn : n ≤ 40) (hd : cg_we n on ot d) (h : ∀ u, u < n → f u = g u) : an_apart n d f on ot x y = an_apart n d g on ot x y := by
  unfold an_apart
  by_cases c : cx_T n x ∧ cx_T n y
  · rw [if_pos c, if_pos c, cg_sr_ag (P' := cg_PA g on ot (cx_n x) (cx_n y)) (fun v hv => ?_)]
    unfold cg_PA
    rw [h _ (hd v hv).1, h _ (hd v hv).2, h _ (cx_T_nn hn c.1), h _ (cx_T_nn hn c.2)]
  · rw [if_neg c, if_neg c]
theorem an_cons_ag {n d : Nat} {f g on ot : Nat → Nat} (hd : cg_we n on ot d) (h : ∀ u, u < n → f u = g u) : an_cons d f on ot = an_cons d g on ot := by
  unfold an_cons
  rw [cg_fs_ag (P' := cg_PC g on ot) d (fun v hv => ?_)]
  unfold cg_PC
  rw [h _ (hd v hv).1, h _ (hd v hv).2]
theorem an_leader_ag {n : Nat} {f g : Nat → Nat} {x : Int32} (hn : n ≤ 40) (h : ∀ u, u < n → f u = g u) : an_leader n f x = an_leader n g x := by
  unfold an_leader
  by_cases c : cx_T n x
  · rw [if_pos c, if_pos c, h _ (cx_T_nn hn c)]
  · rw [if_neg c, if_neg c]
theorem an_members_ag {n : Nat} {f g : Nat → Nat} {x : Int32} (hn : n ≤ 40) (h : ∀ u, u < n → f u = g u) : an_members n f x = an_members n g x := by
  unfold an_members
  by_cases c : cx_T n x
  · rw [if_pos c, if_pos c, cg_ct_ag (P' := cg_PM g (cx_n x)) n (fun v hv => ?_)]
    unfold cg_PM
    rw [h v hv, h _ (cx_T_nn hn c)]
  · rw [if_neg c, if_neg c]
theorem cx_sh_c {n : Nat} {sy a b : Int32} (hn : n ≤ 40) (h : cx_sh n sy a b) : cx_c a ≤ n ∧ cx_c b ≤ n := by
  obtain ⟨x, h1, h2⟩ := cx_A_x hn (cx_sh_a h).1
  obtain ⟨y, h3, h4⟩ := cx_A_x hn (cx_sh_a h).2
  rw [h2, h4, cx_c_a (by omega), cx_c_a (by omega)]
  exact ⟨h1, h3⟩
theorem an_find_ag {n : Nat} {S : Nat → Int32} {F E f g : Nat → Nat} {sy a b : Int32} (hn : n ≤ 40) (w : cg_wf (S, F, E) n) (h : ∀ u, u < n → f u = g u) : an_find n S F E f sy a b = an_find n S F E g sy a b := by
  unfold an_find
  by_cases c : cx_sh n sy a b
  · have cc := cx_sh_c hn c
    have e : cg_fs (cg_PF S F E f sy (cx_c a) (cx_c b)) n = cg_fs (cg_PF S F E g sy (cx_c a) (cx_c b)) n := by
      refine cg_fs_ag n (fun v hv => ?_)
      have q := w v hv
      simp only at q
      unfold cg_PF
      rw [cg_ar_ag h (x := F v) (by omega), cg_ar_ag h (x := E v) (by omega), cg_ar_ag h (x := cx_c a) cc.1, cg_ar_ag h (x := cx_c b) cc.2]
    rw [if_pos c, if_pos c, e]
    by_cases z : cg_fs (cg_PF S F E g sy (cx_c a) (cx_c b)) n < n
    · rw [if_pos z, if_pos z, h _ z]
    · rw [if_neg z, if_neg z]
  · rw [if_neg c, if_neg c]
theorem an_weight_ag {n : Nat} {T : cg_T} {f g : Nat → Nat} {x : Int32} (hn : n ≤ 40) (w : cg_wf T n) (h : ∀ u, u < n → f u = g u) : an_weight n T f x = an_weight n T g x := by
  unfold an_weight
  by_cases c : cx_T n x
  · rw [if_pos c, if_pos c, h _ (cx_T_nn hn c), wt_f_ag w h]
  · rw [if_neg c, if_neg c]
theorem an_best_ag {n : Nat} {T : cg_T} {f g : Nat → Nat} {x : Int32} (hn : n ≤ 40) (w : cg_wf T n) (h : ∀ u, u < n → f u = g u) : an_best n T f x = an_best n T g x := by
  unfold an_best
  by_cases c : cx_T n x
  · rw [if_pos c, if_pos c, wt_b_ag w h (cx_T_nn hn c)]
  · rw [if_neg c, if_neg c]
theorem wt_g_b {T : cg_T} {L : Nat → Nat} {n t k : Nat} (wf : cg_wf T n) (hL : ∀ t, t < n → L t < n) (hn : n ≤ 40) (ht : t < n) (hk : k < wt_f T L n (L t)) : wt_g T L n (wt_b T L n t, k) := by
  obtain ⟨b1, b2, b3⟩ := wt_b_p (T := T) wf hL hn ht
  exact ⟨b1, by show wt_c T L (wt_f T L n) (wt_b T L n t) = wt_f T L n (L (wt_b T L n t)); rw [b3, b2], by show k < wt_f T L n (L (wt_b T L n t)); rw [b2]; exact hk⟩
theorem wt_n_ag {T : cg_T} {L L' : Nat → Nat} {n : Nat} {q : Nat × Nat} (wf : cg_wf T n) (hL : ∀ t, t < n → L t < n) (hn : n ≤ 40) (h : ∀ t, t < n → L t = L' t) (g : wt_g T L n q) : wt_n T L n q = wt_n T L' n q := by
  have w1 := (wf q.1 g.1).1
  have w2 := (wf q.1 g.1).2
  have hq := g.1
  unfold wt_n
  by_cases z : q.2 = 0
  · rw [if_pos z, if_pos z]
  · obtain ⟨n2, n1, -, -, -⟩ := wt_n_g wf hL hn g z
    rw [if_neg z, if_neg z, ← wt_f_ag wf h, ← wt_a_ag (w := wt_f T L n) h (x := T.2.1 q.1) (by omega)]
    by_cases c : wt_a L (wt_f T L n) (T.2.1 q.1) ≤ q.2 - 1
    · have e := n2 c
      rw [if_pos c, if_pos c, wt_b_ag wf h (t := T.2.2 q.1 - 1) (by omega)]
    · have e := n1 c
      rw [if_neg c, if_neg c, wt_b_ag wf h (t := T.2.1 q.1 - 1) (by omega)]
theorem wt_w_ag {T : cg_T} {L L' : Nat → Nat} {n : Nat} {q : Nat × Nat} (wf : cg_wf T n) (hL : ∀ t, t < n → L t < n) (hn : n ≤ 40) (h : ∀ t, t < n → L t = L' t) (g : wt_g T L n q) : ∀ k, wt_w T L n q k = wt_w T L' n q k := by
  intro k
  induction k with
  | zero => rfl
  | succ k ih =>
    show wt_n T L n (wt_w T L n q k) = wt_n T L' n (wt_w T L' n q k)
    rw [← ih]
    exact wt_n_ag wf hL hn h (wt_w_g wf hL hn g k).1
theorem an_written_ag {n : Nat} {T : cg_T} {f g : Nat → Nat} {x z : Int32} (hn : n ≤ 40) (w : cg_wf T n) (hL : ∀ u, u < n → f u < n) (h : ∀ u, u < n → f u = g u) : an_written n T f x z = an_written n T g x z := by
  unfold an_written
  by_cases c : cx_T n x
  · have ct := cx_T_nn hn c
    rw [if_pos c, if_pos c, ← h _ ct, ← wt_f_ag w h]
    by_cases q : 0 ≤ z ∧ cx_n z < wt_f T f n (f (cx_n x))
    · rw [if_pos q, if_pos q]
      unfold wt_y4
      rw [← wt_b_ag w h ct, wt_w_ag w hL hn h (wt_g_b w hL hn ct q.2)]
    · rw [if_neg q, if_neg q]
  · rw [if_neg c, if_neg c]
/-- the labels of every choice that has all equations below k -/
theorem cg_all {T : cg_T} {n k : Nat} {lf rt : Nat → Nat} (hk : k ≤ 24) : cg_lab T n lf rt (bt (cb_ab k)) k = cg_lab T n lf rt (fun _ => true) k := cg_lab_ex (fun i hi => by rw [cb_ab_b k (by omega) i (by omega)]; exact decide_eq_true hi)
theorem cg_fs_s {P : Nat → Bool} {v : Nat} : decide (cg_fs P (v + 1) = v + 1) = (decide (cg_fs P v = v) && !P v) := by
  have hle := cg_fs_le P v
  show decide ((if cg_fs P v < v then cg_fs P v else if P v = true then v else v + 1) = v + 1) = _
  by_cases c : cg_fs P v < v
  · rw [if_pos c, decide_eq_false (by omega), decide_eq_false (by omega : ¬ cg_fs P v = v)]; rfl
  · rw [if_neg c, decide_eq_true (by omega : cg_fs P v = v)]
    cases hp : P v with
    | true => rw [if_pos rfl, decide_eq_false (by omega)]; rfl
    | false => rw [if_neg (by decide), decide_eq_true rfl]; rfl
