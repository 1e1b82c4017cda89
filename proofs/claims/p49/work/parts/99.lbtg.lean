section
/-! an evening's lines: what they tell, by themselves; the class reads and judges them -/
def ev_st (e : tk_E) (p : Nat) : Int := fw_c (tk e p).2.1
/-- the clue's line: a fault (0: none), where -/
def ev_h (A : ab_SG) (e : tk_E) : Int × Int :=
  if tw e 0 ≠ 1 then (1, ev_st e 0)
  else if pr_sk A e 58 (A 49 12) (tn e 0) ≠ 0 then (pr_sk A e 58 (A 49 12) (tn e 0), ev_st e (tn e 0))
  else if (tk e (tn e (tn e 0))).1 ≠ 59 then (1, ev_st e (tn e (tn e 0)))
  else (0, 0)
def ev_c (A : ab_SG) (e : tk_E) : Int := pr_ix A e 58 (A 49 12) (tn e 0)
/-- a line's -/
def ev_g (A : ab_SG) (e : tk_E) (p : Nat) : Int × Int :=
  if pr_sk A e 59 (A 49 13) p ≠ 0 then (pr_sk A e 59 (A 49 13) p, ev_st e p)
  else if tw e (tn e p) ≠ 6 ∧ pr_nm e (tn e p) 1 9 ≠ 0 then (pr_nm e (tn e p) 1 9, ev_st e (tn e p))
  else if (tk e (tn e (tn e p))).1 ≠ 59 then (1, ev_st e (tn e (tn e p)))
  else (0, 0)
def ev_w (e : tk_E) (p : Nat) : Int := if tw e (tn e p) = 6 then 0 else (tk e (tn e p)).2.2.2.2
def ev_p (A : ab_SG) (e : tk_E) (p : Nat) : Int := pr_ix A e 59 (A 49 13) p
/-- where a line begins -/
def ev_q (e : tk_E) : Nat → Nat
  | 0 => tn e (tn e (tn e 0))
  | i + 1 => tn e (tn e (tn e (ev_q e i)))
theorem ev_qs (e : tk_E) (i : Nat) : ev_q e (i + 1) = tn e (tn e (tn e (ev_q e i))) := rfl
/-- all lines: a fault, where, how many -/
def ev_a (A : ab_SG) (e : tk_E) : Nat → Nat → Int × Int × Nat
  | 0, i => (0, 0, i)
  | f + 1, i => if (tk e (ev_q e i)).1 = 0 then (0, 0, i) else if (ev_g A e (ev_q e i)).1 ≠ 0 then ((ev_g A e (ev_q e i)).1, (ev_g A e (ev_q e i)).2, i) else ev_a A e f (i + 1)
theorem ev_a0 {A : ab_SG} {e : tk_E} {f i : Nat} (h : (tk e (ev_q e i)).1 = 0) : ev_a A e (f + 1) i = (0, 0, i) := if_pos h
theorem ev_a1 {A : ab_SG} {e : tk_E} {f i : Nat} (h : (tk e (ev_q e i)).1 ≠ 0) (g : (ev_g A e (ev_q e i)).1 ≠ 0) : ev_a A e (f + 1) i = ((ev_g A e (ev_q e i)).1, (ev_g A e (ev_q e i)).2, i) := (if_neg h).trans (if_pos g)
theorem ev_a2 {A : ab_SG} {e : tk_E} {f i : Nat} (h : (tk e (ev_q e i)).1 ≠ 0) (g : (ev_g A e (ev_q e i)).1 = 0) : ev_a A e (f + 1) i = ev_a A e f (i + 1) := (if_neg h).trans (if_neg (fun z => z g))
def ev_r (A : ab_SG) (e : tk_E) : Int × Int × Nat := if (ev_h A e).1 ≠ 0 then ((ev_h A e).1, (ev_h A e).2, 0) else ev_a A e 400 0
theorem ev_r1 {A : ab_SG} {e : tk_E} (h : (ev_h A e).1 ≠ 0) : ev_r A e = ((ev_h A e).1, (ev_h A e).2, 0) := if_pos h
theorem ev_r2 {A : ab_SG} {e : tk_E} (h : (ev_h A e).1 = 0) : ev_r A e = ev_a A e 400 0 := if_neg (fun z => z h)
/-- what is known behind a line: why it is wrong, which was, the bid, whose, who names, who is to speak -/
abbrev jg_T : Type := Int × Int × Int × Int × Int × Int
def jg_0 : jg_T := (0, -1, 0, -1, -1, -1)
def jg_w (A : ab_SG) (s : jg_T) (p n : Int) : Int :=
  if s.2.2.2.2.1 ≠ -1 then 1
  else if (s.2.2.2.2.2 ≠ -1 ∧ p ≠ s.2.2.2.2.2) ∨ (s.2.2.2.2.2 = -1 ∧ p = s.2.2.2.1) then 2
  else if n = 0 then (if s.2.2.1 = 0 then 4 else 0)
  else if (if s.2.2.1 = 0 then A 49 14 else s.2.2.1 - 1) < n then 3 else 0
def jg_1 (A : ab_SG) (s : jg_T) (i p n : Int) : jg_T :=
  if s.1 ≠ 0 then s
  else if jg_w A s p n ≠ 0 then (jg_w A s p n, i, s.2.2.1, s.2.2.2.1, s.2.2.2.2.1, s.2.2.2.2.2)
  else if n = 0 then (0, s.2.1, s.2.2.1, s.2.2.2.1, p, -1)
  else (0, s.2.1, n, p, s.2.2.2.2.1, s.2.2.2.1)
def jg_n (A : ab_SG) (e : tk_E) : Nat → jg_T
  | 0 => jg_0
  | i + 1 => jg_1 A (jg_n A e i) ((i : Int) + 1) (ev_p A e (ev_q e i)) (ev_w e (ev_q e i))
theorem jg_ns (A : ab_SG) (e : tk_E) (i : Nat) : jg_n A e (i + 1) = jg_1 A (jg_n A e i) ((i : Int) + 1) (ev_p A e (ev_q e i)) (ev_w e (ev_q e i)) := rfl
def v_ev (A : ab_SG) (e : tk_E) : Int := if (ev_r A e).1 ≠ 0 then -2 - (ev_r A e).2.1 else (jg_n A e (ev_r A e).2.2).2.1
/-! where tokens end: a line takes four bytes -/
theorem tk_run_al (t : Nat → Int) : ∀ (f p : Nat) (s : tk_S), (tk_run t f p s).1 < p + f → ¬ ((97 ≤ t (tk_run t f p s).1 ∧ t (tk_run t f p s).1 ≤ 122) ∨ (48 ≤ t (tk_run t f p s).1 ∧ t (tk_run t f p s).1 ≤ 57)) := by
  intro f
  induction f with
  | zero => intro p s h; exact absurd h (Nat.lt_irrefl _)
  | succ f ih =>
    intro p s h
    by_cases c : 97 ≤ t p ∧ t p ≤ 122
    · have e : tk_run t (f + 1) p s = tk_run t f (p + 1) (s.1 + 1, s.2.1, fw_d (s.2.2.1 * 32 + t p - 97 + 1), s.2.2.2) := if_pos c
      rw [e] at h ⊢
      exact ih (p + 1) _ (by omega)
    · by_cases c2 : 48 ≤ t p ∧ t p ≤ 57
      · have e : tk_run t (f + 1) p s = tk_run t f (p + 1) (s.1, s.2.1 + 1, s.2.2.1, fw_c (s.2.2.2 * 10 + t p - 48)) := (if_neg c).trans (if_pos c2)
        rw [e] at h ⊢
        exact ih (p + 1) _ (by omega)
      · have e : tk_run t (f + 1) p s = (p, s) := (if_neg c).trans (if_neg c2)
        rw [e]
        exact fun z => z.elim c c2
theorem tk_run_lt {t : Nat → Int} {f q : Nat} {s : tk_S} (h : (97 ≤ t q ∧ t q ≤ 122) ∨ (48 ≤ t q ∧ t q ≤ 57)) (hf : 0 < f) : q + 1 ≤ (tk_run t f q s).1 := by
  obtain ⟨g, rfl⟩ : ∃ g, f = g + 1 := ⟨f - 1, by omega⟩
  unfold tk_run
  split
  · exact (tk_run_le t g (q + 1) _).1
  · split
    · exact (tk_run_le t g (q + 1) _).1
    · exfalso
      omega
theorem tk_rt_e (q : Nat) (r : Nat × tk_S) : (tk_rt q r).2.2.1 = r.1 := by
  unfold tk_rt
  split
  · rfl
  · split <;> rfl
/-- a word or a number: where it begins, and that it has a byte -/
theorem tk_al {e : tk_E} {r : Nat} (hk : (tk e r).1 = 2 ∨ (tk e r).1 = 3) : ∃ q : Nat, q = tk_sk e.1 (e.2.1 - r) r ∧ q < e.2.1 ∧ ((97 ≤ e.1 q ∧ e.1 q ≤ 122) ∨ (48 ≤ e.1 q ∧ e.1 q ≤ 57)) ∧ q + 1 ≤ tn e r ∧ (e.2.2 < (e.2.1 : Int) → (q : Int) < e.2.2) ∧ tn e r = (tk_run e.1 (e.2.1 - q) q (0, 0, 0, 0)).1 := by
  replace hk : (tk_at e.1 e.2.1 e.2.2 (tk_sk e.1 (e.2.1 - r) r)).1 = 2 ∨ (tk_at e.1 e.2.1 e.2.2 (tk_sk e.1 (e.2.1 - r) r)).1 = 3 := hk
  refine ⟨_, rfl, ?_⟩
  show tk_sk e.1 (e.2.1 - r) r < e.2.1 ∧ _ ∧ tk_sk e.1 (e.2.1 - r) r + 1 ≤ (tk_at e.1 e.2.1 e.2.2 (tk_sk e.1 (e.2.1 - r) r)).2.2.1 ∧ _ ∧ (tk_at e.1 e.2.1 e.2.2 (tk_sk e.1 (e.2.1 - r) r)).2.2.1 = _
  generalize tk_sk e.1 (e.2.1 - r) r = q at hk ⊢
  unfold tk_at at hk ⊢
  by_cases h1 : e.2.2 < (e.2.1 : Int) ∧ e.2.2 ≤ (q : Int)
  · rw [if_pos h1] at hk
    exact absurd hk (by show ¬ ((1 : Int) = 2 ∨ (1 : Int) = 3); decide)
  rw [if_neg h1] at hk ⊢
  by_cases h2 : e.2.1 ≤ q
  · rw [if_pos h2] at hk
    exact absurd hk (by show ¬ ((0 : Int) = 2 ∨ (0 : Int) = 3); decide)
  rw [if_neg h2] at hk ⊢
  by_cases h3 : (97 ≤ e.1 q ∧ e.1 q ≤ 122) ∨ (48 ≤ e.1 q ∧ e.1 q ≤ 57)
  · rw [if_pos h3, tk_rt_e]
    exact ⟨by omega, h3, tk_run_lt h3 (by omega), fun z => by omega, rfl⟩
  · rw [if_neg h3] at hk
    replace hk : (if e.1 q = 59 ∨ (60 ≤ e.1 q ∧ e.1 q ≤ 62) ∨ e.1 q = 40 ∨ e.1 q = 41 ∨ e.1 q = 46 then e.1 q else 1) = 2 ∨ (if e.1 q = 59 ∨ (60 ≤ e.1 q ∧ e.1 q ≤ 62) ∨ e.1 q = 40 ∨ e.1 q = 41 ∨ e.1 q = 46 then e.1 q else 1) = (3 : Int) := hk
    exfalso
    split at hk <;> omega
theorem tn_sep {e : tk_E} {p : Nat} (h : p ≤ e.2.1) (hk : (tk e p).1 = 2) (hk2 : (tk e (tn e p)).1 = 2 ∨ (tk e (tn e p)).1 = 3) : tn e p + 2 ≤ tn e (tn e p) := by
  obtain ⟨q, -, q1, -, -, -, q2⟩ := tk_al (Or.inl hk)
  obtain ⟨r, r0, r1, r2, r3, -, -⟩ := tk_al hk2
  have s := tk_sk_le e.1 (e.2.1 - tn e p) (tn e p)
  have n1 : ¬ r = tn e p := fun z => by
    have g := tk_run_al e.1 (e.2.1 - q) q (0, 0, 0, 0) (by rw [← q2]; omega)
    rw [← q2, ← z] at g
    exact g r2
  omega
theorem ev_tk {e : tk_E} {p : Nat} (h : 0 ≤ tw e p) : (tk e p).1 = 2 := by
  unfold tw at h
  split at h
  · assumption
  · omega
theorem pr_sk_0 {A : ab_SG} {e : tk_E} {k p : Nat} {n : Int} (h : pr_sk A e k n p = 0) : (tk e p).1 = 2 ∧ tw e p < 0 ∧ 0 ≤ pr_ix A e k n p ∧ pr_ix A e k n p < max n 1 := by
  unfold pr_sk at h
  by_cases c : (tk e p).1 = 2 ∧ tw e p < 0
  · rw [if_pos c] at h
    by_cases d : pr_ix A e k n p < 0
    · rw [if_pos d] at h
      exact absurd h (by decide)
    · have g := rw_fd_le (A k) (pr_wd e p) n.toNat 0
      have g2 : pr_ix A e k n p < 0 ∨ ((0 : Nat) : Int) ≤ pr_ix A e k n p ∧ pr_ix A e k n p < ((0 : Nat) : Int) + n.toNat := g
      exact ⟨c.1, c.2, by omega, by omega⟩
  · rw [if_neg c] at h
    exact absurd h (by decide)
theorem pr_nm_0 {e : tk_E} {p : Nat} {a b : Int} (h : pr_nm e p a b = 0) : (tk e p).1 = 3 ∧ a ≤ (tk e p).2.2.2.2 ∧ (tk e p).2.2.2.2 ≤ b := by
  unfold pr_nm at h
  by_cases c : (tk e p).1 = 3
  · rw [if_pos c] at h
    by_cases d : a ≤ (tk e p).2.2.2.2 ∧ (tk e p).2.2.2.2 ≤ b
    · exact ⟨c, d⟩
    · rw [if_neg d] at h
      exact absurd h (by decide)
  · rw [if_neg c] at h
    exact absurd h (by decide)
/-- a line without a fault -/
theorem ev_g0 {A : ab_SG} {e : tk_E} {p : Nat} (h : (ev_g A e p).1 = 0) : pr_sk A e 59 (A 49 13) p = 0 ∧ (tw e (tn e p) = 6 ∨ pr_nm e (tn e p) 1 9 = 0) ∧ (tk e (tn e (tn e p))).1 = 59 := by
  unfold ev_g at h
  by_cases c : pr_sk A e 59 (A 49 13) p ≠ 0
  · rw [if_pos c] at h
    exact absurd h c
  rw [if_neg c] at h
  by_cases d : tw e (tn e p) ≠ 6 ∧ pr_nm e (tn e p) 1 9 ≠ 0
  · rw [if_pos d] at h
    exact absurd h d.2
  rw [if_neg d] at h
  by_cases g : (tk e (tn e (tn e p))).1 ≠ 59
  · rw [if_pos g] at h
    exact absurd h (by show ¬ ((1 : Int) = 0); decide)
  · exact ⟨by omega, by omega, by omega⟩
theorem ev_h0 {A : ab_SG} {e : tk_E} (h : (ev_h A e).1 = 0) : tw e 0 = 1 ∧ pr_sk A e 58 (A 49 12) (tn e 0) = 0 ∧ (tk e (tn e (tn e 0))).1 = 59 := by
  unfold ev_h at h
  by_cases c : tw e 0 ≠ 1
  · rw [if_pos c] at h
    exact absurd h (by show ¬ ((1 : Int) = 0); decide)
  rw [if_neg c] at h
  by_cases d : pr_sk A e 58 (A 49 12) (tn e 0) ≠ 0
  · rw [if_pos d] at h
    exact absurd h d
  rw [if_neg d] at h
  by_cases g : (tk e (tn e (tn e 0))).1 ≠ 59
  · rw [if_pos g] at h
    exact absurd h (by show ¬ ((1 : Int) = 0); decide)
  · exact ⟨by omega, by omega, by omega⟩
theorem ev_q4 {A : ab_SG} {e : tk_E} {p : Nat} (hp : p ≤ e.2.1) (h : (ev_g A e p).1 = 0) : p + 4 ≤ tn e (tn e (tn e p)) ∧ tn e (tn e (tn e p)) ≤ e.2.1 := by
  obtain ⟨a, b, c⟩ := ev_g0 h
  have k := pr_sk_0 a
  have l1 := tn_le hp
  have l2 := tn_le l1.2
  have l3 := tn_le l2.2
  have m1 := tn_lt hp (by omega)
  have m2 := tn_sep hp k.1 (by
    rcases b with b | b
    · exact Or.inl (ev_tk (by omega))
    · exact Or.inr (pr_nm_0 b).1)
  have m3 := tn_lt l2.2 (by omega)
  omega
theorem ev_q0 {A : ab_SG} {e : tk_E} (h : (ev_h A e).1 = 0) : 4 ≤ ev_q e 0 ∧ ev_q e 0 ≤ e.2.1 := by
  obtain ⟨a, b, c⟩ := ev_h0 h
  have k := pr_sk_0 b
  have l1 := tn_le (Nat.zero_le e.2.1)
  have l2 := tn_le l1.2
  have l3 := tn_le l2.2
  have m1 := tn_lt (Nat.zero_le e.2.1) (by rw [ev_tk (by omega)]; decide)
  have m2 := tn_sep (Nat.zero_le e.2.1) (ev_tk (by omega)) (Or.inl k.1)
  have m3 := tn_lt l2.2 (by omega)
  show 4 ≤ tn e (tn e (tn e 0)) ∧ tn e (tn e (tn e 0)) ≤ e.2.1
  omega
/-- a line that is told begins below its place -/
theorem ev_lt {e : tk_E} {p : Nat} (h : e.2.2 = 400) (hk : (tk e p).1 = 2) : p < 400 := by
  obtain ⟨q, q0, q1, -, -, q2, -⟩ := tk_al (Or.inl hk)
  have s := tk_sk_le e.1 (e.2.1 - p) p
  rw [h] at q2
  omega
theorem ev_aok {A : ab_SG} {e : tk_E} : ∀ (f i : Nat), (ev_a A e f i).1 = 0 → i ≤ (ev_a A e f i).2.2 ∧ ∀ j : Nat, i ≤ j → j < (ev_a A e f i).2.2 → (ev_g A e (ev_q e j)).1 = 0 := by
  intro f
  induction f with
  | zero =>
    intro i _
    refine ⟨Nat.le_refl i, fun j h1 h2 => ?_⟩
    replace h2 : j < i := h2
    omega
  | succ f ih =>
    intro i h
    by_cases c : (tk e (ev_q e i)).1 = 0
    · rw [ev_a0 c]
      refine ⟨Nat.le_refl i, fun j h1 h2 => ?_⟩
      replace h2 : j < i := h2
      omega
    by_cases d : (ev_g A e (ev_q e i)).1 ≠ 0
    · rw [ev_a1 c d] at h
      exact absurd h d
    rw [ev_a2 c (by omega)] at h ⊢
    have g := ih (i + 1) h
    refine ⟨by omega, fun j h1 h2 => ?_⟩
    by_cases y : j = i
    · rw [y]
      omega
    · exact g.2 j (by omega) h2
theorem ev_rok {A : ab_SG} {e : tk_E} (h : (ev_r A e).1 = 0) : (ev_h A e).1 = 0 ∧ ∀ j : Nat, j < (ev_r A e).2.2 → (ev_g A e (ev_q e j)).1 = 0 := by
  by_cases c : (ev_h A e).1 ≠ 0
  · rw [ev_r1 c] at h
    exact absurd h c
  rw [ev_r2 (by omega)] at h ⊢
  exact ⟨by omega, fun j hj => (ev_aok 400 0 h).2 j (Nat.zero_le j) hj⟩
/-- numbers of a line -/
theorem ev_b {A : ab_SG} (hi : RI A) {e : tk_E} {p : Nat} (h : (ev_g A e p).1 = 0) : (0 ≤ ev_p A e p ∧ ev_p A e p < 5) ∧ (0 ≤ ev_w e p ∧ ev_w e p ≤ 9) := by
  obtain ⟨a, b, c⟩ := ev_g0 h
  have k := pr_sk_0 a
  have n := hi.2.2.1
  refine ⟨⟨k.2.2.1, ?_⟩, ?_⟩
  · show pr_ix A e 59 (A 49 13) p < 5
    omega
  · unfold ev_w
    by_cases d : tw e (tn e p) = 6
    · rw [if_pos d]
      decide
    · rw [if_neg d]
      have g := pr_nm_0 (b.resolve_left d)
      omega
def jg_B (s : jg_T) : Prop := (0 ≤ s.1 ∧ s.1 ≤ 4) ∧ (-1 ≤ s.2.1 ∧ s.2.1 ≤ 400) ∧ (0 ≤ s.2.2.1 ∧ s.2.2.1 ≤ 9) ∧ (-1 ≤ s.2.2.2.1 ∧ s.2.2.2.1 ≤ 4) ∧ (-1 ≤ s.2.2.2.2.1 ∧ s.2.2.2.2.1 ≤ 4) ∧ (-1 ≤ s.2.2.2.2.2 ∧ s.2.2.2.2.2 ≤ 4) ∧ (s.1 = 0 → s.2.1 = -1)
theorem jg_w_b (A : ab_SG) (s : jg_T) (p n : Int) : 0 ≤ jg_w A s p n ∧ jg_w A s p n ≤ 4 := by
  unfold jg_w
  split
  · decide
  · split
    · decide
    · split
      · split <;> decide
      · split <;> split <;> decide
theorem jg_1B {A : ab_SG} {s : jg_T} {i p n : Int} (h : jg_B s) (hi : 1 ≤ i ∧ i ≤ 400) (hp : 0 ≤ p ∧ p < 5) (hn : 0 ≤ n ∧ n ≤ 9) : jg_B (jg_1 A s i p n) := by
  have w := jg_w_b A s p n
  unfold jg_1
  split
  · exact h
  · rename_i c
    obtain ⟨h1, h2, h3, h4, h5, h6, h7⟩ := h
    split
    · rename_i d
      exact ⟨w, ⟨(show -1 ≤ i by omega), hi.2⟩, h3, h4, h5, h6, fun z => absurd z d⟩
    · split
      · exact ⟨⟨Int.le_refl 0, (show (0 : Int) ≤ 4 by decide)⟩, h2, h3, h4, ⟨(show -1 ≤ p by omega), (show p ≤ 4 by omega)⟩, ⟨Int.le_refl _, (show (-1 : Int) ≤ 4 by decide)⟩, fun _ => h7 (by omega)⟩
      · exact ⟨⟨Int.le_refl 0, (show (0 : Int) ≤ 4 by decide)⟩, h2, hn, ⟨(show -1 ≤ p by omega), (show p ≤ 4 by omega)⟩, h5, h4, fun _ => h7 (by omega)⟩
theorem jg_nB {A : ab_SG} (hi : RI A) {e : tk_E} : ∀ i : Nat, i ≤ 400 → (∀ j : Nat, j < i → (ev_g A e (ev_q e j)).1 = 0) → jg_B (jg_n A e i) := by
  intro i
  induction i with
  | zero =>
    intro _ _
    exact ⟨⟨Int.le_refl 0, (show (0 : Int) ≤ 4 by decide)⟩, ⟨Int.le_refl _, (show (-1 : Int) ≤ 400 by decide)⟩, ⟨Int.le_refl 0, (show (0 : Int) ≤ 9 by decide)⟩, ⟨Int.le_refl _, (show (-1 : Int) ≤ 4 by decide)⟩, ⟨Int.le_refl _, (show (-1 : Int) ≤ 4 by decide)⟩, ⟨Int.le_refl _, (show (-1 : Int) ≤ 4 by decide)⟩, fun _ => rfl⟩
  | succ i ih =>
    intro h1 h2
    have b := ev_b hi (h2 i (Nat.lt_succ_self i))
    rw [jg_ns]
    exact jg_1B (ih (by omega) (fun j hj => h2 j (by omega))) ⟨by omega, by omega⟩ b.1 b.2
theorem jg_stay {A : ab_SG} {e : tk_E} {i : Nat} (h : (jg_n A e i).1 ≠ 0) : ∀ k : Nat, jg_n A e (i + k) = jg_n A e i := by
  intro k
  induction k with
  | zero => rfl
  | succ k ih =>
    rw [← Nat.add_assoc, jg_ns, ih]
    unfold jg_1
    rw [if_pos h]
/-! the class's tape at a token -/
def eD (σ : ab_SG) (e : tk_E) (p : Nat) : Prop := eT σ = e ∧ st_is σ (tk e p) ∧ p ≤ e.2.1 ∧ (0 ≤ σ 1 1 ∧ σ 1 1 ≤ 940 ∧ 0 ≤ σ 1 2 ∧ σ 1 2 ≤ 940) ∧ σ 1 9 = 0
theorem ev_up {M N : ab_ML} {σ σ' : ab_SG} (h : ab_okM M σ σ') (hm : M.all (fun q => N.any (fun r => r.1.beq q.1 && (r.2.beq q.2 || r.2.beq 1000000))) = true) : ab_okM N σ σ' := by
  intro a b q
  refine h a b (fun r hr w => ?_)
  obtain ⟨t, ht, h2⟩ := List.any_eq_true.mp (List.all_eq_true.mp hm r hr)
  rw [Bool.and_eq_true, Bool.or_eq_true] at h2
  refine q t ht ⟨(Nat.eq_of_beq_eq_true h2.1).trans w.1, ?_⟩
  rcases h2.2 with e | e
  · rw [Nat.eq_of_beq_eq_true e]; exact w.2
  · exact Or.inr (Nat.eq_of_beq_eq_true e)
theorem ev_tr {M : ab_ML} {σ σ1 σ2 : ab_SG} (h1 : ab_okM M σ σ1) (h2 : ab_okM M σ1 σ2) : ab_okM M σ σ2 := fun a b q => (h2 a b q).trans (h1 a b q)
theorem ev_NC {M : ab_ML} {σ σ' A : ab_SG} (h : ab_okM M σ σ') (m : rc_b M 3 = true) (hN : NC σ A) : NC σ' A := ⟨hN.1, hN.2.1, cn_cg hN.1 (cb_M h m) hN.2.2⟩
def ed_no (σ : ab_SG) (f pl : Int) (K : fw_KR) (v : Int) : Prop := ∀ σ' : ab_SG, ab_okM [(1, 9), (1, 10)] σ σ' → σ' 1 9 = f → σ' 1 10 = pl → K (some (0, 0, v)) σ'
section
variable {σ A : ab_SG} {e : tk_E} {p : Nat}
theorem eD.kind (h : eD σ e p) : σ 1 5 = (tk e p).1 ∧ fw_c (σ 1 5) = (tk e p).1 := by
  obtain ⟨-, hk, -⟩ := h
  have := (tk_can e p).1
  rw [hk.1]
  exact ⟨rfl, fw_c_id (by omega) (by omega)⟩
theorem eD.kw (h : eD σ e p) : σ 1 7 = tw e p ∧ -1 ≤ σ 1 7 ∧ σ 1 7 ≤ 16 := by
  obtain ⟨-, hk, -⟩ := h
  have e1 : σ 1 7 = tw e p := by
    unfold tw
    by_cases q : (tk e p).1 = 2
    · rw [if_pos q]; exact (hk.2.2.2.1 q).2
    · rw [if_neg q]; exact hk.2.2.2.2.1 q
  refine ⟨e1, ?_⟩
  rw [e1]
  unfold tw
  split
  · rcases kw_of_in 17 (tk e p).2.2.2.1 (-1) with g | g
    · rw [g]; decide
    · omega
  · decide
theorem eD.st (h : eD σ e p) : st_pre σ ∧ ∀ σ' : ab_SG, ab_okM st_M σ σ' → st_is σ' (st_nx σ) → eD σ' e (tn e p) := by
  obtain ⟨he, hk, hp, hb, h9⟩ := h
  have e3 : σ 1 3 = ((tn e p : Nat) : Int) := hk.2.2.1
  have hn := tn_le hp
  have en : e.2.1 = (σ 1 1).toNat := by rw [← he]; rfl
  refine ⟨⟨by omega, by omega, hb.2.1, hb.2.2.1, hb.2.2.2⟩, fun σ' hM hs => ⟨?_, ?_, hn.2, ?_, (hM 1 9 (by decide)).trans h9⟩⟩
  · rw [← he]
    unfold eT
    rw [tp_t_M hM (by decide), hM 1 1 (by decide), hM 1 2 (by decide)]
  · have e4 : st_nx σ = tk e (tn e p) := by
      rw [← he]
      unfold st_nx tk eT
      rw [e3, Int.toNat_natCast, ← he]
      rfl
    rw [← e4]
    exact hs
  · rw [hM 1 1 (by decide), hM 1 2 (by decide)]
    exact hb
theorem eD.M (h : eD σ e p) {M : ab_ML} {σ' : ab_SG} (hM : ab_okM M σ σ') (h1 : M.all (fun q => !(q.1.beq 1)) = true) (h2 : M.all (fun q => !(q.1.beq 2)) = true) : eD σ' e p := by
  obtain ⟨he, hk, hp, hb, h9⟩ := h
  have r : ∀ j : Nat, σ' 1 j = σ 1 j := mk_row hM h1
  refine ⟨?_, ?_, hp, ?_, (r 9).trans h9⟩
  · rw [← he]
    unfold eT
    rw [tp_t_M hM h2, r, r]
  · unfold st_is
    rw [r, r, r, r, r, r]
    exact hk
  · rw [r, r]
    exact hb
theorem eD.rf (h : eD σ e p) {x : Int} (hx : 0 ≤ x ∧ x ≤ 9) {K : fw_KR} {v : Int} (hn : ed_no σ x (ev_st e p) K v) : K (some (0, 0, v)) (tp_rf σ x) := by
  obtain ⟨-, hk, -⟩ := h
  refine hn _ (fw_okM_ups (fw_okM_ups (fw_okM_refl _ _) (by decide)) (by decide)) ?_ ?_
  · unfold tp_rf
    rw [ab_ups_ne (by decide), ab_ups_eq]
    exact fw_s (by omega) (by omega)
  · unfold tp_rf
    rw [ab_ups_eq, hk.2.1]
    rfl
theorem eD.num (h : eD σ e p) {a b : Int} {K : fw_KR} (hab : 0 ≤ a ∧ a ≤ 24 ∧ 0 ≤ b ∧ b ≤ 24) (h0 : pr_nm e p a b ≠ 0 → ed_no σ (pr_nm e p a b) (ev_st e p) K 0) (h1 : pr_nm e p a b = 0 → σ 1 8 = (tk e p).2.2.2.2 → a ≤ (tk e p).2.2.2.2 → (tk e p).2.2.2.2 ≤ b → K (some (0, 0, 1)) σ) :
    sp_needNumber [(2, 1, 0), (0, 0, a), (0, 0, b)] σ K := by
  have hk := h.kind
  have hc := tk_can e p
  have ea : fw_c a = a := fw_c_id (by omega) (by omega)
  have eb : fw_c b = b := fw_c_id (by omega) (by omega)
  refine ⟨a, b, rfl, ?_⟩
  rw [hk.2, ea, eb]
  unfold pr_nm at h0 h1
  refine ⟨fun q => ?_, fun q q2 => ?_, fun q q2 => ?_⟩
  · rw [if_neg q] at h0
    exact h.rf (by decide) (h0 (by decide))
  · have e8 : σ 1 8 = (tk e p).2.2.2.2 := h.2.1.2.2.2.2.2 q
    rw [e8, hc.2.2 q] at q2
    rw [if_pos q, if_neg q2] at h0
    exact h.rf (by decide) (h0 (by decide))
  · have e8 : σ 1 8 = (tk e p).2.2.2.2 := h.2.1.2.2.2.2.2 q
    rw [e8, hc.2.2 q] at q2
    rw [if_pos q, if_pos q2] at h1
    exact h1 rfl e8 q2.1 q2.2
theorem eD.word (h : eD σ e p) (q : (tk e p).1 = 2) : σ 1 6 = pr_wd e p ∧ fw_d (σ 1 6) = σ 1 6 := by
  have e6 : σ 1 6 = pr_wd e p := (h.2.1.2.2.2.1 q).1
  refine ⟨e6, ?_⟩
  rw [e6]
  exact (tk_can e p).2.1 q
theorem eD.name (h : eD σ e p) : (fw_c (σ 1 5) = 2 ∧ σ 1 7 < 0) ↔ ((tk e p).1 = 2 ∧ tw e p < 0) := by rw [h.kind.2, h.kw.1]
theorem eD.isw (h : eD σ e p) {x : Int} (hx : 0 ≤ x) : (fw_c (σ 1 5) = 2 ∧ σ 1 7 = x) ↔ tw e p = x := by
  rw [h.kind.2, h.kw.1]
  exact ⟨fun z => z.2, fun z => ⟨ev_tk (by omega), z⟩⟩
theorem eD.sign (h : eD σ e p) {K : fw_KR} (h0 : (tk e p).1 ≠ 59 → ed_no σ 1 (ev_st e p) K 0) (h1 : (tk e p).1 = 59 → ∀ σ' : ab_SG, ab_okM st_M σ σ' → eD σ' e (tn e p) → K (some (0, 0, 1)) σ') : sp_takeSign [(2, 1, 0), (0, 0, 59)] σ K := by
  have c59 : fw_c 59 = 59 := fw_s (by decide) (by decide)
  refine ⟨59, rfl, ?_, ?_⟩
  · rw [h.kind.2, c59]
    exact fun z => h.rf (by decide) (h0 z)
  · rw [h.kind.2, c59]
    exact fun z => ⟨h.st.1, fun σ' M S => h1 z σ' M (h.st.2 σ' M S)⟩
def rw_N : List (Nat × Nat) := [(12, 6), (13, 5)]
def rw_V : List (Nat × Nat) := [(70, 128), (71, 128)]
def sp_seekn : fw_SP := sp_of seek_k rw_N
def sp_atv : fw_SP := sp_of at_k rw_V
def sp_putv : fw_SP := sp_of put_k rw_V
/-- names of the studio that is now: row k, told in row k9 of A -/
theorem eD.seek (h : eD σ e p) {k k9 n : Nat} {x : Int} {K : fw_KR} (hkn : (k, n) ∈ rw_N) (hx : 0 ≤ x ∧ x ≤ (n : Int)) (hr : ∀ j : Nat, (j : Int) < x → σ k j = A k9 j ∧ fw_d (A k9 j) = A k9 j) (h0 : pr_sk A e k9 x p ≠ 0 → ed_no σ (pr_sk A e k9 x p) (ev_st e p) K (-1)) (h1 : pr_sk A e k9 x p = 0 → K (some (0, 0, pr_ix A e k9 x p)) σ) :
    sp_seekn [(2, 1, 0), (2, k, 0), (0, 0, x)] σ K := by
  have hN := h.name
  have hc : rw_fd (σ k) (pr_wd e p) x.toNat 0 = pr_ix A e k9 x p := rw_cong x.toNat 0 (fun j _ hj => (hr j (by omega)).1)
  refine ⟨(k, n), hkn, x, rfl, hx, fun j hj => by rw [(hr j hj).1]; exact (hr j hj).2, fun q => (h.word (hN.mp q).1).2, fun q => ?_, fun q q2 => ?_, fun q q2 => ?_⟩
  · unfold pr_sk at h0
    rw [if_neg (fun z => q (hN.mpr z))] at h0
    exact h.rf (by decide) (h0 (by decide))
  · have hq := hN.mp q
    rw [(h.word hq.1).1, hc] at q2
    unfold pr_sk at h0
    rw [if_pos hq, if_pos q2] at h0
    exact h.rf (by decide) (h0 (by decide))
  · have hq := hN.mp q
    rw [(h.word hq.1).1, hc] at q2 ⊢
    unfold pr_sk at h1
    rw [if_pos hq, if_neg (show ¬ pr_ix A e k9 x p < 0 by omega)] at h1
    exact h1 rfl
theorem eD.seek12 (h : eD σ e p) (hN : NC σ A) {K : fw_KR} (h0 : pr_sk A e 58 (A 49 12) p ≠ 0 → ed_no σ (pr_sk A e 58 (A 49 12) p) (ev_st e p) K (-1)) (h1 : pr_sk A e 58 (A 49 12) p = 0 → K (some (0, 0, pr_ix A e 58 (A 49 12) p)) σ) : sp_seekn [(2, 1, 0), (2, 12, 0), (0, 0, σ 3 12)] σ K := by
  have hi := hN.1
  rw [show σ 3 12 = A 49 12 from hN.2.2.2.1]
  exact h.seek (n := 6) (by decide) ⟨hi.2.1.1, hi.2.1.2⟩ (fun j hj => ⟨(hN.2.2.2.2.2.2.2.1 j hj).2, hi.2.2.2.2.1 j (by omega)⟩) h0 h1
theorem eD.seek13 (h : eD σ e p) (hN : NC σ A) {K : fw_KR} (h0 : pr_sk A e 59 (A 49 13) p ≠ 0 → ed_no σ (pr_sk A e 59 (A 49 13) p) (ev_st e p) K (-1)) (h1 : pr_sk A e 59 (A 49 13) p = 0 → K (some (0, 0, pr_ix A e 59 (A 49 13) p)) σ) : sp_seekn [(2, 1, 0), (2, 13, 0), (0, 0, σ 3 13)] σ K := by
  have hi := hN.1
  rw [show σ 3 13 = A 49 13 from hN.2.2.2.2.1]
  exact h.seek (n := 5) (by decide) ⟨hi.2.2.1.1, hi.2.2.1.2⟩ (fun j hj => ⟨hN.2.2.2.2.2.2.2.2.2.2.1 j hj, hi.2.2.2.2.2.1 j (by omega)⟩) h0 h1
end
def el_M : ab_ML := (69, 3) :: (70, 1000000) :: (71, 1000000) :: st_M
def sp_evLine : fw_SP := fun as σ K => ∃ (A : ab_SG) (e : tk_E) (p i : Nat), as = [(2, 69, 0), (2, 1, 0), (2, 3, 0)] ∧ NC σ A ∧ eD σ e p ∧ σ 69 3 = (i : Int) ∧ (pr_sk A e 59 (A 49 13) p = 0 → i < 128) ∧
  (pr_sk A e 59 (A 49 13) p ≠ 0 → ed_no σ (pr_sk A e 59 (A 49 13) p) (ev_st e p) K 0) ∧
  (pr_sk A e 59 (A 49 13) p = 0 → tw e (tn e p) ≠ 6 → pr_nm e (tn e p) 1 9 ≠ 0 → ∀ σ' : ab_SG, ab_okM ((1, 9) :: (1, 10) :: el_M) σ σ' → σ' 1 9 = pr_nm e (tn e p) 1 9 → σ' 1 10 = ev_st e (tn e p) → K (some (0, 0, 0)) σ') ∧
  (pr_sk A e 59 (A 49 13) p = 0 → (tw e (tn e p) = 6 ∨ pr_nm e (tn e p) 1 9 = 0) → ∀ σ' : ab_SG, ab_okM el_M σ σ' → eD σ' e (tn e (tn e p)) → σ' 69 3 = ((i + 1 : Nat) : Int) → (∀ j : Nat, j ≠ i → σ' 70 j = σ 70 j ∧ σ' 71 j = σ 71 j) → σ' 70 i = ev_p A e p → σ' 71 i = ev_w e p → K (some (0, 0, 1)) σ')
def er_M : ab_ML := (1, 2) :: (1, 9) :: (1, 10) :: (69, 3) :: (69, 4) :: (70, 1000000) :: (71, 1000000) :: st_M
/-- the lines are laid -/
def eL (σ A : ab_SG) (e : tk_E) (n : Nat) : Prop := σ 69 3 = (n : Int) ∧ ∀ j : Nat, j < n → σ 70 j = ev_p A e (ev_q e j) ∧ σ 71 j = ev_w e (ev_q e j)
def sp_evRead : fw_SP := fun as σ K => ∃ A : ab_SG, as = [(2, 69, 0), (2, 1, 0), (2, 3, 0)] ∧ (0 ≤ σ 1 1 ∧ σ 1 1 ≤ 940) ∧ NC σ A ∧
  ((ev_r A (tp_t σ, (σ 1 1).toNat, 400)).1 ≠ 0 → ∀ σ' : ab_SG, ab_okM er_M σ σ' → σ' 1 9 = (ev_r A (tp_t σ, (σ 1 1).toNat, 400)).1 → σ' 1 10 = (ev_r A (tp_t σ, (σ 1 1).toNat, 400)).2.1 → K (some (0, 0, 0)) σ') ∧
  ((ev_r A (tp_t σ, (σ 1 1).toNat, 400)).1 = 0 → ∀ σ' : ab_SG, ab_okM er_M σ σ' → σ' 1 9 = 0 → eL σ' A (tp_t σ, (σ 1 1).toNat, 400) (ev_r A (tp_t σ, (σ 1 1).toNat, 400)).2.2 → (ev_r A (tp_t σ, (σ 1 1).toNat, 400)).2.2 ≤ 128 → σ' 69 4 = ev_c A (tp_t σ, (σ 1 1).toNat, 400) → K (some (0, 0, 1)) σ')
def jc_is (σ : ab_SG) (s : jg_T) : Prop := σ 72 0 = s.1 ∧ σ 72 1 = s.2.2.1 ∧ σ 72 2 = s.2.2.2.1 ∧ σ 72 3 = s.2.2.2.2.1 ∧ σ 72 4 = s.2.2.2.2.2
def sp_whyWrong : fw_SP := fun as σ K => ∃ (A : ab_SG) (s : jg_T) (p n : Int), as = [(2, 69, 0), (0, 0, p), (0, 0, n), (0, 0, A 49 14)] ∧ (σ 72 1 = s.2.2.1 ∧ σ 72 2 = s.2.2.2.1 ∧ σ 72 3 = s.2.2.2.2.1 ∧ σ 72 4 = s.2.2.2.2.2) ∧ jg_B s ∧ (0 ≤ p ∧ p < 5) ∧ (0 ≤ n ∧ n ≤ 9) ∧ (1 ≤ A 49 14 ∧ A 49 14 ≤ 9) ∧ K (some (0, 0, jg_w A s p n)) σ
def jd_M : ab_ML := [(69, 5), (69, 6), (69, 7), (72, 1000000)]
def sp_judge : fw_SP := fun as σ K => ∃ (A : ab_SG) (e : tk_E) (n : Nat), as = [(2, 69, 0), (2, 3, 0)] ∧ NC σ A ∧ eL σ A e n ∧ n ≤ 128 ∧ (∀ j : Nat, j < n → (ev_g A e (ev_q e j)).1 = 0) ∧
  ∀ σ' : ab_SG, ab_okM jd_M σ σ' → jc_is σ' (jg_n A e n) → σ' 69 5 = fw_c (σ 69 4) → σ' 69 6 = fw_c (σ 3 15) → σ' 69 7 = 1 → K (some (0, 0, (jg_n A e n).2.1)) σ'
def ef_M : ab_ML := (1, 1) :: er_M
def en_M : ab_ML := (69, 5) :: (69, 6) :: (69, 7) :: (72, 1000000) :: ef_M
def sp_evening : fw_SP := fun as σ K => ∃ A : ab_SG, as = [(2, 0, 0)] ∧ (0 ≤ σ 1 1 ∧ σ 1 1 ≤ 940) ∧ NC σ A ∧
  ((ev_r A (tp_t σ, (σ 1 1).toNat, 400)).1 ≠ 0 → ∀ σ' : ab_SG, ab_okM ef_M σ σ' → σ' 1 1 = 0 → σ' 1 9 = (ev_r A (tp_t σ, (σ 1 1).toNat, 400)).1 → K (some (0, 0, v_ev A (tp_t σ, (σ 1 1).toNat, 400))) σ') ∧
  ((ev_r A (tp_t σ, (σ 1 1).toNat, 400)).1 = 0 → ∀ σ' : ab_SG, ab_okM en_M σ σ' → σ' 1 1 = 0 → σ' 1 9 = 0 → jc_is σ' (jg_n A (tp_t σ, (σ 1 1).toNat, 400) (ev_r A (tp_t σ, (σ 1 1).toNat, 400)).2.2) → σ' 69 5 = ev_c A (tp_t σ, (σ 1 1).toNat, 400) → σ' 69 6 = fw_c (σ 3 15) → σ' 69 7 = 1 → K (some (0, 0, v_ev A (tp_t σ, (σ 1 1).toNat, 400))) σ')
abbrev fk_at70 : List fw_CR := []
abbrev st_at70 : fw_K → fw_KR → fw_K := fw_st vwCl nn_sh nn_kd fw_kv fw_wc (nn_KI1.map (fun x => x.1)) (nn_KJ1.map (fun x => x.1)) (nn_PF1.map (fun x => x.1)) (nn_PS1.map (fun x => x.1)) fk_at70 0 nn_dt29 2 0
theorem fs_at70_0 {G : fw_K} {R : fw_KR} (hG : fw_cls st_at70 R G) {x : Int} {σ : ab_SG} (h : (fw_c x < 0 → R (some (0, 0, 0)) σ) ∧ (0 ≤ fw_c x → (fw_c ((128 : Nat) : Int) ≤ fw_c x → R (some (0, 0, 0)) σ) ∧ (fw_c x < fw_c ((128 : Nat) : Int) → (0 ≤ fw_c x ∧ fw_c x < ((128 : Nat) : Int)) ∧ (R (some (0, 0, σ 70 (fw_c x).toNat)) σ)))) : G 0 [some (2, 70, 0), some (0, 0, x)] [] σ := fw_on hG [] 200 h
abbrev fk_at71 : List fw_CR := []
abbrev st_at71 : fw_K → fw_KR → fw_K := fw_st vwCl nn_sh nn_kd fw_kv fw_wc (nn_KI1.map (fun x => x.1)) (nn_KJ1.map (fun x => x.1)) (nn_PF1.map (fun x => x.1)) (nn_PS1.map (fun x => x.1)) fk_at71 0 nn_dt29 2 0
theorem fs_at71_0 {G : fw_K} {R : fw_KR} (hG : fw_cls st_at71 R G) {x : Int} {σ : ab_SG} (h : (fw_c x < 0 → R (some (0, 0, 0)) σ) ∧ (0 ≤ fw_c x → (fw_c ((128 : Nat) : Int) ≤ fw_c x → R (some (0, 0, 0)) σ) ∧ (fw_c x < fw_c ((128 : Nat) : Int) → (0 ≤ fw_c x ∧ fw_c x < ((128 : Nat) : Int)) ∧ (R (some (0, 0, σ 71 (fw_c x).toNat)) σ)))) : G 0 [some (2, 71, 0), some (0, 0, x)] [] σ := fw_on hG [] 200 h
abbrev fk_put70 : List fw_CR := []
abbrev st_put70 : fw_K → fw_KR → fw_K := fw_st vwCl nn_sh nn_kd fw_kv fw_wc (nn_KI1.map (fun x => x.1)) (nn_KJ1.map (fun x => x.1)) (nn_PF1.map (fun x => x.1)) (nn_PS1.map (fun x => x.1)) fk_put70 0 nn_dt27 3 4
theorem fs_put70_0 {G : fw_K} {R : fw_KR} (hG : fw_cls st_put70 R G) {x v : Int} {σ : ab_SG} (h : (fw_c x < 0 → R none σ) ∧ (0 ≤ fw_c x → (fw_c ((128 : Nat) : Int) ≤ fw_c x → R none σ) ∧ (fw_c x < fw_c ((128 : Nat) : Int) → (0 ≤ fw_c x ∧ fw_c x < ((128 : Nat) : Int)) ∧ True ∧ (R none (ab_ups σ 70 (fw_c x).toNat (fw_c v)))))) : G 0 [some (2, 70, 0), some (0, 0, x), some (0, 0, v)] [] σ := fw_on hG [] 200 h
abbrev fk_put71 : List fw_CR := []
abbrev st_put71 : fw_K → fw_KR → fw_K := fw_st vwCl nn_sh nn_kd fw_kv fw_wc (nn_KI1.map (fun x => x.1)) (nn_KJ1.map (fun x => x.1)) (nn_PF1.map (fun x => x.1)) (nn_PS1.map (fun x => x.1)) fk_put71 0 nn_dt27 3 4
theorem fs_put71_0 {G : fw_K} {R : fw_KR} (hG : fw_cls st_put71 R G) {x v : Int} {σ : ab_SG} (h : (fw_c x < 0 → R none σ) ∧ (0 ≤ fw_c x → (fw_c ((128 : Nat) : Int) ≤ fw_c x → R none σ) ∧ (fw_c x < fw_c ((128 : Nat) : Int) → (0 ≤ fw_c x ∧ fw_c x < ((128 : Nat) : Int)) ∧ True ∧ (R none (ab_ups σ 71 (fw_c x).toNat (fw_c v)))))) : G 0 [some (2, 71, 0), some (0, 0, x), some (0, 0, v)] [] σ := fw_on hG [] 200 h
abbrev fk_seek12 : List fw_CR := [(87, 0, true, 8, 0, sp_isName), (91, 1, true, 8, 0, sp_refuse)]
abbrev st_seek12 : fw_K → fw_KR → fw_K := fw_st vwCl nn_sh nn_kd fw_kv fw_wc (nn_KI2.map (fun x => x.1)) (nn_KJ2.map (fun x => x.1)) (nn_PF2.map (fun x => x.1)) (nn_PS2.map (fun x => x.1)) fk_seek12 1 nn_dt33 4 0
theorem fs_seek12_0 {G : fw_K} {R : fw_KR} (hG : fw_cls st_seek12 R G) {x : Int} {σ : ab_SG} (h : sp_isName [(2, 1, 0)] σ (fun rv σ2 => G 4 [some (2, 1, 0), some (2, 12, 0), some (0, 0, x), none] (rv.toList ++ []) σ2)) : G 0 [some (2, 1, 0), some (2, 12, 0), some (0, 0, x), none] [] σ := fw_on hG [4, 12, 17, 47, 52] 200 h
theorem fs_seek12_4 {G : fw_K} {R : fw_KR} (hG : fw_cls st_seek12 R G) {a2 b0 : Int} {σ : ab_SG} (h : (fw_c b0 ≠ 0 → G 17 [some (2, 1, 0), some (2, 12, 0), some (0, 0, a2), some (0, 0, 0)] [] σ) ∧ (fw_c b0 = 0 → sp_refuse [(2, 1, 0), (0, 0, 1)] σ (fun rv σ2 => G 12 [some (2, 1, 0), some (2, 12, 0), some (0, 0, a2), none] (rv.toList ++ []) σ2))) : G 4 [some (2, 1, 0), some (2, 12, 0), some (0, 0, a2), none] [(0, 0, b0)] σ := fw_on hG [4, 12, 17, 47, 52] 200 h
theorem fs_seek12_17 {G : fw_K} {R : fw_KR} (hG : fw_cls st_seek12 R G) {a2 a3 : Int} {σ : ab_SG} (h : (fw_c a2 ≤ fw_c a3 → G 47 [some (2, 1, 0), some (2, 12, 0), some (0, 0, a2), some (0, 0, a3)] [] σ) ∧ (fw_c a3 < fw_c a2 → (fw_c ((6 : Nat) : Int) ≤ fw_c a3 → G 47 [some (2, 1, 0), some (2, 12, 0), some (0, 0, a2), some (0, 0, a3)] [] σ) ∧ (fw_c a3 < fw_c ((6 : Nat) : Int) → (0 ≤ fw_c a3 ∧ fw_c a3 < ((6 : Nat) : Int)) ∧ ((fw_d (σ 12 (fw_c a3).toNat) ≠ fw_d (σ 1 6) → G 17 [some (2, 1, 0), some (2, 12, 0), some (0, 0, a2), some (0, 0, a3 + 1)] [] σ) ∧ (fw_d (σ 12 (fw_c a3).toNat) = fw_d (σ 1 6) → R (some (0, 0, a3)) σ))))) : G 17 [some (2, 1, 0), some (2, 12, 0), some (0, 0, a2), some (0, 0, a3)] [] σ := fw_on hG [4, 12, 17, 47, 52] 200 h
theorem fs_seek12_12 {G : fw_K} {R : fw_KR} (hG : fw_cls st_seek12 R G) {a2 b0 : Int} {σ : ab_SG} (h : R (some (0, 0, (-1))) σ) : G 12 [some (2, 1, 0), some (2, 12, 0), some (0, 0, a2), none] [(0, 0, b0)] σ := fw_on hG [4, 12, 17, 47, 52] 200 h
theorem fs_seek12_47 {G : fw_K} {R : fw_KR} (hG : fw_cls st_seek12 R G) {a2 a3 : Int} {σ : ab_SG} (h : sp_refuse [(2, 1, 0), (0, 0, 3)] σ (fun rv σ2 => G 52 [some (2, 1, 0), some (2, 12, 0), some (0, 0, a2), some (0, 0, a3)] (rv.toList ++ []) σ2)) : G 47 [some (2, 1, 0), some (2, 12, 0), some (0, 0, a2), some (0, 0, a3)] [] σ := fw_on hG [4, 12, 17, 47, 52] 200 h
theorem fs_seek12_52 {G : fw_K} {R : fw_KR} (hG : fw_cls st_seek12 R G) {a2 a3 b0 : Int} {σ : ab_SG} (h : R (some (0, 0, (-1))) σ) : G 52 [some (2, 1, 0), some (2, 12, 0), some (0, 0, a2), some (0, 0, a3)] [(0, 0, b0)] σ := fw_on hG [4, 12, 17, 47, 52] 200 h
abbrev fk_seek13 : List fw_CR := [(87, 0, true, 8, 0, sp_isName), (91, 1, true, 8, 0, sp_refuse)]
abbrev st_seek13 : fw_K → fw_KR → fw_K := fw_st vwCl nn_sh nn_kd fw_kv fw_wc (nn_KI2.map (fun x => x.1)) (nn_KJ2.map (fun x => x.1)) (nn_PF2.map (fun x => x.1)) (nn_PS2.map (fun x => x.1)) fk_seek13 1 nn_dt33 4 0
theorem fs_seek13_0 {G : fw_K} {R : fw_KR} (hG : fw_cls st_seek13 R G) {x : Int} {σ : ab_SG} (h : sp_isName [(2, 1, 0)] σ (fun rv σ2 => G 4 [some (2, 1, 0), some (2, 13, 0), some (0, 0, x), none] (rv.toList ++ []) σ2)) : G 0 [some (2, 1, 0), some (2, 13, 0), some (0, 0, x), none] [] σ := fw_on hG [4, 12, 17, 47, 52] 200 h
theorem fs_seek13_4 {G : fw_K} {R : fw_KR} (hG : fw_cls st_seek13 R G) {a2 b0 : Int} {σ : ab_SG} (h : (fw_c b0 ≠ 0 → G 17 [some (2, 1, 0), some (2, 13, 0), some (0, 0, a2), some (0, 0, 0)] [] σ) ∧ (fw_c b0 = 0 → sp_refuse [(2, 1, 0), (0, 0, 1)] σ (fun rv σ2 => G 12 [some (2, 1, 0), some (2, 13, 0), some (0, 0, a2), none] (rv.toList ++ []) σ2))) : G 4 [some (2, 1, 0), some (2, 13, 0), some (0, 0, a2), none] [(0, 0, b0)] σ := fw_on hG [4, 12, 17, 47, 52] 200 h
theorem fs_seek13_17 {G : fw_K} {R : fw_KR} (hG : fw_cls st_seek13 R G) {a2 a3 : Int} {σ : ab_SG} (h : (fw_c a2 ≤ fw_c a3 → G 47 [some (2, 1, 0), some (2, 13, 0), some (0, 0, a2), some (0, 0, a3)] [] σ) ∧ (fw_c a3 < fw_c a2 → (fw_c ((5 : Nat) : Int) ≤ fw_c a3 → G 47 [some (2, 1, 0), some (2, 13, 0), some (0, 0, a2), some (0, 0, a3)] [] σ) ∧ (fw_c a3 < fw_c ((5 : Nat) : Int) → (0 ≤ fw_c a3 ∧ fw_c a3 < ((5 : Nat) : Int)) ∧ ((fw_d (σ 13 (fw_c a3).toNat) ≠ fw_d (σ 1 6) → G 17 [some (2, 1, 0), some (2, 13, 0), some (0, 0, a2), some (0, 0, a3 + 1)] [] σ) ∧ (fw_d (σ 13 (fw_c a3).toNat) = fw_d (σ 1 6) → R (some (0, 0, a3)) σ))))) : G 17 [some (2, 1, 0), some (2, 13, 0), some (0, 0, a2), some (0, 0, a3)] [] σ := fw_on hG [4, 12, 17, 47, 52] 200 h
theorem fs_seek13_12 {G : fw_K} {R : fw_KR} (hG : fw_cls st_seek13 R G) {a2 b0 : Int} {σ : ab_SG} (h : R (some (0, 0, (-1))) σ) : G 12 [some (2, 1, 0), some (2, 13, 0), some (0, 0, a2), none] [(0, 0, b0)] σ := fw_on hG [4, 12, 17, 47, 52] 200 h
theorem fs_seek13_47 {G : fw_K} {R : fw_KR} (hG : fw_cls st_seek13 R G) {a2 a3 : Int} {σ : ab_SG} (h : sp_refuse [(2, 1, 0), (0, 0, 3)] σ (fun rv σ2 => G 52 [some (2, 1, 0), some (2, 13, 0), some (0, 0, a2), some (0, 0, a3)] (rv.toList ++ []) σ2)) : G 47 [some (2, 1, 0), some (2, 13, 0), some (0, 0, a2), some (0, 0, a3)] [] σ := fw_on hG [4, 12, 17, 47, 52] 200 h
theorem fs_seek13_52 {G : fw_K} {R : fw_KR} (hG : fw_cls st_seek13 R G) {a2 a3 b0 : Int} {σ : ab_SG} (h : R (some (0, 0, (-1))) σ) : G 52 [some (2, 1, 0), some (2, 13, 0), some (0, 0, a2), some (0, 0, a3)] [(0, 0, b0)] σ := fw_on hG [4, 12, 17, 47, 52] 200 h
abbrev fk_evLine : List fw_CR := [(37, 1, true, 8, 0, sp_isWord), (45, 0, true, 8, 2, sp_step), (57, 2, true, 8, 1, sp_seekn), (83, 2, true, 8, 1, sp_needNumber), (87, 3, false, 0, 0, sp_putv)]
abbrev st_evLine : fw_K → fw_KR → fw_K := fw_st vwCl nn_sh nn_kd fw_kv fw_wc (nn_KI4.map (fun x => x.1)) (nn_KJ4.map (fun x => x.1)) (nn_PF4.map (fun x => x.1)) (nn_PS4.map (fun x => x.1)) fk_evLine 4 nn_dt154 5 1
theorem fs_evLine_0 {G : fw_K} {R : fw_KR} (hG : fw_cls st_evLine R G) {σ : ab_SG} (h : sp_seekn [(2, 1, 0), (2, 13, 0), (0, 0, σ 3 13)] σ (fun rv σ2 => G 12 [some (2, 69, 0), some (2, 1, 0), some (2, 3, 0), none, none] (rv.toList ++ []) σ2)) : G 0 [some (2, 69, 0), some (2, 1, 0), some (2, 3, 0), none, none] [] σ := fw_on hG [12, 24, 31, 45, 50, 62, 83, 86, 100] 200 h
theorem fs_evLine_12 {G : fw_K} {R : fw_KR} (hG : fw_cls st_evLine R G) {b0 : Int} {o3 o4 : Option ab_AV} {σ : ab_SG} (h : (fw_c b0 ≠ fw_c (-1) → sp_step [(2, 1, 0)] σ (fun rv σ2 => G 24 [some (2, 69, 0), some (2, 1, 0), some (2, 3, 0), some (0, 0, b0), o4] (rv.toList ++ []) σ2)) ∧ (fw_c b0 = fw_c (-1) → (0 ≤ fw_c 0 ∧ fw_c 0 ≤ 1) ∧ R (some (0, 0, 0)) σ)) : G 12 [some (2, 69, 0), some (2, 1, 0), some (2, 3, 0), o3, o4] [(0, 0, b0)] σ := fw_on hG [12, 24, 31, 45, 50, 62, 83, 86, 100] 200 h
theorem fs_evLine_24 {G : fw_K} {R : fw_KR} (hG : fw_cls st_evLine R G) {a3 : Int} {o4 : Option ab_AV} {σ : ab_SG} (h : sp_isWord [(2, 1, 0), (4, 0, 6)] σ (fun rv σ2 => G 31 [some (2, 69, 0), some (2, 1, 0), some (2, 3, 0), some (0, 0, a3), o4] (rv.toList ++ []) σ2)) : G 24 [some (2, 69, 0), some (2, 1, 0), some (2, 3, 0), some (0, 0, a3), o4] [] σ := fw_on hG [12, 24, 31, 45, 50, 62, 83, 86, 100] 200 h
theorem fs_evLine_31 {G : fw_K} {R : fw_KR} (hG : fw_cls st_evLine R G) {a3 b0 : Int} {o4 : Option ab_AV} {σ : ab_SG} (h : (fw_c b0 ≠ 0 → G 50 [some (2, 69, 0), some (2, 1, 0), some (2, 3, 0), some (0, 0, a3), some (0, 0, b0)] [] σ) ∧ (fw_c b0 = 0 → sp_needNumber [(2, 1, 0), (0, 0, 1), (0, 0, 9)] σ (fun rv σ2 => G 45 [some (2, 69, 0), some (2, 1, 0), some (2, 3, 0), some (0, 0, a3), some (0, 0, b0)] (rv.toList ++ []) σ2))) : G 31 [some (2, 69, 0), some (2, 1, 0), some (2, 3, 0), some (0, 0, a3), o4] [(0, 0, b0)] σ := fw_on hG [12, 24, 31, 45, 50, 62, 83, 86, 100] 200 h
theorem fs_evLine_50 {G : fw_K} {R : fw_KR} (hG : fw_cls st_evLine R G) {a3 a4 : Int} {σ : ab_SG} (h : sp_putv [(2, 70, 0), (0, 0, σ 69 3), (0, 0, a3)] σ (fun rv σ2 => G 62 [some (2, 69, 0), some (2, 1, 0), some (2, 3, 0), some (0, 0, a3), some (0, 0, a4)] (rv.toList ++ []) σ2)) : G 50 [some (2, 69, 0), some (2, 1, 0), some (2, 3, 0), some (0, 0, a3), some (0, 0, a4)] [] σ := fw_on hG [12, 24, 31, 45, 50, 62, 83, 86, 100] 200 h
theorem fs_evLine_45 {G : fw_K} {R : fw_KR} (hG : fw_cls st_evLine R G) {a3 a4 b0 : Int} {σ : ab_SG} (h : (fw_c b0 ≠ 0 → G 50 [some (2, 69, 0), some (2, 1, 0), some (2, 3, 0), some (0, 0, a3), some (0, 0, a4)] [] σ) ∧ (fw_c b0 = 0 → (0 ≤ fw_c 0 ∧ fw_c 0 ≤ 1) ∧ R (some (0, 0, 0)) σ)) : G 45 [some (2, 69, 0), some (2, 1, 0), some (2, 3, 0), some (0, 0, a3), some (0, 0, a4)] [(0, 0, b0)] σ := fw_on hG [12, 24, 31, 45, 50, 62, 83, 86, 100] 200 h
theorem fs_evLine_62 {G : fw_K} {R : fw_KR} (hG : fw_cls st_evLine R G) {a4 : Int} {o3 : Option ab_AV} {σ : ab_SG} (h : (fw_c a4 = 0 → G 83 [some (2, 69, 0), some (2, 1, 0), some (2, 3, 0), o3, some (0, 0, a4)] [(0, 0, σ 1 8), (0, 0, σ 69 3), (2, 71, 0)] σ) ∧ (fw_c a4 ≠ 0 → G 83 [some (2, 69, 0), some (2, 1, 0), some (2, 3, 0), o3, some (0, 0, a4)] [(0, 0, 0), (0, 0, σ 69 3), (2, 71, 0)] σ)) : G 62 [some (2, 69, 0), some (2, 1, 0), some (2, 3, 0), o3, some (0, 0, a4)] [] σ := fw_on hG [12, 24, 31, 45, 50, 62, 83, 86, 100] 200 h
theorem fs_evLine_83 {G : fw_K} {R : fw_KR} (hG : fw_cls st_evLine R G) {b0 b1 : Int} {o3 o4 : Option ab_AV} {σ : ab_SG} (h : sp_putv [(2, 71, 0), (0, 0, b1), (0, 0, b0)] σ (fun rv σ2 => G 86 [some (2, 69, 0), some (2, 1, 0), some (2, 3, 0), o3, o4] (rv.toList ++ []) σ2)) : G 83 [some (2, 69, 0), some (2, 1, 0), some (2, 3, 0), o3, o4] [(0, 0, b0), (0, 0, b1), (2, 71, 0)] σ := fw_on hG [12, 24, 31, 45, 50, 62, 83, 86, 100] 200 h
theorem fs_evLine_86 {G : fw_K} {R : fw_KR} (hG : fw_cls st_evLine R G) {o3 o4 : Option ab_AV} {σ : ab_SG} (h : sp_step [(2, 1, 0)] (ab_ups σ 69 3 (fw_c ((σ 69 3) + 1))) (fun rv σ2 => G 100 [some (2, 69, 0), some (2, 1, 0), some (2, 3, 0), o3, o4] (rv.toList ++ []) σ2)) : G 86 [some (2, 69, 0), some (2, 1, 0), some (2, 3, 0), o3, o4] [] σ := fw_on hG [12, 24, 31, 45, 50, 62, 83, 86, 100] 200 h
theorem fs_evLine_100 {G : fw_K} {R : fw_KR} (hG : fw_cls st_evLine R G) {o1 o3 o4 : Option ab_AV} {σ : ab_SG} (h : (0 ≤ fw_c 1 ∧ fw_c 1 ≤ 1) ∧ R (some (0, 0, 1)) σ) : G 100 [some (2, 69, 0), o1, some (2, 3, 0), o3, o4] [] σ := fw_on hG [12, 24, 31, 45, 50, 62, 83, 86, 100] 200 h
abbrev fk_evRead : List fw_CR := [(25, 1, true, 8, 3, sp_opn), (37, 1, true, 8, 0, sp_isWord), (41, 1, true, 8, 0, sp_refuse), (45, 0, true, 8, 2, sp_step), (57, 2, true, 8, 1, sp_seekn), (64, 1, true, 8, 3, sp_takeSign), (70, 2, true, 2, 4, sp_evLine)]
abbrev st_evRead : fw_K → fw_KR → fw_K := fw_st vwCl nn_sh nn_kd fw_kv fw_wc (nn_KI4.map (fun x => x.1)) (nn_KJ4.map (fun x => x.1)) (nn_PF4.map (fun x => x.1)) (nn_PS4.map (fun x => x.1)) fk_evRead 5 nn_dt153 5 1
theorem fs_evRead_0 {G : fw_K} {R : fw_KR} (hG : fw_cls st_evRead R G) {σ : ab_SG} (h : sp_opn [(2, 1, 0), (0, 0, 400)] (ab_ups σ 69 3 (fw_c 0)) (fun rv σ2 => G 12 [some (2, 69, 0), some (2, 1, 0), some (2, 3, 0), none, none] (rv.toList ++ []) σ2)) : G 0 [some (2, 69, 0), some (2, 1, 0), some (2, 3, 0), none, none] [] σ := fw_on hG [12, 19, 27, 32, 45, 62, 68, 72, 97, 106, 113, 114] 200 h
theorem fs_evRead_12 {G : fw_K} {R : fw_KR} (hG : fw_cls st_evRead R G) {o3 o4 : Option ab_AV} {σ : ab_SG} (h : sp_isWord [(2, 1, 0), (4, 0, 1)] σ (fun rv σ2 => G 19 [some (2, 69, 0), some (2, 1, 0), some (2, 3, 0), o3, o4] (rv.toList ++ []) σ2)) : G 12 [some (2, 69, 0), some (2, 1, 0), some (2, 3, 0), o3, o4] [] σ := fw_on hG [12, 19, 27, 32, 45, 62, 68, 72, 97, 106, 113, 114] 200 h
theorem fs_evRead_19 {G : fw_K} {R : fw_KR} (hG : fw_cls st_evRead R G) {b0 : Int} {o3 o4 : Option ab_AV} {σ : ab_SG} (h : (fw_c b0 ≠ 0 → sp_step [(2, 1, 0)] σ (fun rv σ2 => G 32 [some (2, 69, 0), some (2, 1, 0), some (2, 3, 0), o3, o4] (rv.toList ++ []) σ2)) ∧ (fw_c b0 = 0 → sp_refuse [(2, 1, 0), (0, 0, 1)] σ (fun rv σ2 => G 27 [some (2, 69, 0), some (2, 1, 0), some (2, 3, 0), o3, o4] (rv.toList ++ []) σ2))) : G 19 [some (2, 69, 0), some (2, 1, 0), some (2, 3, 0), o3, o4] [(0, 0, b0)] σ := fw_on hG [12, 19, 27, 32, 45, 62, 68, 72, 97, 106, 113, 114] 200 h
theorem fs_evRead_32 {G : fw_K} {R : fw_KR} (hG : fw_cls st_evRead R G) {o3 o4 : Option ab_AV} {σ : ab_SG} (h : sp_seekn [(2, 1, 0), (2, 12, 0), (0, 0, σ 3 12)] σ (fun rv σ2 => G 45 [some (2, 69, 0), some (2, 1, 0), some (2, 3, 0), o3, o4] (rv.toList ++ [(2, 69, 0)]) σ2)) : G 32 [some (2, 69, 0), some (2, 1, 0), some (2, 3, 0), o3, o4] [] σ := fw_on hG [12, 19, 27, 32, 45, 62, 68, 72, 97, 106, 113, 114] 200 h
theorem fs_evRead_27 {G : fw_K} {R : fw_KR} (hG : fw_cls st_evRead R G) {b0 : Int} {o1 o2 o3 o4 : Option ab_AV} {σ : ab_SG} (h : (0 ≤ fw_c b0 ∧ fw_c b0 ≤ 1) ∧ R (some (0, 0, b0)) σ) : G 27 [some (2, 69, 0), o1, o2, o3, o4] [(0, 0, b0)] σ := fw_on hG [12, 19, 27, 32, 45, 62, 68, 72, 97, 106, 113, 114] 200 h
theorem fs_evRead_45 {G : fw_K} {R : fw_KR} (hG : fw_cls st_evRead R G) {b0 : Int} {o3 o4 : Option ab_AV} {σ : ab_SG} (h : (fw_c (fw_c b0) ≠ fw_c (-1) → sp_step [(2, 1, 0)] (ab_ups σ 69 4 (fw_c b0)) (fun rv σ2 => G 62 [some (2, 69, 0), some (2, 1, 0), some (2, 3, 0), o3, o4] (rv.toList ++ []) σ2)) ∧ (fw_c (fw_c b0) = fw_c (-1) → (0 ≤ fw_c 0 ∧ fw_c 0 ≤ 1) ∧ R (some (0, 0, 0)) (ab_ups σ 69 4 (fw_c b0)))) : G 45 [some (2, 69, 0), some (2, 1, 0), some (2, 3, 0), o3, o4] [(0, 0, b0), (2, 69, 0)] σ := fw_on hG [12, 19, 27, 32, 45, 62, 68, 72, 97, 106, 113, 114] 200 h
theorem fs_evRead_62 {G : fw_K} {R : fw_KR} (hG : fw_cls st_evRead R G) {o3 o4 : Option ab_AV} {σ : ab_SG} (h : sp_takeSign [(2, 1, 0), (0, 0, 59)] σ (fun rv σ2 => G 68 [some (2, 69, 0), some (2, 1, 0), some (2, 3, 0), o3, o4] (rv.toList ++ []) σ2)) : G 62 [some (2, 69, 0), some (2, 1, 0), some (2, 3, 0), o3, o4] [] σ := fw_on hG [12, 19, 27, 32, 45, 62, 68, 72, 97, 106, 113, 114] 200 h
theorem fs_evRead_68 {G : fw_K} {R : fw_KR} (hG : fw_cls st_evRead R G) {b0 : Int} {o3 o4 : Option ab_AV} {σ : ab_SG} (h : G 72 [some (2, 69, 0), some (2, 1, 0), some (2, 3, 0), some (0, 0, b0), some (0, 0, 0)] [] σ) : G 68 [some (2, 69, 0), some (2, 1, 0), some (2, 3, 0), o3, o4] [(0, 0, b0)] σ := fw_on hG [12, 19, 27, 32, 45, 62, 68, 72, 97, 106, 113, 114] 200 h
theorem fs_evRead_72 {G : fw_K} {R : fw_KR} (hG : fw_cls st_evRead R G) {a3 a4 : Int} {σ : ab_SG} (h : (fw_c 400 ≤ fw_c a4 → (0 ≤ fw_c a3 ∧ fw_c a3 ≤ 1) ∧ R (some (0, 0, a3)) σ) ∧ (fw_c a4 < fw_c 400 → (fw_c a3 = 0 → (0 ≤ fw_c a3 ∧ fw_c a3 ≤ 1) ∧ R (some (0, 0, a3)) σ) ∧ (fw_c a3 ≠ 0 → (fw_c (σ 1 5) = 0 → (0 ≤ fw_c a3 ∧ fw_c a3 ≤ 1) ∧ R (some (0, 0, a3)) σ) ∧ (fw_c (σ 1 5) ≠ 0 → sp_evLine [(2, 69, 0), (2, 1, 0), (2, 3, 0)] σ (fun rv σ2 => G 97 [some (2, 69, 0), some (2, 1, 0), some (2, 3, 0), some (0, 0, a3), some (0, 0, a4)] (rv.toList ++ []) σ2))))) : G 72 [some (2, 69, 0), some (2, 1, 0), some (2, 3, 0), some (0, 0, a3), some (0, 0, a4)] [] σ := fw_on hG [12, 19, 27, 32, 45, 62, 68, 72, 97, 106, 113, 114] 200 h
theorem fs_evRead_97 {G : fw_K} {R : fw_KR} (hG : fw_cls st_evRead R G) {a4 b0 : Int} {o3 : Option ab_AV} {σ : ab_SG} (h : (fw_c b0 = 0 → G 113 [some (2, 69, 0), some (2, 1, 0), some (2, 3, 0), o3, some (0, 0, a4)] [] σ) ∧ (fw_c b0 ≠ 0 → sp_takeSign [(2, 1, 0), (0, 0, 59)] σ (fun rv σ2 => G 106 [some (2, 69, 0), some (2, 1, 0), some (2, 3, 0), o3, some (0, 0, a4)] (rv.toList ++ []) σ2))) : G 97 [some (2, 69, 0), some (2, 1, 0), some (2, 3, 0), o3, some (0, 0, a4)] [(0, 0, b0)] σ := fw_on hG [12, 19, 27, 32, 45, 62, 68, 72, 97, 106, 113, 114] 200 h
theorem fs_evRead_113 {G : fw_K} {R : fw_KR} (hG : fw_cls st_evRead R G) {a4 : Int} {o3 : Option ab_AV} {σ : ab_SG} (h : G 114 [some (2, 69, 0), some (2, 1, 0), some (2, 3, 0), o3, some (0, 0, a4)] [(0, 0, 0)] σ) : G 113 [some (2, 69, 0), some (2, 1, 0), some (2, 3, 0), o3, some (0, 0, a4)] [] σ := fw_on hG [12, 19, 27, 32, 45, 62, 68, 72, 97, 106, 113, 114] 200 h
theorem fs_evRead_106 {G : fw_K} {R : fw_KR} (hG : fw_cls st_evRead R G) {a4 b0 : Int} {o3 : Option ab_AV} {σ : ab_SG} (h : (fw_c b0 = 0 → G 113 [some (2, 69, 0), some (2, 1, 0), some (2, 3, 0), o3, some (0, 0, a4)] [] σ) ∧ (fw_c b0 ≠ 0 → G 114 [some (2, 69, 0), some (2, 1, 0), some (2, 3, 0), o3, some (0, 0, a4)] [(0, 0, 1)] σ)) : G 106 [some (2, 69, 0), some (2, 1, 0), some (2, 3, 0), o3, some (0, 0, a4)] [(0, 0, b0)] σ := fw_on hG [12, 19, 27, 32, 45, 62, 68, 72, 97, 106, 113, 114] 200 h
theorem fs_evRead_114 {G : fw_K} {R : fw_KR} (hG : fw_cls st_evRead R G) {a4 b0 : Int} {o3 : Option ab_AV} {σ : ab_SG} (h : G 72 [some (2, 69, 0), some (2, 1, 0), some (2, 3, 0), some (0, 0, b0), some (0, 0, a4 + 1)] [] σ) : G 114 [some (2, 69, 0), some (2, 1, 0), some (2, 3, 0), o3, some (0, 0, a4)] [(0, 0, b0)] σ := fw_on hG [12, 19, 27, 32, 45, 62, 68, 72, 97, 106, 113, 114] 200 h
abbrev fk_whyWrong : List fw_CR := []
abbrev st_whyWrong : fw_K → fw_KR → fw_K := fw_st vwCl nn_sh nn_kd fw_kv fw_wc (nn_KI4.map (fun x => x.1)) (nn_KJ4.map (fun x => x.1)) (nn_PF4.map (fun x => x.1)) (nn_PS4.map (fun x => x.1)) fk_whyWrong 0 nn_dt156 6 0
theorem fs_whyWrong_0 {G : fw_K} {R : fw_KR} (hG : fw_cls st_whyWrong R G) {p b f : Int} {σ : ab_SG} (h : (0 ≤ fw_c 3 ∧ fw_c 3 < ((5 : Nat) : Int)) ∧ ((fw_c (σ 72 (fw_c 3).toNat) = fw_c (-1) → (0 ≤ fw_c 4 ∧ fw_c 4 < ((5 : Nat) : Int)) ∧ ((fw_c (σ 72 (fw_c 4).toNat) ≠ fw_c (-1) → (0 ≤ fw_c 4 ∧ fw_c 4 < ((5 : Nat) : Int)) ∧ ((fw_c p = fw_c (σ 72 (fw_c 4).toNat) → G 55 [some (2, 69, 0), some (0, 0, p), some (0, 0, b), some (0, 0, f), none, none] [(0, 0, 0)] σ) ∧ (fw_c p ≠ fw_c (σ 72 (fw_c 4).toNat) → G 55 [some (2, 69, 0), some (0, 0, p), some (0, 0, b), some (0, 0, f), none, none] [(0, 0, 1)] σ))) ∧ (fw_c (σ 72 (fw_c 4).toNat) = fw_c (-1) → (0 ≤ fw_c 2 ∧ fw_c 2 < ((5 : Nat) : Int)) ∧ ((fw_c p ≠ fw_c (σ 72 (fw_c 2).toNat) → G 55 [some (2, 69, 0), some (0, 0, p), some (0, 0, b), some (0, 0, f), none, none] [(0, 0, 0)] σ) ∧ (fw_c p = fw_c (σ 72 (fw_c 2).toNat) → G 55 [some (2, 69, 0), some (0, 0, p), some (0, 0, b), some (0, 0, f), none, none] [(0, 0, 1)] σ))))) ∧ (fw_c (σ 72 (fw_c 3).toNat) ≠ fw_c (-1) → R (some (0, 0, 1)) σ))) : G 0 [some (2, 69, 0), some (0, 0, p), some (0, 0, b), some (0, 0, f), none, none] [] σ := fw_on hG [55, 120] 200 h
theorem fs_whyWrong_55 {G : fw_K} {R : fw_KR} (hG : fw_cls st_whyWrong R G) {a2 a3 b0 : Int} {o1 o5 : Option ab_AV} {σ : ab_SG} (h : (fw_c b0 = 0 → (fw_c a2 ≠ 0 → (0 ≤ fw_c 1 ∧ fw_c 1 < ((5 : Nat) : Int)) ∧ ((fw_c (σ 72 (fw_c 1).toNat) ≠ 0 → (0 ≤ fw_c 1 ∧ fw_c 1 < ((5 : Nat) : Int)) ∧ ((fw_c a2 < fw_c (σ 72 (fw_c 1).toNat) → G 120 [some (2, 69, 0), o1, some (0, 0, a2), some (0, 0, a3), some (0, 0, b0), o5] [(0, 0, 0)] σ) ∧ (fw_c (σ 72 (fw_c 1).toNat) ≤ fw_c a2 → G 120 [some (2, 69, 0), o1, some (0, 0, a2), some (0, 0, a3), some (0, 0, b0), o5] [(0, 0, 1)] σ))) ∧ (fw_c (σ 72 (fw_c 1).toNat) = 0 → (fw_c a2 ≤ fw_c a3 → G 120 [some (2, 69, 0), o1, some (0, 0, a2), some (0, 0, a3), some (0, 0, b0), o5] [(0, 0, 0)] σ) ∧ (fw_c a3 < fw_c a2 → G 120 [some (2, 69, 0), o1, some (0, 0, a2), some (0, 0, a3), some (0, 0, b0), o5] [(0, 0, 1)] σ)))) ∧ (fw_c a2 = 0 → (0 ≤ fw_c 1 ∧ fw_c 1 < ((5 : Nat) : Int)) ∧ ((fw_c (σ 72 (fw_c 1).toNat) ≠ 0 → R (some (0, 0, 0)) σ) ∧ (fw_c (σ 72 (fw_c 1).toNat) = 0 → R (some (0, 0, 4)) σ)))) ∧ (fw_c b0 ≠ 0 → R (some (0, 0, 2)) σ)) : G 55 [some (2, 69, 0), o1, some (0, 0, a2), some (0, 0, a3), none, o5] [(0, 0, b0)] σ := fw_on hG [55, 120] 200 h
theorem fs_whyWrong_120 {G : fw_K} {R : fw_KR} (hG : fw_cls st_whyWrong R G) {a4 b0 : Int} {o1 o2 o3 o5 : Option ab_AV} {σ : ab_SG} (h : (fw_c b0 = 0 → R (some (0, 0, 0)) σ) ∧ (fw_c b0 ≠ 0 → R (some (0, 0, 3)) σ)) : G 120 [some (2, 69, 0), o1, o2, o3, some (0, 0, a4), o5] [(0, 0, b0)] σ := fw_on hG [55, 120] 200 h
abbrev fk_judge : List fw_CR := [(105, 2, false, 0, 0, sp_atv), (112, 3, true, 2, 0, sp_whyWrong)]
abbrev st_judge : fw_K → fw_KR → fw_K := fw_st vwCl nn_sh nn_kd fw_kv fw_wc (nn_KI4.map (fun x => x.1)) (nn_KJ4.map (fun x => x.1)) (nn_PF4.map (fun x => x.1)) (nn_PS4.map (fun x => x.1)) fk_judge 1 nn_dt155 6 0
theorem fs_judge_0 {G : fw_K} {R : fw_KR} (hG : fw_cls st_judge R G) {σ : ab_SG} (h : (0 ≤ fw_c 1 ∧ fw_c 1 ≤ 1) ∧ ((0 ≤ fw_c 0 ∧ fw_c 0 < ((5 : Nat) : Int)) ∧ True ∧ ((0 ≤ fw_c 1 ∧ fw_c 1 < ((5 : Nat) : Int)) ∧ True ∧ ((0 ≤ fw_c 2 ∧ fw_c 2 < ((5 : Nat) : Int)) ∧ True ∧ ((0 ≤ fw_c 3 ∧ fw_c 3 < ((5 : Nat) : Int)) ∧ True ∧ ((0 ≤ fw_c 4 ∧ fw_c 4 < ((5 : Nat) : Int)) ∧ True ∧ (G 60 [some (2, 69, 0), some (2, 3, 0), some (0, 0, (-1)), some (0, 0, 0), none, none] [] (ab_ups (ab_ups (ab_ups (ab_ups (ab_ups (ab_ups (ab_ups (ab_ups σ 69 7 (fw_c 1)) 69 5 (fw_c (σ 69 4))) 69 6 (fw_c (σ 3 15))) 72 (fw_c 0).toNat (fw_c 0)) 72 (fw_c 1).toNat (fw_c 0)) 72 (fw_c 2).toNat (fw_c (-1))) 72 (fw_c 3).toNat (fw_c (-1))) 72 (fw_c 4).toNat (fw_c (-1)))))))))) : G 0 [some (2, 69, 0), some (2, 3, 0), none, none, none, none] [] σ := fw_on hG [60, 76, 86, 105, 168] 200 h
theorem fs_judge_60 {G : fw_K} {R : fw_KR} (hG : fw_cls st_judge R G) {a2 a3 : Int} {o4 o5 : Option ab_AV} {σ : ab_SG} (h : (fw_c (σ 69 3) ≤ fw_c a3 → R (some (0, 0, (-1))) σ) ∧ (fw_c a3 < fw_c (σ 69 3) → sp_atv [(2, 70, 0), (0, 0, a3)] σ (fun rv σ2 => G 76 [some (2, 69, 0), some (2, 3, 0), some (0, 0, a2), some (0, 0, a3), o4, o5] (rv.toList ++ []) σ2))) : G 60 [some (2, 69, 0), some (2, 3, 0), some (0, 0, a2), some (0, 0, a3), o4, o5] [] σ := fw_on hG [60, 76, 86, 105, 168] 200 h
theorem fs_judge_76 {G : fw_K} {R : fw_KR} (hG : fw_cls st_judge R G) {a2 a3 b0 : Int} {o4 o5 : Option ab_AV} {σ : ab_SG} (h : sp_atv [(2, 71, 0), (0, 0, a3)] σ (fun rv σ2 => G 86 [some (2, 69, 0), some (2, 3, 0), some (0, 0, a2), some (0, 0, a3), some (0, 0, b0), o5] (rv.toList ++ []) σ2)) : G 76 [some (2, 69, 0), some (2, 3, 0), some (0, 0, a2), some (0, 0, a3), o4, o5] [(0, 0, b0)] σ := fw_on hG [60, 76, 86, 105, 168] 200 h
theorem fs_judge_86 {G : fw_K} {R : fw_KR} (hG : fw_cls st_judge R G) {a2 a3 a4 b0 : Int} {o5 : Option ab_AV} {σ : ab_SG} (h : sp_whyWrong [(2, 69, 0), (0, 0, a4), (0, 0, b0), (0, 0, σ 3 14)] σ (fun rv σ2 => G 105 [some (2, 69, 0), some (2, 3, 0), some (0, 0, a2), some (0, 0, a3), some (0, 0, a4), some (0, 0, b0)] (rv.toList ++ [(0, 0, 0), (2, 72, 0)]) σ2)) : G 86 [some (2, 69, 0), some (2, 3, 0), some (0, 0, a2), some (0, 0, a3), some (0, 0, a4), o5] [(0, 0, b0)] σ := fw_on hG [60, 76, 86, 105, 168] 200 h
theorem fs_judge_105 {G : fw_K} {R : fw_KR} (hG : fw_cls st_judge R G) {a2 a3 a4 a5 b0 b1 : Int} {σ : ab_SG} (h : (0 ≤ fw_c b1 ∧ fw_c b1 < ((5 : Nat) : Int)) ∧ True ∧ ((0 ≤ fw_c 0 ∧ fw_c 0 < ((5 : Nat) : Int)) ∧ ((fw_c ((ab_ups σ 72 (fw_c b1).toNat (fw_c b0)) 72 (fw_c 0).toNat) = 0 → (fw_c a5 ≠ 0 → (0 ≤ fw_c 1 ∧ fw_c 1 < ((5 : Nat) : Int)) ∧ True ∧ ((0 ≤ fw_c 2 ∧ fw_c 2 < ((5 : Nat) : Int)) ∧ True ∧ ((0 ≤ fw_c 4 ∧ fw_c 4 < ((5 : Nat) : Int)) ∧ True ∧ (G 168 [some (2, 69, 0), some (2, 3, 0), some (0, 0, a4), some (0, 0, a3), some (0, 0, a4), some (0, 0, a5)] [] (ab_ups (ab_ups (ab_ups (ab_ups σ 72 (fw_c b1).toNat (fw_c b0)) 72 (fw_c 1).toNat (fw_c a5)) 72 (fw_c 2).toNat (fw_c a4)) 72 (fw_c 4).toNat (fw_c a2)))))) ∧ (fw_c a5 = 0 → (0 ≤ fw_c 3 ∧ fw_c 3 < ((5 : Nat) : Int)) ∧ True ∧ ((0 ≤ fw_c 4 ∧ fw_c 4 < ((5 : Nat) : Int)) ∧ True ∧ (G 168 [some (2, 69, 0), some (2, 3, 0), some (0, 0, a2), some (0, 0, a3), some (0, 0, a4), some (0, 0, a5)] [] (ab_ups (ab_ups (ab_ups σ 72 (fw_c b1).toNat (fw_c b0)) 72 (fw_c 3).toNat (fw_c a4)) 72 (fw_c 4).toNat (fw_c (-1))))))) ∧ (fw_c ((ab_ups σ 72 (fw_c b1).toNat (fw_c b0)) 72 (fw_c 0).toNat) ≠ 0 → R (some (0, 0, a3 + 1)) (ab_ups σ 72 (fw_c b1).toNat (fw_c b0)))))) : G 105 [some (2, 69, 0), some (2, 3, 0), some (0, 0, a2), some (0, 0, a3), some (0, 0, a4), some (0, 0, a5)] [(0, 0, b0), (0, 0, b1), (2, 72, 0)] σ := fw_on hG [60, 76, 86, 105, 168] 200 h
theorem fs_judge_168 {G : fw_K} {R : fw_KR} (hG : fw_cls st_judge R G) {a2 a3 : Int} {o4 o5 : Option ab_AV} {σ : ab_SG} (h : G 60 [some (2, 69, 0), some (2, 3, 0), some (0, 0, a2), some (0, 0, a3 + 1), o4, o5] [] σ) : G 168 [some (2, 69, 0), some (2, 3, 0), some (0, 0, a2), some (0, 0, a3), o4, o5] [] σ := fw_on hG [60, 76, 86, 105, 168] 200 h
abbrev fk_evening : List fw_CR := [(377, 2, true, 2, 5, sp_evRead), (380, 1, true, 2, 1, sp_judge)]
abbrev st_evening : fw_K → fw_KR → fw_K := fw_st vwCl nn_sh nn_kd fw_kv fw_wc (nn_KI1.map (fun x => x.1)) (nn_KJ1.map (fun x => x.1)) (nn_PF1.map (fun x => x.1)) (nn_PS1.map (fun x => x.1)) fk_evening 6 nn_dt152 2 0
theorem fs_evening_0 {G : fw_K} {R : fw_KR} (hG : fw_cls st_evening R G) {σ : ab_SG} (h : sp_evRead [(2, 69, 0), (2, 1, 0), (2, 3, 0)] σ (fun rv σ2 => G 15 [some (2, 0, 0), none] (rv.toList ++ []) σ2)) : G 0 [some (2, 0, 0), none] [] σ := fw_on hG [15, 39] 200 h
theorem fs_evening_15 {G : fw_K} {R : fw_KR} (hG : fw_cls st_evening R G) {b0 : Int} {o1 : Option ab_AV} {σ : ab_SG} (h : (fw_c b0 = 0 → R (some (0, 0, (-2) - (σ 1 10))) (ab_ups σ 1 1 (fw_c 0))) ∧ (fw_c b0 ≠ 0 → sp_judge [(2, 69, 0), (2, 3, 0)] (ab_ups σ 1 1 (fw_c 0)) (fun rv σ2 => G 39 [some (2, 0, 0), some (0, 0, b0)] (rv.toList ++ []) σ2))) : G 15 [some (2, 0, 0), o1] [(0, 0, b0)] σ := fw_on hG [15, 39] 200 h
theorem fs_evening_39 {G : fw_K} {R : fw_KR} (hG : fw_cls st_evening R G) {b0 : Int} {o1 : Option ab_AV} {σ : ab_SG} (h : R (some (0, 0, b0)) σ) : G 39 [some (2, 0, 0), o1] [(0, 0, b0)] σ := fw_on hG [15, 39] 200 h
section
variable {l : Launch} {cy : Nat → ClassId} {ad wr cr : Nat → Nat} {D : va_G}
theorem fm_at70 (hinj : nn_inj ad) : fw_H l cy ad wr cr D 29 0 (at_k 70 128) := fw_mk hinj (⟨"NameNotes", "at", "([II)I"⟩, prog_1_method_84_code, 2, (Option.some Jvm.ClassFile.FieldType.int), 2, false, 0) rfl rfl nn_KI1_ok nn_KJ1_ok nn_PF1_ok nn_PS1_ok (by decide +kernel) rfl rfl (fun _ h => absurd h List.not_mem_nil) (fun as σ K h => by
  obtain ⟨x, rfl, h1, h2⟩ := h
  exact ⟨rfl, fun G hG => at_gen (k := 70) (n := 128) (K := K) (σ := σ) (x := x) (by decide) (fs_at70_0 hG) h1 h2⟩)
theorem fm_at71 (hinj : nn_inj ad) : fw_H l cy ad wr cr D 29 0 (at_k 71 128) := fw_mk hinj (⟨"NameNotes", "at", "([II)I"⟩, prog_1_method_84_code, 2, (Option.some Jvm.ClassFile.FieldType.int), 2, false, 0) rfl rfl nn_KI1_ok nn_KJ1_ok nn_PF1_ok nn_PS1_ok (by decide +kernel) rfl rfl (fun _ h => absurd h List.not_mem_nil) (fun as σ K h => by
  obtain ⟨x, rfl, h1, h2⟩ := h
  exact ⟨rfl, fun G hG => at_gen (k := 71) (n := 128) (K := K) (σ := σ) (x := x) (by decide) (fs_at71_0 hG) h1 h2⟩)
theorem fm_put70 (hinj : nn_inj ad) : fw_H l cy ad wr cr D 27 0 (put_k 70 128) := fw_mk hinj (⟨"NameNotes", "put", "([III)V"⟩, prog_1_method_86_code, 3, (Option.none : Option Jvm.ClassFile.FieldType), 3, false, 4) rfl rfl nn_KI1_ok nn_KJ1_ok nn_PF1_ok nn_PS1_ok (by decide +kernel) rfl rfl (fun _ h => absurd h List.not_mem_nil) (fun as σ K h => by
  obtain ⟨x, v, rfl, h1, h2⟩ := h
  exact ⟨rfl, fun G hG => put_gen (k := 70) (n := 128) (K := K) (σ := σ) (x := x) (c := fw_c v) (by decide) (fs_put70_0 hG) h1 h2⟩)
theorem fm_put71 (hinj : nn_inj ad) : fw_H l cy ad wr cr D 27 0 (put_k 71 128) := fw_mk hinj (⟨"NameNotes", "put", "([III)V"⟩, prog_1_method_86_code, 3, (Option.none : Option Jvm.ClassFile.FieldType), 3, false, 4) rfl rfl nn_KI1_ok nn_KJ1_ok nn_PF1_ok nn_PS1_ok (by decide +kernel) rfl rfl (fun _ h => absurd h List.not_mem_nil) (fun as σ K h => by
  obtain ⟨x, v, rfl, h1, h2⟩ := h
  exact ⟨rfl, fun G hG => put_gen (k := 71) (n := 128) (K := K) (σ := σ) (x := x) (c := fw_c v) (by decide) (fs_put71_0 hG) h1 h2⟩)
theorem fm_seek12 (hinj : nn_inj ad) : fw_H l cy ad wr cr D 33 1 (seek_k 12 6) := fw_mk hinj (⟨"NameNotes$Tape", "seek", "([JI)I"⟩, prog_10_method_11_code, 4, (Option.some Jvm.ClassFile.FieldType.int), 2, true, 0) rfl rfl nn_KI2_ok nn_KJ2_ok nn_PF2_ok nn_PS2_ok (by decide +kernel) rfl rfl (List.forall_mem_cons.mpr ⟨fw_row nn_PM2_ok (x := 87) (k := 0) (mn := 24) (np := 0) (ob := true) (ci := 8) (⟨"NameNotes$Tape", "isName", "()Z"⟩, prog_10_method_9_code, 1, (Option.some Jvm.ClassFile.FieldType.boolean), 0, true, 1) rfl (by decide +kernel) rfl rfl (by decide) (fun _ => ⟨_, _, rfl⟩) (fm_isName hinj), (List.forall_mem_cons.mpr ⟨fw_row nn_PM2_ok (x := 91) (k := 0) (mn := 22) (np := 1) (ob := true) (ci := 8) (⟨"NameNotes$Tape", "refuse", "(I)Z"⟩, prog_10_method_14_code, 2, (Option.some Jvm.ClassFile.FieldType.boolean), 1, true, 1) rfl (by decide +kernel) rfl rfl (by decide) (fun _ => ⟨_, _, rfl⟩) (fm_refuse hinj), (fun _ h => absurd h List.not_mem_nil)⟩)⟩) (fun as σ K h => by
  obtain ⟨x, rfl, hx, hd, hw, h1, h2, h3⟩ := h
  refine ⟨rfl, fun G hG => fs_seek12_0 hG ⟨rfl, ?_⟩⟩
  refine fs_seek12_4 hG ⟨fun z => ?_, fun z => ⟨_, rfl, fs_seek12_12 hG (h1 (fw_bo_eq z))⟩⟩
  have hn := fw_bo_ne z
  exact seek_gen (k := 12) (n := 6) (K := K) (σ := σ) (x := x) (G2 := fun i => G 17 [some (2, 1, 0), some (2, 12, 0), some (0, 0, x), some (0, 0, i)] [] σ) (G4 := fun i => G 47 [some (2, 1, 0), some (2, 12, 0), some (0, 0, x), some (0, 0, i)] [] σ) (by decide) (fun a3 q => fs_seek12_17 hG q) hx hd (hw hn) (fun q i => fs_seek12_47 hG ⟨_, rfl, fs_seek12_52 hG (h2 hn q)⟩) (h3 hn))
theorem fm_seek13 (hinj : nn_inj ad) : fw_H l cy ad wr cr D 33 1 (seek_k 13 5) := fw_mk hinj (⟨"NameNotes$Tape", "seek", "([JI)I"⟩, prog_10_method_11_code, 4, (Option.some Jvm.ClassFile.FieldType.int), 2, true, 0) rfl rfl nn_KI2_ok nn_KJ2_ok nn_PF2_ok nn_PS2_ok (by decide +kernel) rfl rfl (List.forall_mem_cons.mpr ⟨fw_row nn_PM2_ok (x := 87) (k := 0) (mn := 24) (np := 0) (ob := true) (ci := 8) (⟨"NameNotes$Tape", "isName", "()Z"⟩, prog_10_method_9_code, 1, (Option.some Jvm.ClassFile.FieldType.boolean), 0, true, 1) rfl (by decide +kernel) rfl rfl (by decide) (fun _ => ⟨_, _, rfl⟩) (fm_isName hinj), (List.forall_mem_cons.mpr ⟨fw_row nn_PM2_ok (x := 91) (k := 0) (mn := 22) (np := 1) (ob := true) (ci := 8) (⟨"NameNotes$Tape", "refuse", "(I)Z"⟩, prog_10_method_14_code, 2, (Option.some Jvm.ClassFile.FieldType.boolean), 1, true, 1) rfl (by decide +kernel) rfl rfl (by decide) (fun _ => ⟨_, _, rfl⟩) (fm_refuse hinj), (fun _ h => absurd h List.not_mem_nil)⟩)⟩) (fun as σ K h => by
  obtain ⟨x, rfl, hx, hd, hw, h1, h2, h3⟩ := h
  refine ⟨rfl, fun G hG => fs_seek13_0 hG ⟨rfl, ?_⟩⟩
  refine fs_seek13_4 hG ⟨fun z => ?_, fun z => ⟨_, rfl, fs_seek13_12 hG (h1 (fw_bo_eq z))⟩⟩
  have hn := fw_bo_ne z
  exact seek_gen (k := 13) (n := 5) (K := K) (σ := σ) (x := x) (G2 := fun i => G 17 [some (2, 1, 0), some (2, 13, 0), some (0, 0, x), some (0, 0, i)] [] σ) (G4 := fun i => G 47 [some (2, 1, 0), some (2, 13, 0), some (0, 0, x), some (0, 0, i)] [] σ) (by decide) (fun a3 q => fs_seek13_17 hG q) hx hd (hw hn) (fun q i => fs_seek13_47 hG ⟨_, rfl, fs_seek13_52 hG (h2 hn q)⟩) (h3 hn))
theorem fm_atv (hinj : nn_inj ad) : fw_H l cy ad wr cr D 29 0 sp_atv := fw_H_of (List.forall_mem_cons.mpr ⟨fm_at70 hinj, (List.forall_mem_cons.mpr ⟨fm_at71 hinj, (fun _ h => absurd h List.not_mem_nil)⟩)⟩)
theorem fm_putv (hinj : nn_inj ad) : fw_H l cy ad wr cr D 27 0 sp_putv := fw_H_of (List.forall_mem_cons.mpr ⟨fm_put70 hinj, (List.forall_mem_cons.mpr ⟨fm_put71 hinj, (fun _ h => absurd h List.not_mem_nil)⟩)⟩)
theorem fm_seekn (hinj : nn_inj ad) : fw_H l cy ad wr cr D 33 1 sp_seekn := fw_H_of (List.forall_mem_cons.mpr ⟨fm_seek12 hinj, (List.forall_mem_cons.mpr ⟨fm_seek13 hinj, (fun _ h => absurd h List.not_mem_nil)⟩)⟩)
theorem fm_evLine (hinj : nn_inj ad) : fw_H l cy ad wr cr D 154 4 sp_evLine := fw_mk hinj (⟨"NameNotes$Evening", "readLine", "(LNameNotes$Tape;LNameNotes$Studio;)Z"⟩, prog_4_method_3_code, 5, (Option.some Jvm.ClassFile.FieldType.boolean), 2, true, 1) rfl rfl nn_KI4_ok nn_KJ4_ok nn_PF4_ok nn_PS4_ok (by decide +kernel) rfl rfl (List.forall_mem_cons.mpr ⟨fw_row nn_PM4_ok (x := 37) (k := 0) (mn := 20) (np := 1) (ob := true) (ci := 8) (⟨"NameNotes$Tape", "isWord", "(LNameNotes$Word;)Z"⟩, prog_10_method_10_code, 2, (Option.some Jvm.ClassFile.FieldType.boolean), 1, true, 1) rfl (by decide +kernel) rfl rfl (by decide) (fun _ => ⟨_, _, rfl⟩) (fm_isWord hinj), (List.forall_mem_cons.mpr ⟨fw_row nn_PM4_ok (x := 45) (k := 0) (mn := 10) (np := 0) (ob := true) (ci := 8) (⟨"NameNotes$Tape", "step", "()V"⟩, prog_10_method_5_code, 2, (Option.none : Option Jvm.ClassFile.FieldType), 0, true, 4) rfl (by decide +kernel) rfl rfl (by decide) (fun _ => ⟨_, _, rfl⟩) (fm_step hinj), (List.forall_mem_cons.mpr ⟨fw_row nn_PM4_ok (x := 57) (k := 0) (mn := 33) (np := 2) (ob := true) (ci := 8) (⟨"NameNotes$Tape", "seek", "([JI)I"⟩, prog_10_method_11_code, 4, (Option.some Jvm.ClassFile.FieldType.int), 2, true, 0) rfl (by decide +kernel) rfl rfl (by decide) (fun _ => ⟨_, _, rfl⟩) (fm_seekn hinj), (List.forall_mem_cons.mpr ⟨fw_row nn_PM4_ok (x := 83) (k := 0) (mn := 30) (np := 2) (ob := true) (ci := 8) (⟨"NameNotes$Tape", "needNumber", "(II)Z"⟩, prog_10_method_12_code, 3, (Option.some Jvm.ClassFile.FieldType.boolean), 2, true, 1) rfl (by decide +kernel) rfl rfl (by decide) (fun _ => ⟨_, _, rfl⟩) (fm_needNumber hinj), (List.forall_mem_cons.mpr ⟨fw_row nn_PM4_ok (x := 87) (k := 2) (mn := 27) (np := 3) (ob := false) (ci := 0) (⟨"NameNotes", "put", "([III)V"⟩, prog_1_method_86_code, 3, (Option.none : Option Jvm.ClassFile.FieldType), 3, false, 4) rfl (by decide +kernel) rfl rfl (by decide) (fun q => by cases q) (fm_putv hinj), (fun _ h => absurd h List.not_mem_nil)⟩)⟩)⟩)⟩)⟩) (fun as σ K h => by
  obtain ⟨A, e, p, i, rfl, hN, hE, h3, hi, h0, h1, h2⟩ := h
  have m1 : fw_c (-1) = -1 := fw_s (by decide) (by decide)
  refine ⟨rfl, fun G hG => fs_evLine_0 hG (hE.seek13 hN (fun q σ' a b c => fs_evLine_12 hG ⟨fun z => absurd rfl z, fun _ => ⟨fw_01, h0 q σ' a b c⟩⟩) (fun q => ?_))⟩
  have k := pr_sk_0 q
  have n13 := hN.1.2.2.1
  have ib := hi q
  have cx : fw_c (pr_ix A e 59 (A 49 13) p) = pr_ix A e 59 (A 49 13) p := fw_s (by omega) (by omega)
  refine fs_evLine_12 hG ⟨fun _ => ⟨rfl, hE.st.1, fun σ1 M1 S1 => fs_evLine_24 hG ?_⟩, fun z => absurd z (by rw [cx, m1]; omega)⟩
  have E1 := hE.st.2 σ1 M1 S1
  have kw := E1.kw
  have e3 : σ1 69 3 = (i : Int) := (mk_row M1 (k := 69) (by decide) 3).trans h3
  have ci : fw_c (i : Int) = (i : Int) := fw_s (by omega) (by omega)
  have ci1 : fw_c ((i : Int) + 1) = ((i + 1 : Nat) : Int) := fw_s (by omega) (by omega)
  refine ⟨6, rfl, ⟨kw.2.1, kw.2.2, by decide, by decide⟩, ?_⟩
  have T1 : ∀ {σ : ab_SG} {k j a b : Nat} {v : Int}, (a ≠ k ∨ b ≠ j) → (ab_ups σ k j v) a b = σ a b := fun hh => ab_ups_ne (fun z => hh.elim (fun y => y z.1) (fun y => y z.2))
  have fin : ∀ (a4 : Int) (o3 : Int), o3 = pr_ix A e 59 (A 49 13) p → ((tw e (tn e p) = 6 ∧ fw_c a4 ≠ 0) ∨ (tw e (tn e p) ≠ 6 ∧ fw_c a4 = 0 ∧ σ1 1 8 = (tk e (tn e p)).2.2.2.2 ∧ 1 ≤ (tk e (tn e p)).2.2.2.2 ∧ (tk e (tn e p)).2.2.2.2 ≤ 9)) → (tw e (tn e p) = 6 ∨ pr_nm e (tn e p) 1 9 = 0) → G 50 [some (2, 69, 0), some (2, 1, 0), some (2, 3, 0), some (0, 0, o3), some (0, 0, a4)] [] σ1 := by
    intro a4 o3 eo hc hg
    subst eo
    refine fs_evLine_50 hG ⟨(70, 128), by decide, _, _, rfl, fun _ => ?_, fun z => absurd (by rw [e3, ci]; exact ⟨by omega, by show (i : Int) < (128 : Int); omega⟩) z⟩
    rw [e3, ci, Int.toNat_natCast, cx]
    have M2 : ab_okM el_M σ (ab_ups σ1 70 i (pr_ix A e 59 (A 49 13) p)) := fw_okM_upa (ev_up M1 (by decide)) (by decide)
    have E2 : eD (ab_ups σ1 70 i (pr_ix A e 59 (A 49 13) p)) e (tn e p) := E1.M (M := [(70, i)]) okM_one rfl rfl
    have f8 : (ab_ups σ1 70 i (pr_ix A e 59 (A 49 13) p)) 1 8 = σ1 1 8 := T1 (Or.inl (by decide))
    have f3 : (ab_ups σ1 70 i (pr_ix A e 59 (A 49 13) p)) 69 3 = (i : Int) := (T1 (Or.inl (by decide))).trans e3
    have f70 : (ab_ups σ1 70 i (pr_ix A e 59 (A 49 13) p)) 70 i = pr_ix A e 59 (A 49 13) p := ab_ups_eq
    have g70 : ∀ j : Nat, j ≠ i → (ab_ups σ1 70 i (pr_ix A e 59 (A 49 13) p)) 70 j = σ 70 j := fun j hj => (T1 (Or.inr hj)).trans (mk_row M1 (by decide) j)
    have g71 : ∀ j : Nat, (ab_ups σ1 70 i (pr_ix A e 59 (A 49 13) p)) 71 j = σ 71 j := fun j => (T1 (Or.inl (by decide))).trans (mk_row M1 (by decide) j)
    generalize ab_ups σ1 70 i (pr_ix A e 59 (A 49 13) p) = σ2 at M2 E2 f8 f3 f70 g70 g71 ⊢
    have put : ∀ v : Int, fw_c v = ev_w e p → G 83 [some (2, 69, 0), some (2, 1, 0), some (2, 3, 0), some (0, 0, pr_ix A e 59 (A 49 13) p), some (0, 0, a4)] [(0, 0, v), (0, 0, σ2 69 3), (2, 71, 0)] σ2 := by
      intro v ev
      refine fs_evLine_83 hG ⟨(71, 128), by decide, _, _, rfl, fun _ => ?_, fun z => absurd (by rw [f3, ci]; exact ⟨by omega, by show (i : Int) < (128 : Int); omega⟩) z⟩
      rw [f3, ci, Int.toNat_natCast, ev]
      refine fs_evLine_86 hG ?_
      rw [T1 (σ := σ2) (k := 71) (j := i) (a := 69) (b := 3) (Or.inl (by decide)), f3, ci1]
      have M3 : ab_okM el_M σ (ab_ups (ab_ups σ2 71 i (ev_w e p)) 69 3 ((i + 1 : Nat) : Int)) := fw_okM_ups (fw_okM_upa M2 (by decide)) (by decide)
      have E3 : eD (ab_ups (ab_ups σ2 71 i (ev_w e p)) 69 3 ((i + 1 : Nat) : Int)) e (tn e p) := (E2.M (M := [(71, i)]) okM_one rfl rfl).M (M := [(69, 3)]) okM_one rfl rfl
      have l3 : (ab_ups (ab_ups σ2 71 i (ev_w e p)) 69 3 ((i + 1 : Nat) : Int)) 69 3 = ((i + 1 : Nat) : Int) := ab_ups_eq
      have l71 : (ab_ups (ab_ups σ2 71 i (ev_w e p)) 69 3 ((i + 1 : Nat) : Int)) 71 i = ev_w e p := (T1 (Or.inl (by decide))).trans ab_ups_eq
      have l70 : (ab_ups (ab_ups σ2 71 i (ev_w e p)) 69 3 ((i + 1 : Nat) : Int)) 70 i = ev_p A e p := ((T1 (Or.inl (by decide))).trans (T1 (Or.inl (by decide)))).trans f70
      have o70 : ∀ j : Nat, j ≠ i → (ab_ups (ab_ups σ2 71 i (ev_w e p)) 69 3 ((i + 1 : Nat) : Int)) 70 j = σ 70 j ∧ (ab_ups (ab_ups σ2 71 i (ev_w e p)) 69 3 ((i + 1 : Nat) : Int)) 71 j = σ 71 j := fun j hj => ⟨((T1 (Or.inl (by decide))).trans (T1 (Or.inl (by decide)))).trans (g70 j hj), ((T1 (Or.inl (by decide))).trans (T1 (Or.inr hj))).trans (g71 j)⟩
      generalize ab_ups (ab_ups σ2 71 i (ev_w e p)) 69 3 ((i + 1 : Nat) : Int) = σ3 at M3 E3 l3 l71 l70 o70 ⊢
      refine ⟨rfl, E3.st.1, fun σ4 M4 S4 => fs_evLine_100 hG ⟨fw_11, ?_⟩⟩
      have R4 : ∀ k : Nat, k ≠ 1 → ∀ j : Nat, σ4 k j = σ3 k j := fun k hk j => M4 k j (fun q hq w => by
        have : ∀ q ∈ st_M, q.1 = 1 := by decide
        exact hk (w.1.symm.trans (this q hq)))
      exact h2 q hg σ4 (ev_tr M3 (ev_up M4 (by decide))) (E3.st.2 σ4 M4 S4) ((R4 69 (by decide) 3).trans l3) (fun j hj => ⟨(R4 70 (by decide) j).trans (o70 j hj).1, (R4 71 (by decide) j).trans (o70 j hj).2⟩) ((R4 70 (by decide) i).trans l70) ((R4 71 (by decide) i).trans l71)
    refine fs_evLine_62 hG ⟨fun z => ?_, fun z => ?_⟩
    · rcases hc with ⟨-, c⟩ | ⟨c1, -, c2, c3, c4⟩
      · exact absurd z c
      · refine put _ ?_
        unfold ev_w
        rw [if_neg c1, f8, c2]
        exact fw_s (by omega) (by omega)
    · rcases hc with ⟨c, -⟩ | ⟨-, c, -⟩
      · refine put _ ?_
        unfold ev_w
        rw [if_pos c]
        exact fw_c0
      · exact absurd c z
  by_cases hw : tw e (tn e p) = 6
  · have eb : fw_bo (fw_c (σ1 1 5) = 2 ∧ σ1 1 7 = 6) = 1 := fw_bo_t ((E1.isw (by decide)).mpr hw)
    show G 31 _ [(0, 0, fw_bo (fw_c (σ1 1 5) = 2 ∧ σ1 1 7 = 6))] σ1
    rw [eb]
    exact fs_evLine_31 hG ⟨fun _ => fin 1 _ rfl (Or.inl ⟨hw, by rw [fw_c1]; decide⟩) (Or.inl hw), fun z => absurd (fw_c1.symm.trans z) (by decide)⟩
  · have eb : fw_bo (fw_c (σ1 1 5) = 2 ∧ σ1 1 7 = 6) = 0 := fw_bo_f (fun z => hw ((E1.isw (by decide)).mp z))
    show G 31 _ [(0, 0, fw_bo (fw_c (σ1 1 5) = 2 ∧ σ1 1 7 = 6))] σ1
    rw [eb]
    refine fs_evLine_31 hG ⟨fun z => absurd fw_c0 z, fun _ => E1.num (by decide) (fun y σ' a b c => fs_evLine_45 hG ⟨fun z => absurd fw_c0 z, fun _ => ⟨fw_01, h1 q hw y σ' (ev_tr (ev_up M1 (by decide)) (ev_up a (by decide))) b c⟩⟩) (fun y y8 ya yb => fs_evLine_45 hG ⟨fun _ => fin 0 _ rfl (Or.inr ⟨hw, fw_c0, y8, ya, yb⟩) (Or.inr y), fun z => absurd (fw_c1.symm.trans z) (by decide)⟩)⟩)
theorem fm_evRead (hinj : nn_inj ad) : fw_H l cy ad wr cr D 153 5 sp_evRead := fw_mk hinj (⟨"NameNotes$Evening", "read", "(LNameNotes$Tape;LNameNotes$Studio;)Z"⟩, prog_4_method_2_code, 5, (Option.some Jvm.ClassFile.FieldType.boolean), 2, true, 1) rfl rfl nn_KI4_ok nn_KJ4_ok nn_PF4_ok nn_PS4_ok (by decide +kernel) rfl rfl (List.forall_mem_cons.mpr ⟨fw_row nn_PM4_ok (x := 25) (k := 0) (mn := 9) (np := 1) (ob := true) (ci := 8) (⟨"NameNotes$Tape", "open", "(I)V"⟩, prog_10_method_4_code, 2, (Option.none : Option Jvm.ClassFile.FieldType), 1, true, 4) rfl (by decide +kernel) rfl rfl (by decide) (fun _ => ⟨_, _, rfl⟩) (fm_opn hinj), (List.forall_mem_cons.mpr ⟨fw_row nn_PM4_ok (x := 37) (k := 0) (mn := 20) (np := 1) (ob := true) (ci := 8) (⟨"NameNotes$Tape", "isWord", "(LNameNotes$Word;)Z"⟩, prog_10_method_10_code, 2, (Option.some Jvm.ClassFile.FieldType.boolean), 1, true, 1) rfl (by decide +kernel) rfl rfl (by decide) (fun _ => ⟨_, _, rfl⟩) (fm_isWord hinj), (List.forall_mem_cons.mpr ⟨fw_row nn_PM4_ok (x := 41) (k := 0) (mn := 22) (np := 1) (ob := true) (ci := 8) (⟨"NameNotes$Tape", "refuse", "(I)Z"⟩, prog_10_method_14_code, 2, (Option.some Jvm.ClassFile.FieldType.boolean), 1, true, 1) rfl (by decide +kernel) rfl rfl (by decide) (fun _ => ⟨_, _, rfl⟩) (fm_refuse hinj), (List.forall_mem_cons.mpr ⟨fw_row nn_PM4_ok (x := 45) (k := 0) (mn := 10) (np := 0) (ob := true) (ci := 8) (⟨"NameNotes$Tape", "step", "()V"⟩, prog_10_method_5_code, 2, (Option.none : Option Jvm.ClassFile.FieldType), 0, true, 4) rfl (by decide +kernel) rfl rfl (by decide) (fun _ => ⟨_, _, rfl⟩) (fm_step hinj), (List.forall_mem_cons.mpr ⟨fw_row nn_PM4_ok (x := 57) (k := 0) (mn := 33) (np := 2) (ob := true) (ci := 8) (⟨"NameNotes$Tape", "seek", "([JI)I"⟩, prog_10_method_11_code, 4, (Option.some Jvm.ClassFile.FieldType.int), 2, true, 0) rfl (by decide +kernel) rfl rfl (by decide) (fun _ => ⟨_, _, rfl⟩) (fm_seekn hinj), (List.forall_mem_cons.mpr ⟨fw_row nn_PM4_ok (x := 64) (k := 0) (mn := 40) (np := 1) (ob := true) (ci := 8) (⟨"NameNotes$Tape", "takeSign", "(I)Z"⟩, prog_10_method_13_code, 2, (Option.some Jvm.ClassFile.FieldType.boolean), 1, true, 1) rfl (by decide +kernel) rfl rfl (by decide) (fun _ => ⟨_, _, rfl⟩) (fm_takeSign hinj), (List.forall_mem_cons.mpr ⟨fw_row nn_PM4_ok (x := 70) (k := 0) (mn := 154) (np := 2) (ob := true) (ci := 2) (⟨"NameNotes$Evening", "readLine", "(LNameNotes$Tape;LNameNotes$Studio;)Z"⟩, prog_4_method_3_code, 5, (Option.some Jvm.ClassFile.FieldType.boolean), 2, true, 1) rfl (by decide +kernel) rfl rfl (by decide) (fun _ => ⟨_, _, rfl⟩) (fm_evLine hinj), (fun _ h => absurd h List.not_mem_nil)⟩)⟩)⟩)⟩)⟩)⟩)⟩) (fun as σ0 K h => by
  obtain ⟨A, rfl, hb, hN0, hf, hg⟩ := h
  have c400 : fw_c 400 = 400 := fw_s (by decide) (by decide)
  have c59 : fw_c 59 = 59 := fw_s (by decide) (by decide)
  have m1 : fw_c (-1) = -1 := fw_s (by decide) (by decide)
  refine ⟨rfl, fun G hG => fs_evRead_0 hG ?_⟩
  have e11 : (ab_ups σ0 69 3 (fw_c 0)) 1 1 = σ0 1 1 := ab_ups_ne (by decide)
  have et : tp_t (ab_ups σ0 69 3 (fw_c 0)) = tp_t σ0 := tp_t_M (M := [(69, 3)]) okM_one rfl
  have M0 : ab_okM er_M σ0 (ab_ups σ0 69 3 (fw_c 0)) := fw_okM_ups (fw_okM_refl _ _) (by decide)
  have z3 : (ab_ups σ0 69 3 (fw_c 0)) 69 3 = 0 := by rw [ab_ups_eq, fw_c0]
  generalize ab_ups σ0 69 3 (fw_c 0) = σ at e11 et M0 z3 ⊢
  refine ⟨400, rfl, ⟨by omega, by omega, by rw [c400]; decide, by rw [c400]; decide⟩, fun σ1 N1 e2 e9 S1 => fs_evRead_12 hG ?_⟩
  have M1 : ab_okM er_M σ0 σ1 := ev_tr M0 (ev_up N1 (by decide))
  rw [et, e11, c400] at S1
  have E1 : eD σ1 (tp_t σ0, (σ0 1 1).toNat, 400) 0 := by
    have a1 : σ1 1 1 = σ0 1 1 := (N1 1 1 (by decide)).trans e11
    refine ⟨?_, S1, Nat.zero_le _, ?_, e9⟩
    · unfold eT
      rw [tp_t_M N1 (by decide), et, a1, e2, c400]
    · rw [a1, e2, c400]
      omega
  have t3 : σ1 69 3 = 0 := (mk_row N1 (k := 69) (by decide) 3).trans z3
  generalize he : ((tp_t σ0, (σ0 1 1).toNat, 400) : tk_E) = e at hf hg E1 S1
  have e4 : e.2.2 = 400 := by rw [← he]
  have e940 : e.2.1 ≤ 940 := by
    rw [← he]
    show (σ0 1 1).toNat ≤ 940
    omega
  have NCt : ∀ τ : ab_SG, ab_okM er_M σ0 τ → NC τ A := fun τ M => ev_NC M (by decide +kernel) hN0
  have out0 : ∀ (τ : ab_SG) (a4 : Int), K (some (0, 0, 0)) τ → G 72 [some (2, 69, 0), some (2, 1, 0), some (2, 3, 0), some (0, 0, 0), some (0, 0, a4)] [] τ := fun τ a4 k => fs_evRead_72 hG ⟨fun _ => ⟨fw_01, k⟩, fun _ => ⟨fun _ => ⟨fw_01, k⟩, fun z => absurd fw_c0 z⟩⟩
  have kw := E1.kw
  refine ⟨1, rfl, ⟨kw.2.1, kw.2.2, by decide, by decide⟩, ?_⟩
  show G 19 _ [(0, 0, fw_bo (fw_c (σ1 1 5) = 2 ∧ σ1 1 7 = 1))] σ1
  by_cases hw : tw e 0 = 1
  · rw [fw_bo_t ((E1.isw (by decide)).mpr hw)]
    refine fs_evRead_19 hG ⟨fun _ => ⟨rfl, E1.st.1, fun σ2 N2 S2 => fs_evRead_32 hG ?_⟩, fun z => absurd (fw_c1.symm.trans z) (by decide)⟩
    have E2 := E1.st.2 σ2 N2 S2
    have M2 : ab_okM er_M σ0 σ2 := ev_tr M1 (ev_up N2 (by decide))
    refine E2.seek12 (NCt σ2 M2) (fun q σ' a b c => ?_) (fun q => ?_)
    · have er : ev_r A e = (pr_sk A e 58 (A 49 12) (tn e 0), ev_st e (tn e 0), 0) := by
        have eh : ev_h A e = (pr_sk A e 58 (A 49 12) (tn e 0), ev_st e (tn e 0)) := by
          unfold ev_h
          rw [if_neg (fun y => y hw), if_pos q]
        rw [ev_r1 (by rw [eh]; exact q), eh]
      rw [er] at hf
      refine fs_evRead_45 hG ⟨fun z => absurd (by rw [fw_c_c]) z, fun _ => ⟨fw_01, hf q _ (fw_okM_ups (ev_tr M2 (ev_up a (by decide))) (by decide)) ((ab_ups_ne (by decide)).trans b) ((ab_ups_ne (by decide)).trans c)⟩⟩
    · have k := pr_sk_0 q
      have n12 := hN0.1.2.1
      have cx : fw_c (pr_ix A e 58 (A 49 12) (tn e 0)) = pr_ix A e 58 (A 49 12) (tn e 0) := fw_s (by omega) (by omega)
      refine fs_evRead_45 hG ⟨fun _ => ?_, fun z => absurd z (by rw [cx, cx, m1]; omega)⟩
      rw [cx]
      have E3 : eD (ab_ups σ2 69 4 (pr_ix A e 58 (A 49 12) (tn e 0))) e (tn e 0) := E2.M (M := [(69, 4)]) okM_one rfl rfl
      have M3 : ab_okM er_M σ0 (ab_ups σ2 69 4 (pr_ix A e 58 (A 49 12) (tn e 0))) := fw_okM_ups M2 (by decide)
      have f4 : (ab_ups σ2 69 4 (pr_ix A e 58 (A 49 12) (tn e 0))) 69 4 = ev_c A e := ab_ups_eq
      have f3 : (ab_ups σ2 69 4 (pr_ix A e 58 (A 49 12) (tn e 0))) 69 3 = 0 := (ab_ups_ne (by decide)).trans ((mk_row N2 (k := 69) (by decide) 3).trans t3)
      generalize ab_ups σ2 69 4 (pr_ix A e 58 (A 49 12) (tn e 0)) = σ3 at E3 M3 f4 f3 ⊢
      refine ⟨rfl, E3.st.1, fun σ4 N4 S4 => fs_evRead_62 hG ?_⟩
      have E4 := E3.st.2 σ4 N4 S4
      have M4 : ab_okM er_M σ0 σ4 := ev_tr M3 (ev_up N4 (by decide))
      refine E4.sign (fun y σ' a b c => ?_) (fun y σ5 N5 E5 => ?_)
      · have er : ev_r A e = (1, ev_st e (tn e (tn e 0)), 0) := by
          have eh : ev_h A e = (1, ev_st e (tn e (tn e 0))) := by
            unfold ev_h
            rw [if_neg (fun y => y hw), if_neg (fun z => z q), if_pos y]
          rw [ev_r1 (by rw [eh]; show ¬ (1 : Int) = 0; decide), eh]
        rw [er] at hf
        exact fs_evRead_68 hG (out0 σ' 0 (hf (show (1 : Int) ≠ 0 by decide) σ' (ev_tr M4 (ev_up a (by decide))) b c))
      · have eh : ev_h A e = (0, 0) := by
          unfold ev_h
          rw [if_neg (fun y => y hw), if_neg (fun z => z q), if_neg (fun z => z y)]
        have er : ev_r A e = ev_a A e 400 0 := ev_r2 (by rw [eh])
        have q0 := ev_q0 (A := A) (e := e) (by rw [eh])
        have R4 : ∀ {τ τ' : ab_SG}, ab_okM st_M τ τ' → ∀ k : Nat, k ≠ 1 → ∀ j : Nat, τ' k j = τ k j := fun M k hk j => M k j (fun q hq w => by
          have : ∀ q ∈ st_M, q.1 = 1 := by decide
          exact hk (w.1.symm.trans (this q hq)))
        have M5 : ab_okM er_M σ0 σ5 := ev_tr M4 (ev_up N5 (by decide))
        have g4 : σ5 69 4 = ev_c A e := (R4 N5 69 (by decide) 4).trans ((R4 N4 69 (by decide) 4).trans f4)
        have g3 : σ5 69 3 = 0 := (R4 N5 69 (by decide) 3).trans ((R4 N4 69 (by decide) 3).trans f3)
        have loop : ∀ (f i : Nat) (τ : ab_SG), i + f = 400 → i ≤ 128 → ab_okM er_M σ0 τ → eD τ e (ev_q e i) → 4 * i + 4 ≤ ev_q e i → τ 69 4 = ev_c A e → eL τ A e i → ev_r A e = ev_a A e f i → G 72 [some (2, 69, 0), some (2, 1, 0), some (2, 3, 0), some (0, 0, 1), some (0, 0, (i : Int))] [] τ := by
          intro f
          induction f with
          | zero =>
            intro i τ hi hi9 M E hq _ _ _
            omega
          | succ f ih =>
            intro i τ hi hi9 M E hq h4 hL hr
            have ci : fw_c (i : Int) = (i : Int) := fw_s (by omega) (by omega)
            refine fs_evRead_72 hG ⟨fun z => absurd z (by rw [c400, ci]; omega), fun _ => ⟨fun z => absurd (fw_c1.symm.trans z) (by decide), fun _ => ?_⟩⟩
            rw [E.kind.2]
            refine ⟨fun z => ⟨fw_11, ?_⟩, fun z => ?_⟩
            · rw [ev_a0 z] at hr
              rw [hr] at hg
              exact hg rfl τ M E.2.2.2.2 hL hi9 h4
            · have no : ∀ (f1 pl : Int) (σ' : ab_SG) (a4 : Int), ev_g A e (ev_q e i) = (f1, pl) → f1 ≠ 0 → ab_okM er_M σ0 σ' → σ' 1 9 = f1 → σ' 1 10 = pl → G 113 [some (2, 69, 0), some (2, 1, 0), some (2, 3, 0), some (0, 0, a4), some (0, 0, (i : Int))] [] σ' := by
                intro f1 pl σ' a4 eg n1 M' b c
                have er2 : ev_r A e = (f1, pl, i) := by rw [hr, ev_a1 z (by rw [eg]; exact n1), eg]
                rw [er2] at hf
                exact fs_evRead_113 hG (fs_evRead_114 hG (out0 σ' _ (hf n1 σ' M' b c)))
              refine ⟨A, e, ev_q e i, i, rfl, NCt τ M, E, hL.1, fun y => by have := ev_lt e4 (pr_sk_0 y).1; omega, fun y σ' a b c => ?_, fun y hw6 ynm σ' a b c => ?_, fun y yd σ' M6 E6 l3 lo l70 l71 => ?_⟩
              · exact fs_evRead_97 hG ⟨fun _ => no _ _ σ' _ (by unfold ev_g; rw [if_pos y]) y (ev_tr M (ev_up a (by decide))) b c, fun z => absurd fw_c0 z⟩
              · exact fs_evRead_97 hG ⟨fun _ => no _ _ σ' _ (by unfold ev_g; rw [if_neg (fun w => w y), if_pos ⟨hw6, ynm⟩]) ynm (ev_tr M (ev_up a (by decide))) b c, fun z => absurd fw_c0 z⟩
              · have M7 : ab_okM er_M σ0 σ' := ev_tr M (ev_up M6 (by decide))
                refine fs_evRead_97 hG ⟨fun z => absurd (fw_c1.symm.trans z) (by decide), fun _ => E6.sign (fun y2 σ7 a b c => ?_) (fun y2 σ7 N7 E7 => ?_)⟩
                · exact fs_evRead_106 hG ⟨fun _ => no _ _ σ7 _ (by unfold ev_g; rw [if_neg (fun w => w y), if_neg (fun w => yd.elim (fun u => w.1 u) (fun u => w.2 u)), if_pos y2]) (by decide) (ev_tr M7 (ev_up a (by decide))) b c, fun z => absurd fw_c0 z⟩
                · refine fs_evRead_106 hG ⟨fun z => absurd (fw_c1.symm.trans z) (by decide), fun _ => fs_evRead_114 hG ?_⟩
                  have eg : (ev_g A e (ev_q e i)).1 = 0 := by
                    unfold ev_g
                    rw [if_neg (fun w => w y), if_neg (fun w => yd.elim (fun u => w.1 u) (fun u => w.2 u)), if_neg (fun w => w y2)]
                  have q4 := ev_q4 (A := A) E.2.2.1 eg
                  have lt := ev_lt e4 (pr_sk_0 y).1
                  have g := ih (i + 1) σ7 (by omega) (by omega) (ev_tr M7 (ev_up N7 (by decide))) E7 (by rw [ev_qs]; omega) ((R4 N7 69 (by decide) 4).trans ((mk_at M6 (k := 69) (j := 4) (by decide)).trans h4)) ⟨(R4 N7 69 (by decide) 3).trans l3, fun j hj => by
                    by_cases c : j = i
                    · rw [c, R4 N7 70 (by decide) i, R4 N7 71 (by decide) i]
                      exact ⟨l70, l71⟩
                    · rw [R4 N7 70 (by decide) j, R4 N7 71 (by decide) j, (lo j c).1, (lo j c).2]
                      exact hL.2 j (by omega)⟩ (hr.trans (ev_a2 z eg))
                  rw [show ((i + 1 : Nat) : Int) = (i : Int) + 1 from rfl] at g
                  exact g
        exact fs_evRead_68 hG (loop 400 0 σ5 rfl (by decide) M5 E5 (by omega) g4 ⟨g3, fun j hj => absurd hj (Nat.not_lt_zero j)⟩ er)
  · rw [fw_bo_f (fun z => hw ((E1.isw (by decide)).mp z))]
    refine fs_evRead_19 hG ⟨fun z => absurd fw_c0 z, fun _ => ⟨1, rfl, ?_⟩⟩
    have er : ev_r A e = (1, ev_st e 0, 0) := by
      have eh : ev_h A e = (1, ev_st e 0) := by
        unfold ev_h
        rw [if_pos hw]
      rw [ev_r1 (by rw [eh]; show ¬ (1 : Int) = 0; decide), eh]
    rw [er] at hf
    exact E1.rf (x := 1) (v := 0) (K := fun rv σ2 => G 27 [some (2, 69, 0), some (2, 1, 0), some (2, 3, 0), none, none] (rv.toList ++ []) σ2) (by decide) (fun σ' a b c => fs_evRead_27 hG ⟨fw_01, hf (show (1 : Int) ≠ 0 by decide) σ' (ev_tr M1 (ev_up a (by decide))) b c⟩))
theorem fm_whyWrong (hinj : nn_inj ad) : fw_H l cy ad wr cr D 156 0 sp_whyWrong := fw_mk hinj (⟨"NameNotes$Evening", "whyWrong", "(III)I"⟩, prog_4_method_5_code, 6, (Option.some Jvm.ClassFile.FieldType.int), 3, true, 0) rfl rfl nn_KI4_ok nn_KJ4_ok nn_PF4_ok nn_PS4_ok (by decide +kernel) rfl rfl (fun _ h => absurd h List.not_mem_nil) (fun as σ K h => by
  obtain ⟨A, s, p, n, rfl, ⟨e1, e2, e3, e4⟩, hB, hp, hn, hf, h⟩ := h
  obtain ⟨why, wr, b, d, m, t⟩ := s
  obtain ⟨-, -, b3, b4, b5, b6, -⟩ := hB
  replace e1 : σ 72 1 = b := e1
  replace e2 : σ 72 2 = d := e2
  replace e3 : σ 72 3 = m := e3
  replace e4 : σ 72 4 = t := e4
  replace b3 : 0 ≤ b ∧ b ≤ 9 := b3
  replace b4 : -1 ≤ d ∧ d ≤ 4 := b4
  replace b5 : -1 ≤ m ∧ m ≤ 4 := b5
  replace b6 : -1 ≤ t ∧ t ≤ 4 := b6
  have ew : jg_w A (why, wr, b, d, m, t) p n = if m ≠ -1 then 1 else if (t ≠ -1 ∧ p ≠ t) ∨ (t = -1 ∧ p = d) then 2 else if n = 0 then (if b = 0 then 4 else 0) else if (if b = 0 then A 49 14 else b - 1) < n then 3 else 0 := rfl
  rw [ew] at h
  have c2 : fw_c 2 = 2 := fw_s (by decide) (by decide)
  have c3 : fw_c 3 = 3 := fw_s (by decide) (by decide)
  have c4 : fw_c 4 = 4 := fw_s (by decide) (by decide)
  have m1 : fw_c (-1) = -1 := fw_s (by decide) (by decide)
  have t1 : (fw_c 1).toNat = 1 := by rw [fw_c1]; rfl
  have t2 : (fw_c 2).toNat = 2 := by rw [c2]; rfl
  have t3 : (fw_c 3).toNat = 3 := by rw [c3]; rfl
  have t4 : (fw_c 4).toNat = 4 := by rw [c4]; rfl
  have cp : fw_c p = p := fw_s (by omega) (by omega)
  have cn : fw_c n = n := fw_s (by omega) (by omega)
  have cb : fw_c b = b := fw_s (by omega) (by omega)
  have cd : fw_c d = d := fw_s (by omega) (by omega)
  have cm : fw_c m = m := fw_s (by omega) (by omega)
  have ct : fw_c t = t := fw_s (by omega) (by omega)
  have cf : fw_c (A 49 14) = A 49 14 := fw_s (by omega) (by omega)
  refine ⟨rfl, fun G hG => ?_⟩
  have a1 : m = -1 → (t ≠ -1 ∧ p ≠ t) ∨ (t = -1 ∧ p = d) → G 55 [some (2, 69, 0), some (0, 0, p), some (0, 0, n), some (0, 0, A 49 14), none, none] [(0, 0, 1)] σ := fun z y => fs_whyWrong_55 hG ⟨fun u => absurd (fw_c1.symm.trans u) (by decide), fun _ => by
    rw [if_neg (fun w => w z), if_pos y] at h
    exact h⟩
  have a0 : m = -1 → ¬ ((t ≠ -1 ∧ p ≠ t) ∨ (t = -1 ∧ p = d)) → G 55 [some (2, 69, 0), some (0, 0, p), some (0, 0, n), some (0, 0, A 49 14), none, none] [(0, 0, 0)] σ := fun z y => by
    rw [if_neg (fun w => w z), if_neg y] at h
    refine fs_whyWrong_55 hG ⟨fun _ => ?_, fun u => absurd fw_c0 u⟩
    rw [t1, e1, cb, cn, cf, fw_c1]
    have k0 : (if n = 0 then (if b = 0 then 4 else 0) else if (if b = 0 then A 49 14 else b - 1) < n then (3 : Int) else 0) = 0 → G 120 [some (2, 69, 0), some (0, 0, p), some (0, 0, n), some (0, 0, A 49 14), some (0, 0, 0), none] [(0, 0, 0)] σ := fun v => fs_whyWrong_120 hG ⟨fun _ => by rw [v] at h; exact h, fun u => absurd fw_c0 u⟩
    have k1 : (if n = 0 then (if b = 0 then 4 else 0) else if (if b = 0 then A 49 14 else b - 1) < n then (3 : Int) else 0) = 3 → G 120 [some (2, 69, 0), some (0, 0, p), some (0, 0, n), some (0, 0, A 49 14), some (0, 0, 0), none] [(0, 0, 1)] σ := fun v => fs_whyWrong_120 hG ⟨fun u => absurd (fw_c1.symm.trans u) (by decide), fun _ => by rw [v] at h; exact h⟩
    refine ⟨fun z1 => ⟨by decide, fun z2 => ⟨by decide, fun z3 => k0 ?_, fun z3 => k1 ?_⟩, fun z2 => ⟨fun z3 => k0 ?_, fun z3 => k1 ?_⟩⟩, fun z1 => ⟨by decide, fun z2 => ?_, fun z2 => ?_⟩⟩
    · rw [if_neg z1, if_neg z2, if_neg (by omega)]
    · rw [if_neg z1, if_neg z2, if_pos (by omega)]
    · rw [if_neg z1, if_pos z2, if_neg (by omega)]
    · rw [if_neg z1, if_pos z2, if_pos (by omega)]
    · rw [if_pos z1, if_neg z2] at h
      exact h
    · rw [if_pos z1, if_pos z2] at h
      exact h
  refine fs_whyWrong_0 hG ?_
  rw [t3, t4, t2, c3, c4, c2, m1, e3, e4, e2, cm, ct, cd, cp]
  refine ⟨by decide, fun z1 => ⟨by decide, fun z2 => ⟨by decide, fun z3 => a0 z1 ?_, fun z3 => a1 z1 (Or.inl ⟨z2, z3⟩)⟩, fun z2 => ⟨by decide, fun z3 => a0 z1 ?_, fun z3 => a1 z1 (Or.inr ⟨z2, z3⟩)⟩⟩, fun z1 => ?_⟩
  · omega
  · omega
  · rw [if_pos z1] at h
    exact h)
theorem fm_judge (hinj : nn_inj ad) : fw_H l cy ad wr cr D 155 1 sp_judge := fw_mk hinj (⟨"NameNotes$Evening", "judge", "(LNameNotes$Studio;)I"⟩, prog_4_method_4_code, 6, (Option.some Jvm.ClassFile.FieldType.int), 1, true, 0) rfl rfl nn_KI4_ok nn_KJ4_ok nn_PF4_ok nn_PS4_ok (by decide +kernel) rfl rfl (List.forall_mem_cons.mpr ⟨fw_row nn_PM4_ok (x := 105) (k := 2) (mn := 29) (np := 2) (ob := false) (ci := 0) (⟨"NameNotes", "at", "([II)I"⟩, prog_1_method_84_code, 2, (Option.some Jvm.ClassFile.FieldType.int), 2, false, 0) rfl (by decide +kernel) rfl rfl (by decide) (fun q => by cases q) (fm_atv hinj), (List.forall_mem_cons.mpr ⟨fw_row nn_PM4_ok (x := 112) (k := 0) (mn := 156) (np := 3) (ob := true) (ci := 2) (⟨"NameNotes$Evening", "whyWrong", "(III)I"⟩, prog_4_method_5_code, 6, (Option.some Jvm.ClassFile.FieldType.int), 3, true, 0) rfl (by decide +kernel) rfl rfl (by decide) (fun _ => ⟨_, _, rfl⟩) (fm_whyWrong hinj), (fun _ h => absurd h List.not_mem_nil)⟩)⟩) (fun as σ0 K h => by
  obtain ⟨A, e, n, rfl, hN0, hL0, hn, hg, h⟩ := h
  have c2 : fw_c 2 = 2 := fw_s (by decide) (by decide)
  have c3 : fw_c 3 = 3 := fw_s (by decide) (by decide)
  have c4 : fw_c 4 = 4 := fw_s (by decide) (by decide)
  have m1 : fw_c (-1) = -1 := fw_s (by decide) (by decide)
  have t0 : (fw_c 0).toNat = 0 := by rw [fw_c0]; rfl
  have t1 : (fw_c 1).toNat = 1 := by rw [fw_c1]; rfl
  have t2 : (fw_c 2).toNat = 2 := by rw [c2]; rfl
  have t3 : (fw_c 3).toNat = 3 := by rw [c3]; rfl
  have t4 : (fw_c 4).toNat = 4 := by rw [c4]; rfl
  have T1 : ∀ {σ : ab_SG} {k j a b : Nat} {v : Int}, (a ≠ k ∨ b ≠ j) → (ab_ups σ k j v) a b = σ a b := fun hh => ab_ups_ne (fun z => hh.elim (fun y => y z.1) (fun y => y z.2))
  refine ⟨rfl, fun G hG => fs_judge_0 hG ?_⟩
  rw [t0, t1, t2, t3, t4, c2, c3, c4, m1, fw_c0, fw_c1]
  have M1 : ab_okM jd_M σ0 (ab_ups (ab_ups (ab_ups (ab_ups (ab_ups (ab_ups (ab_ups (ab_ups σ0 69 7 1) 69 5 (fw_c (σ0 69 4))) 69 6 (fw_c (σ0 3 15))) 72 0 0) 72 1 0) 72 2 (-1)) 72 3 (-1)) 72 4 (-1)) := fw_okM_upa (fw_okM_upa (fw_okM_upa (fw_okM_upa (fw_okM_upa (fw_okM_ups (fw_okM_ups (fw_okM_ups (fw_okM_refl _ _) (by decide)) (by decide)) (by decide)) (by decide)) (by decide)) (by decide)) (by decide)) (by decide)
  have J1 : jc_is (ab_ups (ab_ups (ab_ups (ab_ups (ab_ups (ab_ups (ab_ups (ab_ups σ0 69 7 1) 69 5 (fw_c (σ0 69 4))) 69 6 (fw_c (σ0 3 15))) 72 0 0) 72 1 0) 72 2 (-1)) 72 3 (-1)) 72 4 (-1)) (jg_n A e 0) := by
    refine ⟨?_, ?_, ?_, ?_, ?_⟩
    · rw [T1 (by decide), T1 (by decide), T1 (by decide), T1 (by decide), ab_ups_eq]
      rfl
    · rw [T1 (by decide), T1 (by decide), T1 (by decide), ab_ups_eq]
      rfl
    · rw [T1 (by decide), T1 (by decide), ab_ups_eq]
      rfl
    · rw [T1 (by decide), ab_ups_eq]
      rfl
    · rw [ab_ups_eq]
      rfl
  have f7 : (ab_ups (ab_ups (ab_ups (ab_ups (ab_ups (ab_ups (ab_ups (ab_ups σ0 69 7 1) 69 5 (fw_c (σ0 69 4))) 69 6 (fw_c (σ0 3 15))) 72 0 0) 72 1 0) 72 2 (-1)) 72 3 (-1)) 72 4 (-1)) 69 7 = 1 := by
    rw [T1 (by decide), T1 (by decide), T1 (by decide), T1 (by decide), T1 (by decide), T1 (by decide), T1 (by decide), ab_ups_eq]
  have f5 : (ab_ups (ab_ups (ab_ups (ab_ups (ab_ups (ab_ups (ab_ups (ab_ups σ0 69 7 1) 69 5 (fw_c (σ0 69 4))) 69 6 (fw_c (σ0 3 15))) 72 0 0) 72 1 0) 72 2 (-1)) 72 3 (-1)) 72 4 (-1)) 69 5 = fw_c (σ0 69 4) := by
    rw [T1 (by decide), T1 (by decide), T1 (by decide), T1 (by decide), T1 (by decide), T1 (by decide), ab_ups_eq]
  have f6 : (ab_ups (ab_ups (ab_ups (ab_ups (ab_ups (ab_ups (ab_ups (ab_ups σ0 69 7 1) 69 5 (fw_c (σ0 69 4))) 69 6 (fw_c (σ0 3 15))) 72 0 0) 72 1 0) 72 2 (-1)) 72 3 (-1)) 72 4 (-1)) 69 6 = fw_c (σ0 3 15) := by
    rw [T1 (by decide), T1 (by decide), T1 (by decide), T1 (by decide), T1 (by decide), ab_ups_eq]
  generalize ab_ups (ab_ups (ab_ups (ab_ups (ab_ups (ab_ups (ab_ups (ab_ups σ0 69 7 1) 69 5 (fw_c (σ0 69 4))) 69 6 (fw_c (σ0 3 15))) 72 0 0) 72 1 0) 72 2 (-1)) 72 3 (-1)) 72 4 (-1) = σ at M1 J1 f7 f5 f6 ⊢
  have NCt : ∀ τ : ab_SG, ab_okM jd_M σ0 τ → NC τ A := fun τ M => ev_NC M (by decide +kernel) hN0
  have Lt : ∀ τ : ab_SG, ab_okM jd_M σ0 τ → eL τ A e n := fun τ M => ⟨(mk_at M (by decide)).trans hL0.1, fun j hj => by
    rw [mk_row M (k := 70) (by decide) j, mk_row M (k := 71) (by decide) j]
    exact hL0.2 j hj⟩
  have nB := fun i (hi : i ≤ n) => jg_nB hN0.1 (e := e) i (by omega) (fun j hj => hg j (by omega))
  have f14 := hN0.2.1.2.2.2.2
  have loop : ∀ (f i : Nat) (τ : ab_SG) (o4 o5 : Option ab_AV), i + f = n → ab_okM [(72, 1000000)] σ τ → jc_is τ (jg_n A e i) → (jg_n A e i).1 = 0 → G 60 [some (2, 69, 0), some (2, 3, 0), some (0, 0, (jg_n A e i).2.2.2.1), some (0, 0, (i : Int)), o4, o5] [] τ := by
    intro f
    induction f with
    | zero =>
      intro i τ o4 o5 hi M J hw
      have ei : i = n := by omega
      subst ei
      have M9 : ab_okM jd_M σ0 τ := ev_tr M1 (ev_up M (by decide))
      refine fs_judge_60 hG ⟨fun _ => ?_, fun z => absurd z (by rw [(Lt τ M9).1]; exact Int.lt_irrefl _)⟩
      have k := h τ M9 J ((mk_at M (by decide)).trans f5) ((mk_at M (by decide)).trans f6) ((mk_at M (by decide)).trans f7)
      rw [(nB i (Nat.le_refl i)).2.2.2.2.2.2 hw] at k
      exact k
    | succ f ih =>
      intro i τ o4 o5 hi M J hw
      have M9 : ab_okM jd_M σ0 τ := ev_tr M1 (ev_up M (by decide))
      have L9 := Lt τ M9
      have ci : fw_c (i : Int) = (i : Int) := fw_s (by omega) (by omega)
      have cn : fw_c (n : Int) = (n : Int) := fw_s (by omega) (by omega)
      have bi := ev_b hN0.1 (hg i (by omega))
      have B := nB i (by omega)
      have li := L9.2 i (by omega)
      refine fs_judge_60 hG ⟨fun z => absurd z (by rw [L9.1, ci, cn]; omega), fun _ => ⟨(70, 128), by decide, _, rfl, fun _ => ?_, fun z => absurd (by rw [ci]; exact ⟨by omega, by show (i : Int) < (128 : Int); omega⟩) z⟩⟩
      rw [ci, Int.toNat_natCast, li.1]
      refine fs_judge_76 hG ⟨(71, 128), by decide, _, rfl, fun _ => ?_, fun z => absurd (by rw [ci]; exact ⟨by omega, by show (i : Int) < (128 : Int); omega⟩) z⟩
      rw [ci, Int.toNat_natCast, li.2]
      refine fs_judge_86 hG ?_
      rw [show τ 3 14 = A 49 14 from (NCt τ M9).2.2.2.2.2.1]
      refine ⟨A, jg_n A e i, _, _, rfl, ⟨J.2.1, J.2.2.1, J.2.2.2.1, J.2.2.2.2⟩, B, bi.1, bi.2, f14, fs_judge_105 hG ?_⟩
      have wb := jg_w_b A (jg_n A e i) (ev_p A e (ev_q e i)) (ev_w e (ev_q e i))
      have en := jg_ns A e i
      generalize hw9 : jg_w A (jg_n A e i) (ev_p A e (ev_q e i)) (ev_w e (ev_q e i)) = w at wb
      have cw : fw_c w = w := fw_s (by omega) (by omega)
      have cpp : fw_c (ev_p A e (ev_q e i)) = ev_p A e (ev_q e i) := fw_s (by omega) (by omega)
      have cww : fw_c (ev_w e (ev_q e i)) = ev_w e (ev_q e i) := fw_s (by omega) (by omega)
      have cbd : fw_c (jg_n A e i).2.2.2.1 = (jg_n A e i).2.2.2.1 := by
        have := B.2.2.2.1
        exact fw_s (by omega) (by omega)
      rw [t0, t1, t2, t3, t4, c2, c3, c4, m1, fw_c0, fw_c1, cw, ab_ups_eq, cw, cpp, cww, cbd]
      unfold jg_1 at en
      rw [if_neg (fun z => z hw), hw9] at en
      refine ⟨by decide, trivial, by decide, fun z => ⟨fun z2 => ⟨by decide, trivial, by decide, trivial, by decide, trivial, fs_judge_168 hG ?_⟩, fun z2 => ⟨by decide, trivial, by decide, trivial, fs_judge_168 hG ?_⟩⟩, fun z => ?_⟩
      · rw [if_neg (fun y => y z), if_neg z2] at en
        have g := ih (i + 1) (ab_ups (ab_ups (ab_ups (ab_ups τ 72 0 w) 72 1 (ev_w e (ev_q e i))) 72 2 (ev_p A e (ev_q e i))) 72 4 (jg_n A e i).2.2.2.1) (some (0, 0, ev_p A e (ev_q e i))) (some (0, 0, ev_w e (ev_q e i))) (by omega) (fw_okM_upa (fw_okM_upa (fw_okM_upa (fw_okM_upa M (by decide)) (by decide)) (by decide)) (by decide)) (by
          rw [en]
          refine ⟨?_, ?_, ?_, ?_, ?_⟩
          · rw [T1 (by decide), T1 (by decide), T1 (by decide), ab_ups_eq]
            exact z
          · rw [T1 (by decide), T1 (by decide), ab_ups_eq]
          · rw [T1 (by decide), ab_ups_eq]
          · rw [T1 (by decide), T1 (by decide), T1 (by decide), T1 (by decide)]
            exact J.2.2.2.1
          · rw [ab_ups_eq]) (by rw [en])
        rw [en] at g
        exact g
      · rw [if_neg (fun y => y z), if_pos z2] at en
        have g := ih (i + 1) (ab_ups (ab_ups (ab_ups τ 72 0 w) 72 3 (ev_p A e (ev_q e i))) 72 4 (-1)) (some (0, 0, ev_p A e (ev_q e i))) (some (0, 0, ev_w e (ev_q e i))) (by omega) (fw_okM_upa (fw_okM_upa (fw_okM_upa M (by decide)) (by decide)) (by decide)) (by
          rw [en]
          refine ⟨?_, ?_, ?_, ?_, ?_⟩
          · rw [T1 (by decide), T1 (by decide), ab_ups_eq]
            exact z
          · rw [T1 (by decide), T1 (by decide), T1 (by decide)]
            exact J.2.1
          · rw [T1 (by decide), T1 (by decide), T1 (by decide)]
            exact J.2.2.1
          · rw [T1 (by decide), ab_ups_eq]
          · rw [ab_ups_eq]) (by rw [en])
        rw [en] at g
        exact g
      · rw [if_pos z] at en
        have st := jg_stay (A := A) (e := e) (i := i + 1) (by rw [en]; exact z) (n - (i + 1))
        rw [show i + 1 + (n - (i + 1)) = n by omega] at st
        have k := h (ab_ups τ 72 0 w) (fw_okM_upa M9 (by decide)) (by
          rw [st, en]
          refine ⟨ab_ups_eq, ?_, ?_, ?_, ?_⟩
          · exact (T1 (by decide)).trans J.2.1
          · exact (T1 (by decide)).trans J.2.2.1
          · exact (T1 (by decide)).trans J.2.2.2.1
          · exact (T1 (by decide)).trans J.2.2.2.2) ((T1 (by decide)).trans ((mk_at M (by decide)).trans f5)) ((T1 (by decide)).trans ((mk_at M (by decide)).trans f6)) ((T1 (by decide)).trans ((mk_at M (by decide)).trans f7))
        rw [st, en] at k
        exact k
  refine ⟨by decide, by decide, trivial, by decide, trivial, by decide, trivial, by decide, trivial, by decide, trivial, ?_⟩
  exact loop n 0 σ none none (Nat.zero_add n) (fw_okM_refl _ _) J1 rfl)
theorem fm_evening (hinj : nn_inj ad) : fw_H l cy ad wr cr D 152 6 sp_evening := fw_mk hinj (⟨"NameNotes", "evening", "()I"⟩, prog_1_method_47_code, 2, (Option.some Jvm.ClassFile.FieldType.int), 0, true, 0) rfl rfl nn_KI1_ok nn_KJ1_ok nn_PF1_ok nn_PS1_ok (by decide +kernel) rfl rfl (List.forall_mem_cons.mpr ⟨fw_row nn_PM1_ok (x := 377) (k := 0) (mn := 153) (np := 2) (ob := true) (ci := 2) (⟨"NameNotes$Evening", "read", "(LNameNotes$Tape;LNameNotes$Studio;)Z"⟩, prog_4_method_2_code, 5, (Option.some Jvm.ClassFile.FieldType.boolean), 2, true, 1) rfl (by decide +kernel) rfl rfl (by decide) (fun _ => ⟨_, _, rfl⟩) (fm_evRead hinj), (List.forall_mem_cons.mpr ⟨fw_row nn_PM1_ok (x := 380) (k := 0) (mn := 155) (np := 1) (ob := true) (ci := 2) (⟨"NameNotes$Evening", "judge", "(LNameNotes$Studio;)I"⟩, prog_4_method_4_code, 6, (Option.some Jvm.ClassFile.FieldType.int), 1, true, 0) rfl (by decide +kernel) rfl rfl (by decide) (fun _ => ⟨_, _, rfl⟩) (fm_judge hinj), (fun _ h => absurd h List.not_mem_nil)⟩)⟩) (fun as σ K h => by
  obtain ⟨A, rfl, hb, hN, hf, hg⟩ := h
  refine ⟨rfl, fun G hG => fs_evening_0 hG ⟨A, rfl, hb, hN, fun q σ1 M1 b c => fs_evening_15 hG ⟨fun _ => ?_, fun z => absurd fw_c0 z⟩, fun q σ1 M1 b hL hn h4 => fs_evening_15 hG ⟨fun z => absurd (fw_c1.symm.trans z) (by decide), fun _ => ?_⟩⟩⟩
  · have k := hf q (ab_ups σ1 1 1 (fw_c 0)) (fw_okM_ups (ev_up M1 (by decide)) (by decide)) (by rw [ab_ups_eq, fw_c0]) ((ab_ups_ne (by decide)).trans b)
    unfold v_ev at k
    rw [if_pos q] at k
    rw [c]
    exact k
  · have k0 := ev_rok q
    have M2 : ab_okM ef_M σ (ab_ups σ1 1 1 (fw_c 0)) := fw_okM_ups (ev_up M1 (by decide)) (by decide)
    have g1 : (ab_ups σ1 1 1 (fw_c 0)) 1 1 = 0 := by rw [ab_ups_eq, fw_c0]
    have g9 : (ab_ups σ1 1 1 (fw_c 0)) 1 9 = 0 := (ab_ups_ne (by decide)).trans b
    have g4 : (ab_ups σ1 1 1 (fw_c 0)) 69 4 = ev_c A (tp_t σ, (σ 1 1).toNat, 400) := (ab_ups_ne (by decide)).trans h4
    have gL : eL (ab_ups σ1 1 1 (fw_c 0)) A (tp_t σ, (σ 1 1).toNat, 400) (ev_r A (tp_t σ, (σ 1 1).toNat, 400)).2.2 := ⟨(ab_ups_ne (by decide)).trans hL.1, fun j hj => by
      rw [ab_ups_ne (fun z => absurd z.1 (by decide)), ab_ups_ne (fun z => absurd z.1 (by decide))]
      exact hL.2 j hj⟩
    generalize ab_ups σ1 1 1 (fw_c 0) = σ2 at M2 g1 g9 g4 gL ⊢
    have ck : fw_c (ev_c A (tp_t σ, (σ 1 1).toNat, 400)) = ev_c A (tp_t σ, (σ 1 1).toNat, 400) := by
      have k := pr_sk_0 (ev_h0 k0.1).2.1
      have n12 := hN.1.2.1
      show fw_c (pr_ix A _ 58 (A 49 12) _) = pr_ix A _ 58 (A 49 12) _
      exact fw_s (by omega) (by omega)
    refine ⟨A, _, _, rfl, ev_NC M2 (by decide +kernel) hN, gL, hn, k0.2, fun σ3 M3 J a5 a6 a7 => fs_evening_39 hG ?_⟩
    have k := hg q σ3 (ev_tr (ev_up M2 (by decide)) (ev_up M3 (by decide))) ((mk_row M3 (k := 1) (by decide) 1).trans g1) ((mk_row M3 (k := 1) (by decide) 9).trans g9) J (by rw [a5, g4, ck]) (by rw [a6, mk_row M2 (k := 3) (by decide) 15]) a7
    unfold v_ev at k
    rw [if_neg (fun z => z q)] at k
    exact k)
end
end
section
/-! an evening: the reference reads and judges it -/
def mp_M : ab_ML := (93, 10) :: (93, 11) :: (93, 13) :: go_M
def mp_no (σ : ab_SG) (f pl : Int) (K : fw_KR) : Prop := ∀ σ' : ab_SG, ab_okM mp_M σ σ' → σ' 93 10 = f → σ' 93 11 = pl → K (some (0, 0, 0)) σ'
theorem mp_bad {σ : ab_SG} {e : tk_E} {p : Nat} (hm : mg_is σ (tk e p)) {x : Int} {K : fw_KR} (hx : 1 ≤ x ∧ x ≤ 4) (k : ∀ σ' : ab_SG, ab_okM [(93, 10), (93, 11)] σ σ' → σ' 93 10 = (if σ 93 7 = 1 then 1 else x) → σ' 93 11 = ev_st e p → K (some (0, 0, 0)) σ') : sp_m_bad [(2, 93, 0), (0, 0, x)] σ K :=
  ⟨x, rfl, hx, (mg_kind hm).2.2.2.2, fun σ' M a b => k σ' M a (by rw [b, hm.1]; rfl)⟩
theorem ev_NM {M : ab_ML} {σ σ' A : ab_SG} (h : ab_okM M σ σ') (m : (M.all (fun q => !(q.1.beq 95)) && M.all (fun q => !(q.1.beq 99)) && mk_b M 93 22) = true) (hN : NM σ A) : NM σ' A := by
  rw [Bool.and_eq_true, Bool.and_eq_true] at m
  refine ⟨hN.1, hN.2.1, ?_⟩
  have e : mlN σ' = mlN σ := by
    funext j
    unfold mlN
    rw [mk_at h m.2, mk_row h m.1.1 j]
  rw [e, show σ' 99 = σ 99 from funext (mk_row h m.1.2)]
  exact hN.2.2
theorem NM_ly {σ σ' A : ab_SG} (M : ab_okM bg_M σ σ') (h : ly_is σ σ') (hN : NM σ A) : NM σ' A ∧ σ' 95 3 = A 49 14 := by
  have s : NM σ' A := ⟨hN.1, hN.2.1, sr_cong hN.1 (fun j hj _ => mlN_ly h (fun j hj h3 => M 95 j (fun q hq w => by
    have g : ∀ q ∈ bg_M, q.1 = 95 → q.2 = 3 := by decide
    have g2 := g q hq w.1
    rcases w.2 with y | y <;> omega)) j hj) (fun j _ => mk_row M (k := 99) (by decide) j) hN.2.2⟩
  refine ⟨s, ?_⟩
  have n3 : mlN σ' 3 = A 49 14 := s.2.2.2.2.2.1
  unfold mlN at n3
  rw [if_neg (fun z => by rw [h.1] at z; exact absurd z.1 (by decide))] at n3
  exact n3
/-- names of the studio, in the reference's row -/
def rm_k (σ A : ab_SG) (b k : Nat) (n : Int) : Prop := ∀ j : Nat, (j : Int) < n → rf_ok 7 (A k j) ∧ σ 99 (b + j) = rf_w 7 (A k j)
theorem rm_12 {σ A : ab_SG} (h : NM σ A) : rm_k σ A 9 58 (A 49 12) := h.2.2.2.2.2.2.2.2.2.2.2.1
theorem rm_13 {σ A : ab_SG} (h : NM σ A) : rm_k σ A 15 59 (A 49 13) := h.2.2.2.2.2.2.2.2.2.2.2.2
def sp_m_findIn99 : fw_SP := fun as σ K => ∃ (b n : Nat) (w : Int), as = [(2, 99, 0), (0, 0, (b : Int)), (0, 0, (n : Int)), (1, 0, w)] ∧ b + n ≤ 20 ∧ fw_d w = w ∧ (∀ j : Nat, j < n → fw_d (σ 99 (b + j)) = σ 99 (b + j)) ∧ K (some (0, 0, rw_fd (fun j => σ 99 (b + j)) w n 0)) σ
theorem mf_find {σ A : ab_SG} {e : tk_E} {p b k : Nat} {n : Int} {K : fw_KR} (hm : mt_is σ e p) (hq : (tk e p).1 = 2) (hn : 0 ≤ n ∧ n ≤ 9 ∧ b + n.toNat ≤ 20) (hr : rm_k σ A b k n) (h : K (some (0, 0, pr_ix A e k n p)) σ) : sp_m_findIn99 [(2, 99, 0), (0, 0, (b : Int)), (0, 0, n), (1, 0, σ 93 12)] σ K := by
  have en : ((n.toNat : Nat) : Int) = n := by omega
  obtain ⟨-, ok, e12⟩ := hm.1.2.2.2.2.1 hq
  have b1 := rf_w_in 7 (tk e p).2.2.2.1
  have hB := rf_B7
  have d1 : fw_d (σ 93 12) = σ 93 12 := by rw [e12]; exact fw_d_id (by omega) (by omega)
  refine ⟨b, n.toNat, _, by rw [en], hn.2.2, d1, fun j hj => ?_, ?_⟩
  · have b2 := rf_w_in 7 (A k j)
    rw [(hr j (by omega)).2]
    exact fw_d_id (by omega) (by omega)
  · have ef : rw_fd (fun j => σ 99 (b + j)) (σ 93 12) n.toNat 0 = pr_ix A e k n p := by
      rw [e12]
      exact rw_rf ok n.toNat 0 (fun j _ hj => hr j (by omega))
    rw [ef]
    exact h
def sp_m_isNumberP : fw_SP := fun as σ K => ∃ (a b : Int) (e : tk_E) (p : Nat), as = [(2, 93, 0), (0, 0, a), (0, 0, b)] ∧ (0 ≤ a ∧ a ≤ 99 ∧ 0 ≤ b ∧ b ≤ 99) ∧ mg_is σ (tk e p) ∧ (pr_nm e p a b ≠ 0 → mp_no σ (pr_nm e p a b) (ev_st e p) K) ∧
  (pr_nm e p a b = 0 → a ≤ (tk e p).2.2.2.2 → (tk e p).2.2.2.2 ≤ b → K (some (0, 0, 1)) (ab_ups σ 93 13 (tk e p).2.2.2.2))
def sp_m_readNumberP : fw_SP := fun as σ K => ∃ (a b : Int) (e : tk_E) (p : Nat), as = [(2, 93, 0), (0, 0, a), (0, 0, b)] ∧ (0 ≤ a ∧ a ≤ 99 ∧ 0 ≤ b ∧ b ≤ 99) ∧ mt_is σ e p ∧ (pr_nm e p a b ≠ 0 → mp_no σ (pr_nm e p a b) (ev_st e p) K) ∧
  (pr_nm e p a b = 0 → ∀ σ' : ab_SG, ab_okM ((93, 13) :: go_M) σ σ' → σ' 93 13 = (tk e p).2.2.2.2 → mt_is σ' e (tn e p) → K (some (0, 0, 1)) σ')
def sp_m_readEndP : fw_SP := fun as σ K => ∃ (e : tk_E) (p : Nat), as = [(2, 93, 0)] ∧ mt_is σ e p ∧ ((tk e p).1 ≠ 59 → mp_no σ 1 (ev_st e p) K) ∧ ((tk e p).1 = 59 → ∀ σ' : ab_SG, ab_okM go_M σ σ' → mt_is σ' e (tn e p) → K (some (0, 0, 1)) σ')
def jm_is (σ : ab_SG) (s : jg_T) : Prop := σ 93 44 = s.1 ∧ σ 93 45 = s.2.1 ∧ σ 93 46 = s.2.2.1 ∧ σ 93 47 = s.2.2.2.1 ∧ σ 93 48 = s.2.2.2.2.1 ∧ σ 93 49 = s.2.2.2.2.2
def sp_m_whyNot : fw_SP := fun as σ K => ∃ (A : ab_SG) (s : jg_T) (p n : Int), as = [(2, 93, 0), (0, 0, p), (0, 0, n)] ∧ jm_is σ s ∧ jg_B s ∧ (0 ≤ p ∧ p < 5) ∧ (0 ≤ n ∧ n ≤ 9) ∧ σ 95 3 = A 49 14 ∧ (1 ≤ A 49 14 ∧ A 49 14 ≤ 9) ∧ K (some (0, 0, jg_w A s p n)) σ
def jl_M : ab_ML := [(93, 44), (93, 45), (93, 46), (93, 47), (93, 48), (93, 49)]
def sp_m_judgeLine : fw_SP := fun as σ K => ∃ (A : ab_SG) (s : jg_T) (p n i : Int), as = [(2, 93, 0), (0, 0, p), (0, 0, n)] ∧ jm_is σ s ∧ s.1 = 0 ∧ jg_B s ∧ (0 ≤ p ∧ p < 5) ∧ (0 ≤ n ∧ n ≤ 9) ∧ σ 95 3 = A 49 14 ∧ (1 ≤ A 49 14 ∧ A 49 14 ≤ 9) ∧ (σ 93 43 = i ∧ 1 ≤ i ∧ i ≤ 400) ∧
  ∀ σ' : ab_SG, ab_okM jl_M σ σ' → jm_is σ' (jg_1 A s i p n) → K none σ'
def mb_M : ab_ML := (93, 43) :: (93, 44) :: (93, 45) :: (93, 46) :: (93, 47) :: (93, 48) :: (93, 49) :: mp_M
def sp_m_readBid : fw_SP := fun as σ K => ∃ (A : ab_SG) (e : tk_E) (p i : Nat) (s : jg_T), as = [(2, 93, 0)] ∧ NM σ A ∧ mt_is σ e p ∧ jm_is σ s ∧ jg_B s ∧ (σ 93 43 = (i : Int) + 1 ∧ i < 400) ∧ σ 95 3 = A 49 14 ∧
  ((ev_g A e p).1 ≠ 0 → ∀ σ' : ab_SG, ab_okM mb_M σ σ' → σ' 93 10 = (ev_g A e p).1 → σ' 93 11 = (ev_g A e p).2 → K (some (0, 0, 0)) σ') ∧
  ((ev_g A e p).1 = 0 → ∀ σ' : ab_SG, ab_okM mb_M σ σ' → mt_is σ' e (tn e (tn e (tn e p))) → jm_is σ' (jg_1 A s ((i : Int) + 1) (ev_p A e p) (ev_w e p)) → σ' 93 43 = ((i + 1 : Nat) : Int) + 1 → K (some (0, 0, 1)) σ')
def sp_m_readHeard : fw_SP := fun as σ K => ∃ (A : ab_SG) (e : tk_E), as = [(2, 93, 0)] ∧ NM σ A ∧ mt_is σ e 0 ∧
  ((ev_h A e).1 ≠ 0 → ∀ σ' : ab_SG, ab_okM ((93, 53) :: mp_M) σ σ' → σ' 93 10 = (ev_h A e).1 → σ' 93 11 = (ev_h A e).2 → K (some (0, 0, 0)) σ') ∧
  ((ev_h A e).1 = 0 → ∀ σ' : ab_SG, ab_okM ((93, 53) :: mp_M) σ σ' → mt_is σ' e (ev_q e 0) → σ' 93 53 = ev_c A e → K (some (0, 0, 1)) σ')
def mf_N : ab_ML := (93, 0) :: (93, 2) :: (93, 3) :: (93, 4) :: (93, 22) :: (95, 3) :: (93, 53) :: mb_M
def me_N : ab_ML := (117, 1000000) :: (93, 51) :: (93, 52) :: mf_N
def jh_is (σ : ab_SG) (s : jg_T) : Prop := σ 117 0 = s.1 ∧ σ 117 1 = s.2.2.1 ∧ σ 117 2 = s.2.2.2.1 ∧ σ 117 3 = s.2.2.2.2.1 ∧ σ 117 4 = s.2.2.2.2.2
def sp_m_evening : fw_SP := fun as σ K => ∃ (A : ab_SG) (t : Nat → Int), as = [(2, 93, 0)] ∧ (0 ≤ σ 93 2 ∧ σ 93 2 ≤ 940) ∧ tq_is σ t ∧ ly_ok σ ∧ NM σ A ∧
  ((ev_r A (t, (σ 93 2).toNat, 400)).1 ≠ 0 → ∀ σ' : ab_SG, ab_okM mf_N σ σ' → σ' 93 2 = 0 → ly_is σ σ' → σ' 93 10 = (ev_r A (t, (σ 93 2).toNat, 400)).1 → K (some (0, 0, v_ev A (t, (σ 93 2).toNat, 400))) σ') ∧
  ((ev_r A (t, (σ 93 2).toNat, 400)).1 = 0 → ∀ σ' : ab_SG, ab_okM me_N σ σ' → σ' 93 2 = 0 → ly_is σ σ' → σ' 93 10 = 0 → jh_is σ' (jg_n A (t, (σ 93 2).toNat, 400) (ev_r A (t, (σ 93 2).toNat, 400)).2.2) →
    σ' 93 51 = (if (jg_n A (t, (σ 93 2).toNat, 400) (ev_r A (t, (σ 93 2).toNat, 400)).2.2).1 = 0 ∧ (jg_n A (t, (σ 93 2).toNat, 400) (ev_r A (t, (σ 93 2).toNat, 400)).2.2).2.2.2.2.1 ≠ -1 then fw_c (σ 95 4) else -1) → σ' 93 52 = ev_c A (t, (σ 93 2).toNat, 400) → K (some (0, 0, v_ev A (t, (σ 93 2).toNat, 400))) σ')
abbrev fk_m_isNumberP : List fw_CR := [(168, 1, true, 11, 0, sp_m_bad), (171, 3, false, 0, 0, sp_m_isIn)]
abbrev st_m_isNumberP : fw_K → fw_KR → fw_K := fw_st vwCl nn_sh nn_kd fw_kv fw_wc (nn_KI20.map (fun x => x.1)) (nn_KJ20.map (fun x => x.1)) (nn_PF20.map (fun x => x.1)) (nn_PS20.map (fun x => x.1)) fk_m_isNumberP 1 nn_dt225 3 1
theorem fs_m_isNumberP_0 {G : fw_K} {R : fw_KR} (hG : fw_cls st_m_isNumberP R G) {x y : Int} {σ : ab_SG} (h : (fw_c (σ 93 7) = fw_c 3 → sp_m_isIn [(0, 0, σ 93 8), (0, 0, x), (0, 0, y)] σ (fun rv σ2 => G 23 [some (2, 93, 0), some (0, 0, x), some (0, 0, y)] (rv.toList ++ []) σ2)) ∧ (fw_c (σ 93 7) ≠ fw_c 3 → sp_m_bad [(2, 93, 0), (0, 0, 1)] σ (fun rv σ2 => G 13 [some (2, 93, 0), some (0, 0, x), some (0, 0, y)] (rv.toList ++ []) σ2))) : G 0 [some (2, 93, 0), some (0, 0, x), some (0, 0, y)] [] σ := fw_on hG [13, 23, 31] 200 h
theorem fs_m_isNumberP_23 {G : fw_K} {R : fw_KR} (hG : fw_cls st_m_isNumberP R G) {a1 a2 b0 : Int} {σ : ab_SG} (h : (fw_c b0 ≠ 0 → (0 ≤ fw_c 1 ∧ fw_c 1 ≤ 1) ∧ R (some (0, 0, 1)) (ab_ups σ 93 13 (fw_c (σ 93 8)))) ∧ (fw_c b0 = 0 → sp_m_bad [(2, 93, 0), (0, 0, 2)] σ (fun rv σ2 => G 31 [some (2, 93, 0), some (0, 0, a1), some (0, 0, a2)] (rv.toList ++ []) σ2))) : G 23 [some (2, 93, 0), some (0, 0, a1), some (0, 0, a2)] [(0, 0, b0)] σ := fw_on hG [13, 23, 31] 200 h
theorem fs_m_isNumberP_13 {G : fw_K} {R : fw_KR} (hG : fw_cls st_m_isNumberP R G) {a1 a2 b0 : Int} {σ : ab_SG} (h : (0 ≤ fw_c b0 ∧ fw_c b0 ≤ 1) ∧ R (some (0, 0, b0)) σ) : G 13 [some (2, 93, 0), some (0, 0, a1), some (0, 0, a2)] [(0, 0, b0)] σ := fw_on hG [13, 23, 31] 200 h
theorem fs_m_isNumberP_31 {G : fw_K} {R : fw_KR} (hG : fw_cls st_m_isNumberP R G) {a1 a2 b0 : Int} {σ : ab_SG} (h : (0 ≤ fw_c b0 ∧ fw_c b0 ≤ 1) ∧ R (some (0, 0, b0)) σ) : G 31 [some (2, 93, 0), some (0, 0, a1), some (0, 0, a2)] [(0, 0, b0)] σ := fw_on hG [13, 23, 31] 200 h
abbrev fk_m_readNumberP : List fw_CR := [(178, 2, true, 11, 1, sp_m_isNumberP), (182, 0, true, 11, 1, sp_m_go)]
abbrev st_m_readNumberP : fw_K → fw_KR → fw_K := fw_st vwCl nn_sh nn_kd fw_kv fw_wc (nn_KI20.map (fun x => x.1)) (nn_KJ20.map (fun x => x.1)) (nn_PF20.map (fun x => x.1)) (nn_PS20.map (fun x => x.1)) fk_m_readNumberP 2 nn_dt227 3 1
theorem fs_m_readNumberP_0 {G : fw_K} {R : fw_KR} (hG : fw_cls st_m_readNumberP R G) {x y : Int} {σ : ab_SG} (h : sp_m_isNumberP [(2, 93, 0), (0, 0, x), (0, 0, y)] σ (fun rv σ2 => G 6 [some (2, 93, 0), some (0, 0, x), some (0, 0, y)] (rv.toList ++ []) σ2)) : G 0 [some (2, 93, 0), some (0, 0, x), some (0, 0, y)] [] σ := fw_on hG [6, 15] 200 h
theorem fs_m_readNumberP_6 {G : fw_K} {R : fw_KR} (hG : fw_cls st_m_readNumberP R G) {a1 a2 b0 : Int} {σ : ab_SG} (h : (fw_c b0 ≠ 0 → sp_m_go [(2, 93, 0)] σ (fun rv σ2 => G 15 [some (2, 93, 0), some (0, 0, a1), some (0, 0, a2)] (rv.toList ++ []) σ2)) ∧ (fw_c b0 = 0 → (0 ≤ fw_c 0 ∧ fw_c 0 ≤ 1) ∧ R (some (0, 0, 0)) σ)) : G 6 [some (2, 93, 0), some (0, 0, a1), some (0, 0, a2)] [(0, 0, b0)] σ := fw_on hG [6, 15] 200 h
theorem fs_m_readNumberP_15 {G : fw_K} {R : fw_KR} (hG : fw_cls st_m_readNumberP R G) {a1 a2 : Int} {σ : ab_SG} (h : (0 ≤ fw_c 1 ∧ fw_c 1 ≤ 1) ∧ R (some (0, 0, 1)) σ) : G 15 [some (2, 93, 0), some (0, 0, a1), some (0, 0, a2)] [] σ := fw_on hG [6, 15] 200 h
abbrev fk_m_readEndP : List fw_CR := [(168, 1, true, 11, 0, sp_m_bad), (182, 0, true, 11, 1, sp_m_go), (185, 1, true, 11, 0, sp_m_isSign)]
abbrev st_m_readEndP : fw_K → fw_KR → fw_K := fw_st vwCl nn_sh nn_kd fw_kv fw_wc (nn_KI20.map (fun x => x.1)) (nn_KJ20.map (fun x => x.1)) (nn_PF20.map (fun x => x.1)) (nn_PS20.map (fun x => x.1)) fk_m_readEndP 2 nn_dt235 1 1
theorem fs_m_readEndP_0 {G : fw_K} {R : fw_KR} (hG : fw_cls st_m_readEndP R G) {σ : ab_SG} (h : sp_m_isSign [(2, 93, 0), (0, 0, 59)] σ (fun rv σ2 => G 6 [some (2, 93, 0)] (rv.toList ++ []) σ2)) : G 0 [some (2, 93, 0)] [] σ := fw_on hG [6, 14, 19] 200 h
theorem fs_m_readEndP_6 {G : fw_K} {R : fw_KR} (hG : fw_cls st_m_readEndP R G) {b0 : Int} {σ : ab_SG} (h : (fw_c b0 ≠ 0 → sp_m_go [(2, 93, 0)] σ (fun rv σ2 => G 19 [some (2, 93, 0)] (rv.toList ++ []) σ2)) ∧ (fw_c b0 = 0 → sp_m_bad [(2, 93, 0), (0, 0, 1)] σ (fun rv σ2 => G 14 [some (2, 93, 0)] (rv.toList ++ []) σ2))) : G 6 [some (2, 93, 0)] [(0, 0, b0)] σ := fw_on hG [6, 14, 19] 200 h
theorem fs_m_readEndP_19 {G : fw_K} {R : fw_KR} (hG : fw_cls st_m_readEndP R G) {σ : ab_SG} (h : (0 ≤ fw_c 1 ∧ fw_c 1 ≤ 1) ∧ R (some (0, 0, 1)) σ) : G 19 [some (2, 93, 0)] [] σ := fw_on hG [6, 14, 19] 200 h
theorem fs_m_readEndP_14 {G : fw_K} {R : fw_KR} (hG : fw_cls st_m_readEndP R G) {b0 : Int} {σ : ab_SG} (h : (0 ≤ fw_c b0 ∧ fw_c b0 ≤ 1) ∧ R (some (0, 0, b0)) σ) : G 14 [some (2, 93, 0)] [(0, 0, b0)] σ := fw_on hG [6, 14, 19] 200 h
abbrev fk_m_findIn99 : List fw_CR := []
abbrev st_m_findIn99 : fw_K → fw_KR → fw_K := fw_st vwCl nn_sh nn_kd fw_kv fw_wc (nn_KI20.map (fun x => x.1)) (nn_KJ20.map (fun x => x.1)) (nn_PF20.map (fun x => x.1)) (nn_PS20.map (fun x => x.1)) fk_m_findIn99 0 nn_dt224 6 0
theorem fs_m_findIn99_0 {G : fw_K} {R : fw_KR} (hG : fw_cls st_m_findIn99 R G) {b n w : Int} {σ : ab_SG} (h : G 3 [some (2, 99, 0), some (0, 0, b), some (0, 0, n), some (1, 0, w), none, some (0, 0, 0)] [] σ) : G 0 [some (2, 99, 0), some (0, 0, b), some (0, 0, n), some (1, 0, w), none, none] [] σ := fw_on hG [3] 200 h
theorem fs_m_findIn99_3 {G : fw_K} {R : fw_KR} (hG : fw_cls st_m_findIn99 R G) {a1 a2 a3 a5 : Int} {σ : ab_SG} (h : (fw_c a2 ≤ fw_c a5 → R (some (0, 0, (-1))) σ) ∧ (fw_c a5 < fw_c a2 → (0 ≤ fw_c (a1 + a5) ∧ fw_c (a1 + a5) < ((20 : Nat) : Int)) ∧ ((fw_d (σ 99 (fw_c (a1 + a5)).toNat) ≠ fw_d a3 → G 3 [some (2, 99, 0), some (0, 0, a1), some (0, 0, a2), some (1, 0, a3), none, some (0, 0, a5 + 1)] [] σ) ∧ (fw_d (σ 99 (fw_c (a1 + a5)).toNat) = fw_d a3 → R (some (0, 0, a5)) σ)))) : G 3 [some (2, 99, 0), some (0, 0, a1), some (0, 0, a2), some (1, 0, a3), none, some (0, 0, a5)] [] σ := fw_on hG [3] 200 h
abbrev fk_m_whyNot : List fw_CR := []
abbrev st_m_whyNot : fw_K → fw_KR → fw_K := fw_st vwCl nn_sh nn_kd fw_kv fw_wc (nn_KI20.map (fun x => x.1)) (nn_KJ20.map (fun x => x.1)) (nn_PF20.map (fun x => x.1)) (nn_PS20.map (fun x => x.1)) fk_m_whyNot 0 nn_dt329 3 0
theorem fs_m_whyNot_0 {G : fw_K} {R : fw_KR} (hG : fw_cls st_m_whyNot R G) {p n : Int} {σ : ab_SG} (h : (fw_c (σ 93 48) = fw_c (-1) → (fw_c (σ 93 49) = fw_c (-1) → (fw_c p ≠ fw_c (σ 93 47) → G 39 [some (2, 93, 0), some (0, 0, p), some (0, 0, n)] [] σ) ∧ (fw_c p = fw_c (σ 93 47) → R (some (0, 0, 2)) σ)) ∧ (fw_c (σ 93 49) ≠ fw_c (-1) → (fw_c p = fw_c (σ 93 49) → G 39 [some (2, 93, 0), some (0, 0, p), some (0, 0, n)] [] σ) ∧ (fw_c p ≠ fw_c (σ 93 49) → R (some (0, 0, 2)) σ))) ∧ (fw_c (σ 93 48) ≠ fw_c (-1) → R (some (0, 0, 1)) σ)) : G 0 [some (2, 93, 0), some (0, 0, p), some (0, 0, n)] [] σ := fw_on hG [39, 66] 200 h
theorem fs_m_whyNot_39 {G : fw_K} {R : fw_KR} (hG : fw_cls st_m_whyNot R G) {a2 : Int} {o1 : Option ab_AV} {σ : ab_SG} (h : (fw_c a2 ≤ 0 → (fw_c (σ 93 46) ≠ 0 → R (some (0, 0, 0)) σ) ∧ (fw_c (σ 93 46) = 0 → R (some (0, 0, 4)) σ)) ∧ (0 < fw_c a2 → (fw_c (σ 93 46) ≠ 0 → G 66 [some (2, 93, 0), o1, some (0, 0, a2)] [(0, 0, (σ 93 46) - 1), (0, 0, a2)] σ) ∧ (fw_c (σ 93 46) = 0 → (0 ≤ fw_c 3 ∧ fw_c 3 < ((474 : Nat) : Int)) ∧ (G 66 [some (2, 93, 0), o1, some (0, 0, a2)] [(0, 0, σ 95 (fw_c 3).toNat), (0, 0, a2)] σ)))) : G 39 [some (2, 93, 0), o1, some (0, 0, a2)] [] σ := fw_on hG [39, 66] 200 h
theorem fs_m_whyNot_66 {G : fw_K} {R : fw_KR} (hG : fw_cls st_m_whyNot R G) {b0 b1 : Int} {o1 o2 : Option ab_AV} {σ : ab_SG} (h : (fw_c b1 ≤ fw_c b0 → R (some (0, 0, 0)) σ) ∧ (fw_c b0 < fw_c b1 → R (some (0, 0, 3)) σ)) : G 66 [some (2, 93, 0), o1, o2] [(0, 0, b0), (0, 0, b1)] σ := fw_on hG [39, 66] 200 h
abbrev fk_m_judgeLine : List fw_CR := [(439, 2, true, 11, 0, sp_m_whyNot)]
abbrev st_m_judgeLine : fw_K → fw_KR → fw_K := fw_st vwCl nn_sh nn_kd fw_kv fw_wc (nn_KI20.map (fun x => x.1)) (nn_KJ20.map (fun x => x.1)) (nn_PF20.map (fun x => x.1)) (nn_PS20.map (fun x => x.1)) fk_m_judgeLine 1 nn_dt328 4 4
theorem fs_m_judgeLine_0 {G : fw_K} {R : fw_KR} (hG : fw_cls st_m_judgeLine R G) {p n : Int} {σ : ab_SG} (h : sp_m_whyNot [(2, 93, 0), (0, 0, p), (0, 0, n)] σ (fun rv σ2 => G 7 [some (2, 93, 0), some (0, 0, p), some (0, 0, n), none] (rv.toList ++ [(2, 93, 0)]) σ2)) : G 0 [some (2, 93, 0), some (0, 0, p), some (0, 0, n), none] [] σ := fw_on hG [7] 200 h
theorem fs_m_judgeLine_7 {G : fw_K} {R : fw_KR} (hG : fw_cls st_m_judgeLine R G) {a1 a2 b0 : Int} {o3 : Option ab_AV} {σ : ab_SG} (h : (fw_c (fw_c b0) = 0 → (fw_c a2 ≠ 0 → R none (ab_ups (ab_ups (ab_ups (ab_ups σ 93 44 (fw_c b0)) 93 46 (fw_c a2)) 93 47 (fw_c a1)) 93 49 (fw_c (σ 93 47)))) ∧ (fw_c a2 = 0 → R none (ab_ups (ab_ups (ab_ups σ 93 44 (fw_c b0)) 93 48 (fw_c a1)) 93 49 (fw_c (-1))))) ∧ (fw_c (fw_c b0) ≠ 0 → R none (ab_ups (ab_ups σ 93 44 (fw_c b0)) 93 45 (fw_c (σ 93 43))))) : G 7 [some (2, 93, 0), some (0, 0, a1), some (0, 0, a2), o3] [(0, 0, b0), (2, 93, 0)] σ := fw_on hG [7] 200 h
abbrev fk_m_readBid : List fw_CR := [(168, 1, true, 11, 0, sp_m_bad), (182, 0, true, 11, 1, sp_m_go), (199, 0, true, 11, 2, sp_m_isName), (203, 4, false, 0, 0, sp_m_findIn99), (210, 2, true, 11, 2, sp_m_readNumberP), (225, 1, true, 11, 2, sp_m_isWord), (246, 0, true, 11, 2, sp_m_readEndP), (451, 2, true, 11, 1, sp_m_judgeLine)]
abbrev st_m_readBid : fw_K → fw_KR → fw_K := fw_st vwCl nn_sh nn_kd fw_kv fw_wc (nn_KI20.map (fun x => x.1)) (nn_KJ20.map (fun x => x.1)) (nn_PF20.map (fun x => x.1)) (nn_PS20.map (fun x => x.1)) fk_m_readBid 4 nn_dt327 3 1
theorem fs_m_readBid_0 {G : fw_K} {R : fw_KR} (hG : fw_cls st_m_readBid R G) {σ : ab_SG} (h : sp_m_isName [(2, 93, 0)] σ (fun rv σ2 => G 4 [some (2, 93, 0), none, none] (rv.toList ++ []) σ2)) : G 0 [some (2, 93, 0), none, none] [] σ := fw_on hG [4, 12, 32, 43, 48, 56, 63, 73, 83, 87, 105] 200 h
theorem fs_m_readBid_4 {G : fw_K} {R : fw_KR} (hG : fw_cls st_m_readBid R G) {b0 : Int} {o1 o2 : Option ab_AV} {σ : ab_SG} (h : (fw_c b0 ≠ 0 → (0 ≤ fw_c 2 ∧ fw_c 2 < ((474 : Nat) : Int)) ∧ (sp_m_findIn99 [(2, 99, 0), (0, 0, 15), (0, 0, σ 95 (fw_c 2).toNat), (1, 0, σ 93 12)] σ (fun rv σ2 => G 32 [some (2, 93, 0), o1, o2] (rv.toList ++ []) σ2))) ∧ (fw_c b0 = 0 → sp_m_bad [(2, 93, 0), (0, 0, 1)] σ (fun rv σ2 => G 12 [some (2, 93, 0), o1, o2] (rv.toList ++ []) σ2))) : G 4 [some (2, 93, 0), o1, o2] [(0, 0, b0)] σ := fw_on hG [4, 12, 32, 43, 48, 56, 63, 73, 83, 87, 105] 200 h
theorem fs_m_readBid_32 {G : fw_K} {R : fw_KR} (hG : fw_cls st_m_readBid R G) {b0 : Int} {o1 o2 : Option ab_AV} {σ : ab_SG} (h : (fw_c b0 ≠ fw_c (-1) → sp_m_go [(2, 93, 0)] σ (fun rv σ2 => G 48 [some (2, 93, 0), some (0, 0, b0), o2] (rv.toList ++ []) σ2)) ∧ (fw_c b0 = fw_c (-1) → sp_m_bad [(2, 93, 0), (0, 0, 3)] σ (fun rv σ2 => G 43 [some (2, 93, 0), some (0, 0, b0), o2] (rv.toList ++ []) σ2))) : G 32 [some (2, 93, 0), o1, o2] [(0, 0, b0)] σ := fw_on hG [4, 12, 32, 43, 48, 56, 63, 73, 83, 87, 105] 200 h
theorem fs_m_readBid_12 {G : fw_K} {R : fw_KR} (hG : fw_cls st_m_readBid R G) {b0 : Int} {o1 o2 : Option ab_AV} {σ : ab_SG} (h : (0 ≤ fw_c b0 ∧ fw_c b0 ≤ 1) ∧ R (some (0, 0, b0)) σ) : G 12 [some (2, 93, 0), o1, o2] [(0, 0, b0)] σ := fw_on hG [4, 12, 32, 43, 48, 56, 63, 73, 83, 87, 105] 200 h
theorem fs_m_readBid_48 {G : fw_K} {R : fw_KR} (hG : fw_cls st_m_readBid R G) {a1 : Int} {o2 : Option ab_AV} {σ : ab_SG} (h : sp_m_isWord [(2, 93, 0), (0, 0, 6)] σ (fun rv σ2 => G 56 [some (2, 93, 0), some (0, 0, a1), some (0, 0, 0)] (rv.toList ++ []) σ2)) : G 48 [some (2, 93, 0), some (0, 0, a1), o2] [] σ := fw_on hG [4, 12, 32, 43, 48, 56, 63, 73, 83, 87, 105] 200 h
theorem fs_m_readBid_43 {G : fw_K} {R : fw_KR} (hG : fw_cls st_m_readBid R G) {b0 : Int} {o1 o2 : Option ab_AV} {σ : ab_SG} (h : (0 ≤ fw_c b0 ∧ fw_c b0 ≤ 1) ∧ R (some (0, 0, b0)) σ) : G 43 [some (2, 93, 0), o1, o2] [(0, 0, b0)] σ := fw_on hG [4, 12, 32, 43, 48, 56, 63, 73, 83, 87, 105] 200 h
theorem fs_m_readBid_56 {G : fw_K} {R : fw_KR} (hG : fw_cls st_m_readBid R G) {a1 a2 b0 : Int} {σ : ab_SG} (h : (fw_c b0 = 0 → sp_m_readNumberP [(2, 93, 0), (0, 0, 1), (0, 0, 9)] σ (fun rv σ2 => G 73 [some (2, 93, 0), some (0, 0, a1), some (0, 0, a2)] (rv.toList ++ []) σ2)) ∧ (fw_c b0 ≠ 0 → sp_m_go [(2, 93, 0)] σ (fun rv σ2 => G 63 [some (2, 93, 0), some (0, 0, a1), some (0, 0, a2)] (rv.toList ++ []) σ2))) : G 56 [some (2, 93, 0), some (0, 0, a1), some (0, 0, a2)] [(0, 0, b0)] σ := fw_on hG [4, 12, 32, 43, 48, 56, 63, 73, 83, 87, 105] 200 h
theorem fs_m_readBid_73 {G : fw_K} {R : fw_KR} (hG : fw_cls st_m_readBid R G) {a1 b0 : Int} {o2 : Option ab_AV} {σ : ab_SG} (h : (fw_c b0 ≠ 0 → G 83 [some (2, 93, 0), some (0, 0, a1), some (0, 0, σ 93 13)] [] σ) ∧ (fw_c b0 = 0 → (0 ≤ fw_c 0 ∧ fw_c 0 ≤ 1) ∧ R (some (0, 0, 0)) σ)) : G 73 [some (2, 93, 0), some (0, 0, a1), o2] [(0, 0, b0)] σ := fw_on hG [4, 12, 32, 43, 48, 56, 63, 73, 83, 87, 105] 200 h
theorem fs_m_readBid_63 {G : fw_K} {R : fw_KR} (hG : fw_cls st_m_readBid R G) {a1 a2 : Int} {σ : ab_SG} (h : G 83 [some (2, 93, 0), some (0, 0, a1), some (0, 0, a2)] [] σ) : G 63 [some (2, 93, 0), some (0, 0, a1), some (0, 0, a2)] [] σ := fw_on hG [4, 12, 32, 43, 48, 56, 63, 73, 83, 87, 105] 200 h
theorem fs_m_readBid_83 {G : fw_K} {R : fw_KR} (hG : fw_cls st_m_readBid R G) {a1 a2 : Int} {σ : ab_SG} (h : sp_m_readEndP [(2, 93, 0)] σ (fun rv σ2 => G 87 [some (2, 93, 0), some (0, 0, a1), some (0, 0, a2)] (rv.toList ++ []) σ2)) : G 83 [some (2, 93, 0), some (0, 0, a1), some (0, 0, a2)] [] σ := fw_on hG [4, 12, 32, 43, 48, 56, 63, 73, 83, 87, 105] 200 h
theorem fs_m_readBid_87 {G : fw_K} {R : fw_KR} (hG : fw_cls st_m_readBid R G) {a1 a2 b0 : Int} {σ : ab_SG} (h : (fw_c b0 ≠ 0 → (fw_c (σ 93 44) ≠ 0 → G 105 [some (2, 93, 0), some (0, 0, a1), some (0, 0, a2)] [] σ) ∧ (fw_c (σ 93 44) = 0 → sp_m_judgeLine [(2, 93, 0), (0, 0, a1), (0, 0, a2)] σ (fun rv σ2 => G 105 [some (2, 93, 0), some (0, 0, a1), some (0, 0, a2)] (rv.toList ++ []) σ2))) ∧ (fw_c b0 = 0 → (0 ≤ fw_c 0 ∧ fw_c 0 ≤ 1) ∧ R (some (0, 0, 0)) σ)) : G 87 [some (2, 93, 0), some (0, 0, a1), some (0, 0, a2)] [(0, 0, b0)] σ := fw_on hG [4, 12, 32, 43, 48, 56, 63, 73, 83, 87, 105] 200 h
theorem fs_m_readBid_105 {G : fw_K} {R : fw_KR} (hG : fw_cls st_m_readBid R G) {o1 o2 : Option ab_AV} {σ : ab_SG} (h : (0 ≤ fw_c 1 ∧ fw_c 1 ≤ 1) ∧ R (some (0, 0, 1)) (ab_ups σ 93 43 (fw_c ((σ 93 43) + 1)))) : G 105 [some (2, 93, 0), o1, o2] [] σ := fw_on hG [4, 12, 32, 43, 48, 56, 63, 73, 83, 87, 105] 200 h
abbrev fk_m_readHeard : List fw_CR := [(168, 1, true, 11, 0, sp_m_bad), (182, 0, true, 11, 1, sp_m_go), (199, 0, true, 11, 2, sp_m_isName), (203, 4, false, 0, 0, sp_m_findIn99), (225, 1, true, 11, 2, sp_m_isWord), (246, 0, true, 11, 2, sp_m_readEndP)]
abbrev st_m_readHeard : fw_K → fw_KR → fw_K := fw_st vwCl nn_sh nn_kd fw_kv fw_wc (nn_KI20.map (fun x => x.1)) (nn_KJ20.map (fun x => x.1)) (nn_PF20.map (fun x => x.1)) (nn_PS20.map (fun x => x.1)) fk_m_readHeard 4 nn_dt326 1 1
theorem fs_m_readHeard_0 {G : fw_K} {R : fw_KR} (hG : fw_cls st_m_readHeard R G) {σ : ab_SG} (h : sp_m_isWord [(2, 93, 0), (0, 0, 1)] σ (fun rv σ2 => G 5 [some (2, 93, 0)] (rv.toList ++ []) σ2)) : G 0 [some (2, 93, 0)] [] σ := fw_on hG [5, 13, 18, 22, 30, 51, 67, 72, 76] 200 h
theorem fs_m_readHeard_5 {G : fw_K} {R : fw_KR} (hG : fw_cls st_m_readHeard R G) {b0 : Int} {σ : ab_SG} (h : (fw_c b0 ≠ 0 → sp_m_go [(2, 93, 0)] σ (fun rv σ2 => G 18 [some (2, 93, 0)] (rv.toList ++ []) σ2)) ∧ (fw_c b0 = 0 → sp_m_bad [(2, 93, 0), (0, 0, 1)] σ (fun rv σ2 => G 13 [some (2, 93, 0)] (rv.toList ++ []) σ2))) : G 5 [some (2, 93, 0)] [(0, 0, b0)] σ := fw_on hG [5, 13, 18, 22, 30, 51, 67, 72, 76] 200 h
theorem fs_m_readHeard_18 {G : fw_K} {R : fw_KR} (hG : fw_cls st_m_readHeard R G) {σ : ab_SG} (h : sp_m_isName [(2, 93, 0)] σ (fun rv σ2 => G 22 [some (2, 93, 0)] (rv.toList ++ []) σ2)) : G 18 [some (2, 93, 0)] [] σ := fw_on hG [5, 13, 18, 22, 30, 51, 67, 72, 76] 200 h
theorem fs_m_readHeard_13 {G : fw_K} {R : fw_KR} (hG : fw_cls st_m_readHeard R G) {b0 : Int} {σ : ab_SG} (h : (0 ≤ fw_c b0 ∧ fw_c b0 ≤ 1) ∧ R (some (0, 0, b0)) σ) : G 13 [some (2, 93, 0)] [(0, 0, b0)] σ := fw_on hG [5, 13, 18, 22, 30, 51, 67, 72, 76] 200 h
theorem fs_m_readHeard_22 {G : fw_K} {R : fw_KR} (hG : fw_cls st_m_readHeard R G) {b0 : Int} {σ : ab_SG} (h : (fw_c b0 ≠ 0 → (0 ≤ fw_c 1 ∧ fw_c 1 < ((474 : Nat) : Int)) ∧ (sp_m_findIn99 [(2, 99, 0), (0, 0, 9), (0, 0, σ 95 (fw_c 1).toNat), (1, 0, σ 93 12)] σ (fun rv σ2 => G 51 [some (2, 93, 0)] (rv.toList ++ [(2, 93, 0)]) σ2))) ∧ (fw_c b0 = 0 → sp_m_bad [(2, 93, 0), (0, 0, 1)] σ (fun rv σ2 => G 30 [some (2, 93, 0)] (rv.toList ++ []) σ2))) : G 22 [some (2, 93, 0)] [(0, 0, b0)] σ := fw_on hG [5, 13, 18, 22, 30, 51, 67, 72, 76] 200 h
theorem fs_m_readHeard_51 {G : fw_K} {R : fw_KR} (hG : fw_cls st_m_readHeard R G) {b0 : Int} {σ : ab_SG} (h : (fw_c (fw_c b0) ≠ fw_c (-1) → sp_m_go [(2, 93, 0)] (ab_ups σ 93 53 (fw_c b0)) (fun rv σ2 => G 72 [some (2, 93, 0)] (rv.toList ++ []) σ2)) ∧ (fw_c (fw_c b0) = fw_c (-1) → sp_m_bad [(2, 93, 0), (0, 0, 3)] (ab_ups σ 93 53 (fw_c b0)) (fun rv σ2 => G 67 [some (2, 93, 0)] (rv.toList ++ []) σ2))) : G 51 [some (2, 93, 0)] [(0, 0, b0), (2, 93, 0)] σ := fw_on hG [5, 13, 18, 22, 30, 51, 67, 72, 76] 200 h
theorem fs_m_readHeard_30 {G : fw_K} {R : fw_KR} (hG : fw_cls st_m_readHeard R G) {b0 : Int} {σ : ab_SG} (h : (0 ≤ fw_c b0 ∧ fw_c b0 ≤ 1) ∧ R (some (0, 0, b0)) σ) : G 30 [some (2, 93, 0)] [(0, 0, b0)] σ := fw_on hG [5, 13, 18, 22, 30, 51, 67, 72, 76] 200 h
theorem fs_m_readHeard_72 {G : fw_K} {R : fw_KR} (hG : fw_cls st_m_readHeard R G) {σ : ab_SG} (h : sp_m_readEndP [(2, 93, 0)] σ (fun rv σ2 => G 76 [some (2, 93, 0)] (rv.toList ++ []) σ2)) : G 72 [some (2, 93, 0)] [] σ := fw_on hG [5, 13, 18, 22, 30, 51, 67, 72, 76] 200 h
theorem fs_m_readHeard_67 {G : fw_K} {R : fw_KR} (hG : fw_cls st_m_readHeard R G) {b0 : Int} {σ : ab_SG} (h : (0 ≤ fw_c b0 ∧ fw_c b0 ≤ 1) ∧ R (some (0, 0, b0)) σ) : G 67 [some (2, 93, 0)] [(0, 0, b0)] σ := fw_on hG [5, 13, 18, 22, 30, 51, 67, 72, 76] 200 h
theorem fs_m_readHeard_76 {G : fw_K} {R : fw_KR} (hG : fw_cls st_m_readHeard R G) {b0 : Int} {σ : ab_SG} (h : (0 ≤ fw_c b0 ∧ fw_c b0 ≤ 1) ∧ R (some (0, 0, b0)) σ) : G 76 [some (2, 93, 0)] [(0, 0, b0)] σ := fw_on hG [5, 13, 18, 22, 30, 51, 67, 72, 76] 200 h
abbrev fk_m_evening : List fw_CR := [(249, 1, true, 11, 2, sp_m_begin), (457, 0, true, 11, 4, sp_m_readHeard), (460, 0, true, 11, 4, sp_m_readBid)]
abbrev st_m_evening : fw_K → fw_KR → fw_K := fw_st vwCl nn_sh nn_kd fw_kv fw_wc (nn_KI20.map (fun x => x.1)) (nn_KJ20.map (fun x => x.1)) (nn_PF20.map (fun x => x.1)) (nn_PS20.map (fun x => x.1)) fk_m_evening 5 nn_dt325 1 0
theorem fs_m_evening_0 {G : fw_K} {R : fw_KR} (hG : fw_cls st_m_evening R G) {σ : ab_SG} (h : sp_m_begin [(2, 93, 0), (0, 0, 400)] σ (fun rv σ2 => G 7 [some (2, 93, 0)] (rv.toList ++ []) σ2)) : G 0 [some (2, 93, 0)] [] σ := fw_on hG [7, 11, 57, 68, 154, 155] 200 h
theorem fs_m_evening_7 {G : fw_K} {R : fw_KR} (hG : fw_cls st_m_evening R G) {σ : ab_SG} (h : sp_m_readHeard [(2, 93, 0)] σ (fun rv σ2 => G 11 [some (2, 93, 0)] (rv.toList ++ []) σ2)) : G 7 [some (2, 93, 0)] [] σ := fw_on hG [7, 11, 57, 68, 154, 155] 200 h
theorem fs_m_evening_11 {G : fw_K} {R : fw_KR} (hG : fw_cls st_m_evening R G) {b0 : Int} {σ : ab_SG} (h : (fw_c b0 ≠ 0 → G 57 [some (2, 93, 0)] [] (ab_ups (ab_ups (ab_ups (ab_ups (ab_ups (ab_ups (ab_ups σ 93 43 (fw_c 1)) 93 44 (fw_c 0)) 93 45 (fw_c (-1))) 93 46 (fw_c 0)) 93 47 (fw_c (-1))) 93 48 (fw_c (-1))) 93 49 (fw_c (-1)))) ∧ (fw_c b0 = 0 → R (some (0, 0, (-2) - (σ 93 11))) σ)) : G 11 [some (2, 93, 0)] [(0, 0, b0)] σ := fw_on hG [7, 11, 57, 68, 154, 155] 200 h
set_option maxRecDepth 100000 in
theorem fs_m_evening_57 {G : fw_K} {R : fw_KR} (hG : fw_cls st_m_evening R G) {σ : ab_SG} (h : (fw_c (σ 93 7) = 0 → (0 ≤ fw_c 0 ∧ fw_c 0 < ((5 : Nat) : Int)) ∧ True ∧ ((0 ≤ fw_c 1 ∧ fw_c 1 < ((5 : Nat) : Int)) ∧ True ∧ ((0 ≤ fw_c 2 ∧ fw_c 2 < ((5 : Nat) : Int)) ∧ True ∧ ((0 ≤ fw_c 3 ∧ fw_c 3 < ((5 : Nat) : Int)) ∧ True ∧ ((0 ≤ fw_c 4 ∧ fw_c 4 < ((5 : Nat) : Int)) ∧ True ∧ ((fw_c (σ 93 44) ≠ 0 → G 154 [some (2, 93, 0)] [(2, 93, 0)] (ab_ups (ab_ups (ab_ups (ab_ups (ab_ups σ 117 (fw_c 0).toNat (fw_c (σ 93 44))) 117 (fw_c 1).toNat (fw_c (σ 93 46))) 117 (fw_c 2).toNat (fw_c (σ 93 47))) 117 (fw_c 3).toNat (fw_c (σ 93 48))) 117 (fw_c 4).toNat (fw_c (σ 93 49)))) ∧ (fw_c (σ 93 44) = 0 → (fw_c (σ 93 48) = fw_c (-1) → G 154 [some (2, 93, 0)] [(2, 93, 0)] (ab_ups (ab_ups (ab_ups (ab_ups (ab_ups σ 117 (fw_c 0).toNat (fw_c (σ 93 44))) 117 (fw_c 1).toNat (fw_c (σ 93 46))) 117 (fw_c 2).toNat (fw_c (σ 93 47))) 117 (fw_c 3).toNat (fw_c (σ 93 48))) 117 (fw_c 4).toNat (fw_c (σ 93 49)))) ∧ (fw_c (σ 93 48) ≠ fw_c (-1) → (0 ≤ fw_c 4 ∧ fw_c 4 < ((474 : Nat) : Int)) ∧ (G 155 [some (2, 93, 0)] [(0, 0, σ 95 (fw_c 4).toNat), (2, 93, 0)] (ab_ups (ab_ups (ab_ups (ab_ups (ab_ups σ 117 (fw_c 0).toNat (fw_c (σ 93 44))) 117 (fw_c 1).toNat (fw_c (σ 93 46))) 117 (fw_c 2).toNat (fw_c (σ 93 47))) 117 (fw_c 3).toNat (fw_c (σ 93 48))) 117 (fw_c 4).toNat (fw_c (σ 93 49)))))))))))) ∧ (fw_c (σ 93 7) ≠ 0 → sp_m_readBid [(2, 93, 0)] σ (fun rv σ2 => G 68 [some (2, 93, 0)] (rv.toList ++ []) σ2))) : G 57 [some (2, 93, 0)] [] σ := fw_on hG [7, 11, 57, 68, 154, 155] 200 h
theorem fs_m_evening_154 {G : fw_K} {R : fw_KR} (hG : fw_cls st_m_evening R G) {σ : ab_SG} (h : G 155 [some (2, 93, 0)] [(0, 0, (-1)), (2, 93, 0)] σ) : G 154 [some (2, 93, 0)] [(2, 93, 0)] σ := fw_on hG [7, 11, 57, 68, 154, 155] 200 h
theorem fs_m_evening_155 {G : fw_K} {R : fw_KR} (hG : fw_cls st_m_evening R G) {b0 : Int} {σ : ab_SG} (h : R (some (0, 0, σ 93 45)) (ab_ups (ab_ups σ 93 51 (fw_c b0)) 93 52 (fw_c (σ 93 53)))) : G 155 [some (2, 93, 0)] [(0, 0, b0), (2, 93, 0)] σ := fw_on hG [7, 11, 57, 68, 154, 155] 200 h
theorem fs_m_evening_68 {G : fw_K} {R : fw_KR} (hG : fw_cls st_m_evening R G) {b0 : Int} {σ : ab_SG} (h : (fw_c b0 ≠ 0 → G 57 [some (2, 93, 0)] [] σ) ∧ (fw_c b0 = 0 → R (some (0, 0, (-2) - (σ 93 11))) σ)) : G 68 [some (2, 93, 0)] [(0, 0, b0)] σ := fw_on hG [7, 11, 57, 68, 154, 155] 200 h
section
variable {l : Launch} {cy : Nat → ClassId} {ad wr cr : Nat → Nat} {D : va_G}
theorem fm_m_isNumberP (hinj : nn_inj ad) : fw_H l cy ad wr cr D 225 1 sp_m_isNumberP := fw_mk hinj (⟨"NameNotesModel", "isNumber", "(II)Z"⟩, prog_14_method_24_code, 3, (Option.some Jvm.ClassFile.FieldType.boolean), 2, true, 1) rfl rfl nn_KI20_ok nn_KJ20_ok nn_PF20_ok nn_PS20_ok (by decide +kernel) rfl rfl (List.forall_mem_cons.mpr ⟨fw_row nn_PM20_ok (x := 168) (k := 0) (mn := 221) (np := 1) (ob := true) (ci := 11) (⟨"NameNotesModel", "bad", "(I)Z"⟩, prog_14_method_23_code, 2, (Option.some Jvm.ClassFile.FieldType.boolean), 1, true, 1) rfl (by decide +kernel) rfl rfl (by decide) (fun _ => ⟨_, _, rfl⟩) (fm_m_bad hinj), (List.forall_mem_cons.mpr ⟨fw_row nn_PM20_ok (x := 171) (k := 0) (mn := 226) (np := 3) (ob := false) (ci := 0) (⟨"NameNotesModel", "isIn", "(III)Z"⟩, prog_14_method_8_code, 3, (Option.some Jvm.ClassFile.FieldType.boolean), 3, false, 1) rfl (by decide +kernel) rfl rfl (by decide) (fun q => by cases q) (fm_m_isIn hinj), (fun _ h => absurd h List.not_mem_nil)⟩)⟩) (fun as σ K h => by
  obtain ⟨a, b, e, p, rfl, hab, hm, h0, h1⟩ := h
  have mk := mg_kind hm
  have ek : fw_c (σ 93 7) = σ 93 7 := fw_c_id (by omega) (by omega)
  have e3 : fw_c 3 = 3 := fw_c_id (by decide) (by decide)
  have ea : fw_c a = a := fw_c_id (by omega) (by omega)
  have eb : fw_c b = b := fw_c_id (by omega) (by omega)
  unfold pr_nm at h0 h1
  refine ⟨rfl, fun G hG => fs_m_isNumberP_0 hG ?_⟩
  rw [ek, e3]
  refine ⟨fun q => ?_, fun q => ?_⟩
  · have k3 := mk.2.1.mp q
    obtain ⟨-, e8, n0, n1⟩ := hm.2.2.2.2.2.1 k3
    have ec : fw_c (tk e p).2.2.2.2 = (tk e p).2.2.2.2 := fw_c_id (by omega) (by omega)
    rw [if_pos k3] at h0 h1
    rw [e8]
    refine ⟨_, _, _, rfl, fs_m_isNumberP_23 hG ?_⟩
    rw [e8, ec, ea, eb]
    refine ⟨fun z => ⟨fw_11, ?_⟩, fun z => ?_⟩
    · have z := fw_bo_ne z
      rw [if_pos z] at h1
      exact h1 rfl z.1 z.2
    · have z := fw_bo_eq z
      rw [if_neg z] at h0
      refine mp_bad hm (by decide) (fun σ' hM h10 h11 => fs_m_isNumberP_31 hG ⟨fw_01, h0 (by decide) σ' (fw_okM_tr (fw_okM_refl _ _) hM (by decide)) ?_ h11⟩)
      rw [h10, if_neg (by omega)]
  · have k3 : ¬ (tk e p).1 = 3 := fun y => q (mk.2.1.mpr y)
    rw [if_neg k3] at h0
    refine mp_bad hm (by decide) (fun σ' hM h10 h11 => fs_m_isNumberP_13 hG ⟨fw_01, h0 (by decide) σ' (fw_okM_tr (fw_okM_refl _ _) hM (by decide)) ?_ h11⟩)
    rw [h10]
    split <;> rfl)
theorem fm_m_readNumberP (hinj : nn_inj ad) : fw_H l cy ad wr cr D 227 2 sp_m_readNumberP := fw_mk hinj (⟨"NameNotesModel", "readNumber", "(II)Z"⟩, prog_14_method_25_code, 3, (Option.some Jvm.ClassFile.FieldType.boolean), 2, true, 1) rfl rfl nn_KI20_ok nn_KJ20_ok nn_PF20_ok nn_PS20_ok (by decide +kernel) rfl rfl (List.forall_mem_cons.mpr ⟨fw_row nn_PM20_ok (x := 178) (k := 0) (mn := 225) (np := 2) (ob := true) (ci := 11) (⟨"NameNotesModel", "isNumber", "(II)Z"⟩, prog_14_method_24_code, 3, (Option.some Jvm.ClassFile.FieldType.boolean), 2, true, 1) rfl (by decide +kernel) rfl rfl (by decide) (fun _ => ⟨_, _, rfl⟩) (fm_m_isNumberP hinj), (List.forall_mem_cons.mpr ⟨fw_row nn_PM20_ok (x := 182) (k := 0) (mn := 212) (np := 0) (ob := true) (ci := 11) (⟨"NameNotesModel", "go", "()V"⟩, prog_14_method_17_code, 5, (Option.none : Option Jvm.ClassFile.FieldType), 0, true, 4) rfl (by decide +kernel) rfl rfl (by decide) (fun _ => ⟨_, _, rfl⟩) (fm_m_go hinj), (fun _ h => absurd h List.not_mem_nil)⟩)⟩) (fun as σ K h => by
  obtain ⟨a, b, e, p, rfl, hab, hm, h0, h1⟩ := h
  refine ⟨rfl, fun G hG => fs_m_readNumberP_0 hG ⟨a, b, e, p, rfl, hab, hm.1, fun q σ' hM h10 h11 => ?_, fun q qa qb => ?_⟩⟩
  · exact fs_m_readNumberP_6 hG ⟨fun z => absurd fw_c0 z, fun _ => ⟨fw_01, h0 q σ' hM h10 h11⟩⟩
  · refine fs_m_readNumberP_6 hG ⟨fun _ => mt_go (mt_ups hm (Or.inr ⟨rfl, Nat.le_refl _⟩)) (fun σ' hM hs => fs_m_readNumberP_15 hG ⟨fw_11, h1 q σ' ?_ ?_ hs⟩), fun z => absurd (fw_c1.symm.trans z) (by decide)⟩
    · exact fw_okM_tr (fw_okM_ups (fw_okM_refl _ _) (by decide)) hM (by decide)
    · exact (hM 93 13 (by decide)).trans ab_ups_eq)
theorem fm_m_readEndP (hinj : nn_inj ad) : fw_H l cy ad wr cr D 235 2 sp_m_readEndP := fw_mk hinj (⟨"NameNotesModel", "readEnd", "()Z"⟩, prog_14_method_26_code, 1, (Option.some Jvm.ClassFile.FieldType.boolean), 0, true, 1) rfl rfl nn_KI20_ok nn_KJ20_ok nn_PF20_ok nn_PS20_ok (by decide +kernel) rfl rfl (List.forall_mem_cons.mpr ⟨fw_row nn_PM20_ok (x := 168) (k := 0) (mn := 221) (np := 1) (ob := true) (ci := 11) (⟨"NameNotesModel", "bad", "(I)Z"⟩, prog_14_method_23_code, 2, (Option.some Jvm.ClassFile.FieldType.boolean), 1, true, 1) rfl (by decide +kernel) rfl rfl (by decide) (fun _ => ⟨_, _, rfl⟩) (fm_m_bad hinj), (List.forall_mem_cons.mpr ⟨fw_row nn_PM20_ok (x := 182) (k := 0) (mn := 212) (np := 0) (ob := true) (ci := 11) (⟨"NameNotesModel", "go", "()V"⟩, prog_14_method_17_code, 5, (Option.none : Option Jvm.ClassFile.FieldType), 0, true, 4) rfl (by decide +kernel) rfl rfl (by decide) (fun _ => ⟨_, _, rfl⟩) (fm_m_go hinj), (List.forall_mem_cons.mpr ⟨fw_row nn_PM20_ok (x := 185) (k := 0) (mn := 236) (np := 1) (ob := true) (ci := 11) (⟨"NameNotesModel", "isSign", "(I)Z"⟩, prog_14_method_21_code, 2, (Option.some Jvm.ClassFile.FieldType.boolean), 1, true, 1) rfl (by decide +kernel) rfl rfl (by decide) (fun _ => ⟨_, _, rfl⟩) (fm_m_isSign hinj), (fun _ h => absurd h List.not_mem_nil)⟩)⟩)⟩) (fun as σ K h => by
  obtain ⟨e, p, rfl, hm, h0, h1⟩ := h
  refine ⟨rfl, fun G hG => fs_m_readEndP_0 hG ⟨59, e, p, rfl, Or.inl rfl, hm.1, fs_m_readEndP_6 hG ⟨fun z => ?_, fun z => ?_⟩⟩⟩
  · exact mt_go hm (fun σ' hM hs => fs_m_readEndP_19 hG ⟨fw_11, h1 (fw_bo_ne z) σ' hM hs⟩)
  · refine mp_bad hm.1 (by decide) (fun σ' hM h10 h11 => fs_m_readEndP_14 hG ⟨fw_01, h0 (fw_bo_eq z) σ' (fw_okM_tr (fw_okM_refl _ _) hM (by decide)) ?_ h11⟩)
    rw [h10]
    split <;> rfl)
theorem fm_m_findIn99 (hinj : nn_inj ad) : fw_H l cy ad wr cr D 224 0 sp_m_findIn99 := fw_mk hinj (⟨"NameNotesModel", "findIn", "([JIIJ)I"⟩, prog_14_method_29_code, 6, (Option.some Jvm.ClassFile.FieldType.int), 4, false, 0) rfl rfl nn_KI20_ok nn_KJ20_ok nn_PF20_ok nn_PS20_ok (by decide +kernel) rfl rfl (fun _ h => absurd h List.not_mem_nil) (fun as σ K h => by
  obtain ⟨b, n, w, rfl, hbn, hw, hd, h⟩ := h
  have en : fw_c (n : Int) = n := fw_c_id (by omega) (by omega)
  refine ⟨rfl, fun G hG => fs_m_findIn99_0 hG ?_⟩
  have key : ∀ (f i : Nat), i + f = n → K (some (0, 0, rw_fd (fun j => σ 99 (b + j)) w f i)) σ → G 3 [some (2, 99, 0), some (0, 0, (b : Int)), some (0, 0, (n : Int)), some (1, 0, w), none, some (0, 0, (i : Int))] [] σ := by
    intro f
    induction f with
    | zero =>
      intro i hi q
      have ei : fw_c (i : Int) = i := fw_c_id (by omega) (by omega)
      refine fs_m_findIn99_3 hG ?_
      rw [en, ei]
      exact ⟨fun _ => q, fun z => absurd z (by omega)⟩
    | succ f ih =>
      intro i hi q
      have ei : fw_c (i : Int) = i := fw_c_id (by omega) (by omega)
      have ebi : fw_c ((b : Int) + i) = ((b + i : Nat) : Int) := by rw [fw_c_id (by omega) (by omega)]; omega
      replace q : K (some (0, 0, if σ 99 (b + i) = w then (i : Int) else rw_fd (fun j => σ 99 (b + j)) w f (i + 1))) σ := q
      refine fs_m_findIn99_3 hG ?_
      rw [en, ei, ebi, Int.toNat_natCast, hd i (by omega), hw]
      refine ⟨fun z => absurd z (by omega), fun _ => ⟨⟨Int.natCast_nonneg _, by omega⟩, fun z => ?_, fun z => ?_⟩⟩
      · rw [if_neg z] at q
        exact ih (i + 1) (by omega) q
      · rw [if_pos z] at q
        exact q
  exact key n 0 (by omega) h)
theorem fm_m_whyNot (hinj : nn_inj ad) : fw_H l cy ad wr cr D 329 0 sp_m_whyNot := fw_mk hinj (⟨"NameNotesModel", "whyNot", "(II)I"⟩, prog_14_method_123_code, 3, (Option.some Jvm.ClassFile.FieldType.int), 2, true, 0) rfl rfl nn_KI20_ok nn_KJ20_ok nn_PF20_ok nn_PS20_ok (by decide +kernel) rfl rfl (fun _ h => absurd h List.not_mem_nil) (fun as σ K h => by
  obtain ⟨A, s, p, n, rfl, ⟨-, -, e46, e47, e48, e49⟩, hB, hp, hn, h95, hf, h⟩ := h
  obtain ⟨why, wr, b, d, m, t⟩ := s
  obtain ⟨-, -, b3, b4, b5, b6, -⟩ := hB
  replace e46 : σ 93 46 = b := e46
  replace e47 : σ 93 47 = d := e47
  replace e48 : σ 93 48 = m := e48
  replace e49 : σ 93 49 = t := e49
  replace b3 : 0 ≤ b ∧ b ≤ 9 := b3
  replace b4 : -1 ≤ d ∧ d ≤ 4 := b4
  replace b5 : -1 ≤ m ∧ m ≤ 4 := b5
  replace b6 : -1 ≤ t ∧ t ≤ 4 := b6
  have ew : jg_w A (why, wr, b, d, m, t) p n = if m ≠ -1 then 1 else if (t ≠ -1 ∧ p ≠ t) ∨ (t = -1 ∧ p = d) then 2 else if n = 0 then (if b = 0 then 4 else 0) else if (if b = 0 then A 49 14 else b - 1) < n then 3 else 0 := rfl
  rw [ew] at h
  have m1 : fw_c (-1) = -1 := fw_s (by decide) (by decide)
  have c3 : fw_c 3 = 3 := fw_s (by decide) (by decide)
  have t3 : (fw_c 3).toNat = 3 := by rw [c3]; rfl
  have cp : fw_c p = p := fw_s (by omega) (by omega)
  have cn : fw_c n = n := fw_s (by omega) (by omega)
  have cb : fw_c b = b := fw_s (by omega) (by omega)
  have cd : fw_c d = d := fw_s (by omega) (by omega)
  have cm : fw_c m = m := fw_s (by omega) (by omega)
  have ct : fw_c t = t := fw_s (by omega) (by omega)
  have cf : fw_c (A 49 14) = A 49 14 := fw_s (by omega) (by omega)
  have cb1 : fw_c (b - 1) = b - 1 := fw_s (by omega) (by omega)
  refine ⟨rfl, fun G hG => ?_⟩
  have a0 : m = -1 → ¬ ((t ≠ -1 ∧ p ≠ t) ∨ (t = -1 ∧ p = d)) → G 39 [some (2, 93, 0), some (0, 0, p), some (0, 0, n)] [] σ := fun z y => by
    rw [if_neg (fun w => w z), if_neg y] at h
    refine fs_m_whyNot_39 hG ?_
    rw [e46, cb, cn, t3, c3, h95]
    refine ⟨fun z1 => ⟨fun z2 => ?_, fun z2 => ?_⟩, fun z1 => ⟨fun z2 => fs_m_whyNot_66 hG ?_, fun z2 => ⟨by decide, fs_m_whyNot_66 hG ?_⟩⟩⟩
    · rw [if_pos (by omega), if_neg z2] at h
      exact h
    · rw [if_pos (by omega), if_pos z2] at h
      exact h
    · rw [cb1, cn]
      refine ⟨fun z3 => ?_, fun z3 => ?_⟩
      · rw [if_neg (by omega), if_neg z2, if_neg (by omega)] at h
        exact h
      · rw [if_neg (by omega), if_neg z2, if_pos (by omega)] at h
        exact h
    · rw [cf, cn]
      refine ⟨fun z3 => ?_, fun z3 => ?_⟩
      · rw [if_neg (by omega), if_pos z2, if_neg (by omega)] at h
        exact h
      · rw [if_neg (by omega), if_pos z2, if_pos (by omega)] at h
        exact h
  have a1 : m = -1 → (t ≠ -1 ∧ p ≠ t) ∨ (t = -1 ∧ p = d) → K (some (0, 0, 2)) σ := fun z y => by
    rw [if_neg (fun w => w z), if_pos y] at h
    exact h
  refine fs_m_whyNot_0 hG ?_
  rw [m1, e48, e49, e47, cm, ct, cd, cp]
  refine ⟨fun z1 => ⟨fun z2 => ⟨fun z3 => a0 z1 ?_, fun z3 => a1 z1 (Or.inr ⟨z2, z3⟩)⟩, fun z2 => ⟨fun z3 => a0 z1 ?_, fun z3 => a1 z1 (Or.inl ⟨z2, z3⟩)⟩⟩, fun z1 => ?_⟩
  · omega
  · omega
  · rw [if_pos z1] at h
    exact h)
theorem fm_m_judgeLine (hinj : nn_inj ad) : fw_H l cy ad wr cr D 328 1 sp_m_judgeLine := fw_mk hinj (⟨"NameNotesModel", "judgeLine", "(II)V"⟩, prog_14_method_124_code, 4, (Option.none : Option Jvm.ClassFile.FieldType), 2, true, 4) rfl rfl nn_KI20_ok nn_KJ20_ok nn_PF20_ok nn_PS20_ok (by decide +kernel) rfl rfl (List.forall_mem_cons.mpr ⟨fw_row nn_PM20_ok (x := 439) (k := 0) (mn := 329) (np := 2) (ob := true) (ci := 11) (⟨"NameNotesModel", "whyNot", "(II)I"⟩, prog_14_method_123_code, 3, (Option.some Jvm.ClassFile.FieldType.int), 2, true, 0) rfl (by decide +kernel) rfl rfl (by decide) (fun _ => ⟨_, _, rfl⟩) (fm_m_whyNot hinj), (fun _ h => absurd h List.not_mem_nil)⟩) (fun as σ K h => by
  obtain ⟨A, s, p, n, i, rfl, J, hw, hB, hp, hn, h95, hf, hi, h⟩ := h
  have T1 : ∀ {σ : ab_SG} {k j a b : Nat} {v : Int}, (a ≠ k ∨ b ≠ j) → (ab_ups σ k j v) a b = σ a b := fun hh => ab_ups_ne (fun z => hh.elim (fun y => y z.1) (fun y => y z.2))
  have m1 : fw_c (-1) = -1 := fw_s (by decide) (by decide)
  refine ⟨rfl, fun G hG => fs_m_judgeLine_0 hG ⟨A, s, p, n, rfl, J, hB, hp, hn, h95, hf, fs_m_judgeLine_7 hG ?_⟩⟩
  have wb := jg_w_b A s p n
  have en : jg_1 A s i p n = if s.1 ≠ 0 then s else if jg_w A s p n ≠ 0 then (jg_w A s p n, i, s.2.2.1, s.2.2.2.1, s.2.2.2.2.1, s.2.2.2.2.2) else if n = 0 then (0, s.2.1, s.2.2.1, s.2.2.2.1, p, -1) else (0, s.2.1, n, p, s.2.2.2.2.1, s.2.2.2.1) := rfl
  rw [if_neg (fun z => z hw)] at en
  generalize jg_w A s p n = w at wb en
  have cw : fw_c w = w := fw_s (by omega) (by omega)
  have cp : fw_c p = p := fw_s (by omega) (by omega)
  have cn : fw_c n = n := fw_s (by omega) (by omega)
  have ci : fw_c i = i := fw_s (by omega) (by omega)
  have cd : fw_c (σ 93 47) = s.2.2.2.1 := by
    have := hB.2.2.2.1
    rw [J.2.2.2.1]
    exact fw_s (by omega) (by omega)
  rw [cw, cw, cp, cn, cd, m1, hi.1, ci]
  refine ⟨fun z => ⟨fun z2 => ?_, fun z2 => ?_⟩, fun z => ?_⟩
  · rw [if_neg (fun y => y z), if_neg z2] at en
    refine h _ (fw_okM_ups (fw_okM_ups (fw_okM_ups (fw_okM_ups (fw_okM_refl _ _) (by decide)) (by decide)) (by decide)) (by decide)) ?_
    rw [en]
    refine ⟨?_, ?_, ?_, ?_, ?_, ?_⟩
    · rw [T1 (by decide), T1 (by decide), T1 (by decide), ab_ups_eq]
      exact z
    · rw [T1 (by decide), T1 (by decide), T1 (by decide), T1 (by decide)]
      exact J.2.1
    · rw [T1 (by decide), T1 (by decide), ab_ups_eq]
    · rw [T1 (by decide), ab_ups_eq]
    · rw [T1 (by decide), T1 (by decide), T1 (by decide), T1 (by decide)]
      exact J.2.2.2.2.1
    · rw [ab_ups_eq]
  · rw [if_neg (fun y => y z), if_pos z2] at en
    refine h _ (fw_okM_ups (fw_okM_ups (fw_okM_ups (fw_okM_refl _ _) (by decide)) (by decide)) (by decide)) ?_
    rw [en]
    refine ⟨?_, ?_, ?_, ?_, ?_, ?_⟩
    · rw [T1 (by decide), T1 (by decide), ab_ups_eq]
      exact z
    · rw [T1 (by decide), T1 (by decide), T1 (by decide)]
      exact J.2.1
    · rw [T1 (by decide), T1 (by decide), T1 (by decide)]
      exact J.2.2.1
    · rw [T1 (by decide), T1 (by decide), T1 (by decide)]
      exact J.2.2.2.1
    · rw [T1 (by decide), ab_ups_eq]
    · rw [ab_ups_eq]
  · rw [if_pos z] at en
    refine h _ (fw_okM_ups (fw_okM_ups (fw_okM_refl _ _) (by decide)) (by decide)) ?_
    rw [en]
    refine ⟨?_, ?_, ?_, ?_, ?_, ?_⟩
    · rw [T1 (by decide), ab_ups_eq]
    · rw [ab_ups_eq]
    · rw [T1 (by decide), T1 (by decide)]
      exact J.2.2.1
    · rw [T1 (by decide), T1 (by decide)]
      exact J.2.2.2.1
    · rw [T1 (by decide), T1 (by decide)]
      exact J.2.2.2.2.1
    · rw [T1 (by decide), T1 (by decide)]
      exact J.2.2.2.2.2)
theorem fm_m_readBid (hinj : nn_inj ad) : fw_H l cy ad wr cr D 327 4 sp_m_readBid := fw_mk hinj (⟨"NameNotesModel", "readBid", "()Z"⟩, prog_14_method_125_code, 3, (Option.some Jvm.ClassFile.FieldType.boolean), 0, true, 1) rfl rfl nn_KI20_ok nn_KJ20_ok nn_PF20_ok nn_PS20_ok (by decide +kernel) rfl rfl (List.forall_mem_cons.mpr ⟨fw_row nn_PM20_ok (x := 168) (k := 0) (mn := 221) (np := 1) (ob := true) (ci := 11) (⟨"NameNotesModel", "bad", "(I)Z"⟩, prog_14_method_23_code, 2, (Option.some Jvm.ClassFile.FieldType.boolean), 1, true, 1) rfl (by decide +kernel) rfl rfl (by decide) (fun _ => ⟨_, _, rfl⟩) (fm_m_bad hinj), (List.forall_mem_cons.mpr ⟨fw_row nn_PM20_ok (x := 182) (k := 0) (mn := 212) (np := 0) (ob := true) (ci := 11) (⟨"NameNotesModel", "go", "()V"⟩, prog_14_method_17_code, 5, (Option.none : Option Jvm.ClassFile.FieldType), 0, true, 4) rfl (by decide +kernel) rfl rfl (by decide) (fun _ => ⟨_, _, rfl⟩) (fm_m_go hinj), (List.forall_mem_cons.mpr ⟨fw_row nn_PM20_ok (x := 199) (k := 0) (mn := 223) (np := 0) (ob := true) (ci := 11) (⟨"NameNotesModel", "isName", "()Z"⟩, prog_14_method_22_code, 2, (Option.some Jvm.ClassFile.FieldType.boolean), 0, true, 1) rfl (by decide +kernel) rfl rfl (by decide) (fun _ => ⟨_, _, rfl⟩) (fm_m_isName hinj), (List.forall_mem_cons.mpr ⟨fw_row nn_PM20_ok (x := 203) (k := 0) (mn := 224) (np := 4) (ob := false) (ci := 0) (⟨"NameNotesModel", "findIn", "([JIIJ)I"⟩, prog_14_method_29_code, 6, (Option.some Jvm.ClassFile.FieldType.int), 4, false, 0) rfl (by decide +kernel) rfl rfl (by decide) (fun q => by cases q) (fm_m_findIn99 hinj), (List.forall_mem_cons.mpr ⟨fw_row nn_PM20_ok (x := 210) (k := 0) (mn := 227) (np := 2) (ob := true) (ci := 11) (⟨"NameNotesModel", "readNumber", "(II)Z"⟩, prog_14_method_25_code, 3, (Option.some Jvm.ClassFile.FieldType.boolean), 2, true, 1) rfl (by decide +kernel) rfl rfl (by decide) (fun _ => ⟨_, _, rfl⟩) (fm_m_readNumberP hinj), (List.forall_mem_cons.mpr ⟨fw_row nn_PM20_ok (x := 225) (k := 0) (mn := 217) (np := 1) (ob := true) (ci := 11) (⟨"NameNotesModel", "isWord", "(I)Z"⟩, prog_14_method_20_code, 2, (Option.some Jvm.ClassFile.FieldType.boolean), 1, true, 1) rfl (by decide +kernel) rfl rfl (by decide) (fun _ => ⟨_, _, rfl⟩) (fm_m_isWord hinj), (List.forall_mem_cons.mpr ⟨fw_row nn_PM20_ok (x := 246) (k := 0) (mn := 235) (np := 0) (ob := true) (ci := 11) (⟨"NameNotesModel", "readEnd", "()Z"⟩, prog_14_method_26_code, 1, (Option.some Jvm.ClassFile.FieldType.boolean), 0, true, 1) rfl (by decide +kernel) rfl rfl (by decide) (fun _ => ⟨_, _, rfl⟩) (fm_m_readEndP hinj), (List.forall_mem_cons.mpr ⟨fw_row nn_PM20_ok (x := 451) (k := 0) (mn := 328) (np := 2) (ob := true) (ci := 11) (⟨"NameNotesModel", "judgeLine", "(II)V"⟩, prog_14_method_124_code, 4, (Option.none : Option Jvm.ClassFile.FieldType), 2, true, 4) rfl (by decide +kernel) rfl rfl (by decide) (fun _ => ⟨_, _, rfl⟩) (fm_m_judgeLine hinj), (fun _ h => absurd h List.not_mem_nil)⟩)⟩)⟩)⟩)⟩)⟩)⟩)⟩) (fun as σ K h => by
  obtain ⟨A, e, p, i, s, rfl, hN, hm, J, hB, hi, h95, h0, h1⟩ := h
  have m1 : fw_c (-1) = -1 := fw_s (by decide) (by decide)
  have c2 : fw_c 2 = 2 := fw_s (by decide) (by decide)
  have t2 : (fw_c 2).toNat = 2 := by rw [c2]; rfl
  have n13 := hN.1.2.2.1
  have f14 := hN.2.1.2.2.2.2
  refine ⟨rfl, fun G hG => fs_m_readBid_0 hG ⟨e, p, rfl, hm.1, fs_m_readBid_4 hG ⟨fun z => ?_, fun z => ?_⟩⟩⟩
  · have hq := fw_bo_ne z
    have ek : pr_sk A e 59 (A 49 13) p = if pr_ix A e 59 (A 49 13) p < 0 then 3 else 0 := if_pos hq
    rw [t2, c2, (NM_n hN).2.2]
    refine ⟨by decide, mf_find (b := 15) hm hq.1 ⟨n13.1, by omega, by omega⟩ (rm_13 hN) (fs_m_readBid_32 hG ?_)⟩
    have hl := rw_fd_le (A 59) (pr_wd e p) (A 49 13).toNat 0
    replace hl : pr_ix A e 59 (A 49 13) p < 0 ∨ (((0 : Nat) : Int) ≤ pr_ix A e 59 (A 49 13) p ∧ pr_ix A e 59 (A 49 13) p < ((0 : Nat) : Int) + (A 49 13).toNat) := hl
    by_cases y : pr_ix A e 59 (A 49 13) p < 0
    · rw [if_pos y] at ek
      have eg : ev_g A e p = (3, ev_st e p) := by
        unfold ev_g
        rw [if_pos (by rw [ek]; decide), ek]
      rw [eg] at h0
      have ix : pr_ix A e 59 (A 49 13) p = -1 := by
        have g : ∀ (f i : Nat), rw_fd (A 59) (pr_wd e p) f i < 0 → rw_fd (A 59) (pr_wd e p) f i = -1 := by
          intro f
          induction f with
          | zero => intro i _; rfl
          | succ f ih =>
            intro i hh
            unfold rw_fd at hh ⊢
            split at hh
            · omega
            · rename_i c
              rw [if_neg c]
              exact ih (i + 1) hh
        exact g _ _ y
      refine ⟨fun w => absurd (by rw [ix]) w, fun _ => mp_bad hm.1 (by decide) (fun σ' hM h10 h11 => fs_m_readBid_43 hG ⟨fw_01, h0 (show (3 : Int) ≠ 0 by decide) σ' (fw_okM_tr (fw_okM_refl _ _) hM (by decide)) ?_ h11⟩)⟩
      have k := (mg_kind hm.1).1.mpr hq.1
      rw [h10, if_neg (by omega)]
    · rw [if_neg y] at ek
      have cx : fw_c (pr_ix A e 59 (A 49 13) p) = pr_ix A e 59 (A 49 13) p := fw_s (by omega) (by omega)
      refine ⟨fun _ => mt_go hm (fun σ1 M1 hm1 => fs_m_readBid_48 hG ⟨6, e, tn e p, rfl, by decide, hm1.1, ?_⟩), fun w => absurd w (by rw [cx, m1]; omega)⟩
      have M1b : ab_okM mb_M σ σ1 := fw_okM_tr (fw_okM_refl _ _) M1 (by decide)
      -- behind the bid
      have fin : ∀ (σ2 : ab_SG) (q : Nat) (v : Int), ab_okM mb_M σ σ2 → (jm_is σ2 s ∧ σ2 93 43 = (i : Int) + 1 ∧ σ2 95 3 = A 49 14) → q = tn e (tn e p) → mt_is σ2 e q → (tw e (tn e p) = 6 ∨ pr_nm e (tn e p) 1 9 = 0) → v = ev_w e p → G 83 [some (2, 93, 0), some (0, 0, pr_ix A e 59 (A 49 13) p), some (0, 0, v)] [] σ2 := by
        intro σ2 q v M2 ⟨J2, i2, f2⟩ eq hm2 hg ev
        subst eq
        refine fs_m_readBid_83 hG ⟨e, _, rfl, hm2, fun z σ' hM h10 h11 => ?_, fun z σ3 M3 hm3 => ?_⟩
        · have eg : ev_g A e p = (1, ev_st e (tn e (tn e p))) := by
            unfold ev_g
            rw [if_neg (fun w => w ek), if_neg (fun w => hg.elim (fun u => w.1 u) (fun u => w.2 u)), if_pos z]
          rw [eg] at h0
          exact fs_m_readBid_87 hG ⟨fun w => absurd fw_c0 w, fun _ => ⟨fw_01, h0 (show (1 : Int) ≠ 0 by decide) σ' (ev_tr M2 (ev_up hM (by decide))) h10 h11⟩⟩
        · have eg : (ev_g A e p).1 = 0 := by
            unfold ev_g
            rw [if_neg (fun w => w ek), if_neg (fun w => hg.elim (fun u => w.1 u) (fun u => w.2 u)), if_neg (fun w => w z)]
          have bb := ev_b hN.1 eg
          have r3 : ∀ j : Nat, 13 ≤ j → σ3 93 j = σ2 93 j := fun j hj => M3 93 j (fun q hq w => by
            have g : ∀ q ∈ go_M, q.2 ≤ 12 := by decide
            have := g q hq
            rcases w.2 with y | y <;> omega)
          have J3 : jm_is σ3 s := ⟨(r3 44 (by decide)).trans J2.1, (r3 45 (by decide)).trans J2.2.1, (r3 46 (by decide)).trans J2.2.2.1, (r3 47 (by decide)).trans J2.2.2.2.1, (r3 48 (by decide)).trans J2.2.2.2.2.1, (r3 49 (by decide)).trans J2.2.2.2.2.2⟩
          have i3 : σ3 93 43 = (i : Int) + 1 := (r3 43 (by decide)).trans i2
          have f3 : σ3 95 3 = A 49 14 := (mk_row M3 (k := 95) (by decide) 3).trans f2
          have M3b : ab_okM mb_M σ σ3 := ev_tr M2 (ev_up M3 (by decide))
          have c44 : fw_c (σ3 93 44) = s.1 := by
            have := hB.1
            rw [J3.1]
            exact fw_s (by omega) (by omega)
          have last : ∀ σ4 : ab_SG, ab_okM jl_M σ3 σ4 → jm_is σ4 (jg_1 A s ((i : Int) + 1) (ev_p A e p) (ev_w e p)) → G 105 [some (2, 93, 0), some (0, 0, pr_ix A e 59 (A 49 13) p), some (0, 0, v)] [] σ4 := by
            intro σ4 M4 J4
            have i4 : σ4 93 43 = (i : Int) + 1 := (mk_at M4 (k := 93) (j := 43) (by decide)).trans i3
            have T1 : ∀ (b : Nat) (x : Int), b ≠ 43 → (ab_ups σ4 93 43 x) 93 b = σ4 93 b := fun b x hb => ab_ups_ne (fun z => hb z.2)
            have hm4 : mt_is σ4 e (tn e (tn e (tn e p))) := by
              obtain ⟨a1, a2, a3, a4, a5, a6, a7⟩ := hm3
              have r : ∀ j : Nat, j < 13 → σ4 93 j = σ3 93 j := fun j hj => M4 93 j (fun q hq w => by
                have g : ∀ q ∈ jl_M, 44 ≤ q.2 ∧ q.2 ≤ 49 := by decide
                have := g q hq
                rcases w.2 with y | y <;> omega)
              refine ⟨?_, mg_tp_M a2 M4 (by decide) (r 3 (by decide)), (r 3 (by decide)).trans a3, (r 4 (by decide)).trans a4, a5, (r 10 (by decide)).trans a6, ?_⟩
              · unfold mg_is
                rw [r 6 (by decide), r 5 (by decide), r 7 (by decide), r 12 (by decide), r 8 (by decide), r 9 (by decide)]
                exact a1
              · rw [r 3 (by decide), r 4 (by decide)]
                exact a7
            have ci : fw_c ((i : Int) + 1 + 1) = ((i + 1 : Nat) : Int) + 1 := fw_s (by omega) (by omega)
            refine fs_m_readBid_105 hG ⟨fw_11, ?_⟩
            rw [i4, ci]
            exact h1 eg _ (fw_okM_ups (ev_tr M3b (ev_up M4 (by decide))) (by decide)) (mt_ups hm4 (Or.inr ⟨rfl, by decide⟩)) ⟨(T1 44 _ (by decide)).trans J4.1, (T1 45 _ (by decide)).trans J4.2.1, (T1 46 _ (by decide)).trans J4.2.2.1, (T1 47 _ (by decide)).trans J4.2.2.2.1, (T1 48 _ (by decide)).trans J4.2.2.2.2.1, (T1 49 _ (by decide)).trans J4.2.2.2.2.2⟩ ab_ups_eq
          refine fs_m_readBid_87 hG ⟨fun _ => ?_, fun w => absurd (fw_c1.symm.trans w) (by decide)⟩
          rw [c44]
          refine ⟨fun w => last σ3 (fw_okM_refl _ _) ?_, fun w => ⟨A, s, _, _, (i : Int) + 1, by rw [ev]; rfl, J3, w, hB, bb.1, bb.2, f3, f14, ⟨i3, by omega, by omega⟩, fun σ4 M4 J4 => last σ4 M4 J4⟩⟩
          unfold jg_1
          rw [if_pos w]
          exact J3
      have r1 : ∀ j : Nat, 13 ≤ j → σ1 93 j = σ 93 j := fun j hj => M1 93 j (fun q hq w => by
        have g : ∀ q ∈ go_M, q.2 ≤ 12 := by decide
        have := g q hq
        rcases w.2 with y | y <;> omega)
      have J1 : jm_is σ1 s := ⟨(r1 44 (by decide)).trans J.1, (r1 45 (by decide)).trans J.2.1, (r1 46 (by decide)).trans J.2.2.1, (r1 47 (by decide)).trans J.2.2.2.1, (r1 48 (by decide)).trans J.2.2.2.2.1, (r1 49 (by decide)).trans J.2.2.2.2.2⟩
      have i1 : σ1 93 43 = (i : Int) + 1 := (r1 43 (by decide)).trans hi.1
      have f1 : σ1 95 3 = A 49 14 := (mk_row M1 (k := 95) (by decide) 3).trans h95
      show G 56 _ [(0, 0, fw_bo (tw e (tn e p) = ((6 : Nat) : Int)))] σ1
      by_cases hw : tw e (tn e p) = 6
      · rw [fw_bo_t (show tw e (tn e p) = ((6 : Nat) : Int) from hw)]
        refine fs_m_readBid_56 hG ⟨fun w => absurd (fw_c1.symm.trans w) (by decide), fun _ => mt_go hm1 (fun σ2 M2 hm2 => fs_m_readBid_63 hG ?_)⟩
        have r2 : ∀ j : Nat, 13 ≤ j → σ2 93 j = σ1 93 j := fun j hj => M2 93 j (fun q hq w => by
          have g : ∀ q ∈ go_M, q.2 ≤ 12 := by decide
          have := g q hq
          rcases w.2 with y | y <;> omega)
        refine fin σ2 _ _ (ev_tr M1b (ev_up M2 (by decide))) ⟨⟨(r2 44 (by decide)).trans J1.1, (r2 45 (by decide)).trans J1.2.1, (r2 46 (by decide)).trans J1.2.2.1, (r2 47 (by decide)).trans J1.2.2.2.1, (r2 48 (by decide)).trans J1.2.2.2.2.1, (r2 49 (by decide)).trans J1.2.2.2.2.2⟩, (r2 43 (by decide)).trans i1, (mk_row M2 (k := 95) (by decide) 3).trans f1⟩ rfl hm2 (Or.inl hw) ?_
        unfold ev_w
        rw [if_pos hw]
      · rw [fw_bo_f (show ¬ tw e (tn e p) = ((6 : Nat) : Int) from hw)]
        refine fs_m_readBid_56 hG ⟨fun _ => ⟨1, 9, e, tn e p, rfl, by decide, hm1, fun z σ' hM h10 h11 => ?_, fun z σ2 M2 e13 hm2 => ?_⟩, fun w => absurd fw_c0 w⟩
        · have eg : ev_g A e p = (pr_nm e (tn e p) 1 9, ev_st e (tn e p)) := by
            unfold ev_g
            rw [if_neg (fun w => w ek), if_pos ⟨hw, z⟩]
          rw [eg] at h0
          exact fs_m_readBid_73 hG ⟨fun w => absurd fw_c0 w, fun _ => ⟨fw_01, h0 z σ' (ev_tr M1b (ev_up hM (by decide))) h10 h11⟩⟩
        · have r2 : ∀ j : Nat, 14 ≤ j → σ2 93 j = σ1 93 j := fun j hj => M2 93 j (fun q hq w => by
            have g : ∀ q ∈ ((93, 13) :: go_M : ab_ML), q.2 ≤ 13 := by decide
            have := g q hq
            rcases w.2 with y | y <;> omega)
          refine fs_m_readBid_73 hG ⟨fun _ => ?_, fun w => absurd (fw_c1.symm.trans w) (by decide)⟩
          refine fin σ2 _ _ (ev_tr M1b (ev_up M2 (by decide))) ⟨⟨(r2 44 (by decide)).trans J1.1, (r2 45 (by decide)).trans J1.2.1, (r2 46 (by decide)).trans J1.2.2.1, (r2 47 (by decide)).trans J1.2.2.2.1, (r2 48 (by decide)).trans J1.2.2.2.2.1, (r2 49 (by decide)).trans J1.2.2.2.2.2⟩, (r2 43 (by decide)).trans i1, (mk_row M2 (k := 95) (by decide) 3).trans f1⟩ rfl hm2 (Or.inr z) ?_
          unfold ev_w
          rw [if_neg hw]
          exact e13
  · have hq := fw_bo_eq z
    have eg : ev_g A e p = (1, ev_st e p) := by
      have ek : pr_sk A e 59 (A 49 13) p = 1 := if_neg hq
      unfold ev_g
      rw [if_pos (by rw [ek]; decide), ek]
    rw [eg] at h0
    refine mp_bad hm.1 (by decide) (fun σ' hM h10 h11 => fs_m_readBid_12 hG ⟨fw_01, h0 (show (1 : Int) ≠ 0 by decide) σ' (fw_okM_tr (fw_okM_refl _ _) hM (by decide)) ?_ h11⟩)
    rw [h10]
    split <;> rfl)
theorem fm_m_readHeard (hinj : nn_inj ad) : fw_H l cy ad wr cr D 326 4 sp_m_readHeard := fw_mk hinj (⟨"NameNotesModel", "readHeard", "()Z"⟩, prog_14_method_126_code, 1, (Option.some Jvm.ClassFile.FieldType.boolean), 0, true, 1) rfl rfl nn_KI20_ok nn_KJ20_ok nn_PF20_ok nn_PS20_ok (by decide +kernel) rfl rfl (List.forall_mem_cons.mpr ⟨fw_row nn_PM20_ok (x := 168) (k := 0) (mn := 221) (np := 1) (ob := true) (ci := 11) (⟨"NameNotesModel", "bad", "(I)Z"⟩, prog_14_method_23_code, 2, (Option.some Jvm.ClassFile.FieldType.boolean), 1, true, 1) rfl (by decide +kernel) rfl rfl (by decide) (fun _ => ⟨_, _, rfl⟩) (fm_m_bad hinj), (List.forall_mem_cons.mpr ⟨fw_row nn_PM20_ok (x := 182) (k := 0) (mn := 212) (np := 0) (ob := true) (ci := 11) (⟨"NameNotesModel", "go", "()V"⟩, prog_14_method_17_code, 5, (Option.none : Option Jvm.ClassFile.FieldType), 0, true, 4) rfl (by decide +kernel) rfl rfl (by decide) (fun _ => ⟨_, _, rfl⟩) (fm_m_go hinj), (List.forall_mem_cons.mpr ⟨fw_row nn_PM20_ok (x := 199) (k := 0) (mn := 223) (np := 0) (ob := true) (ci := 11) (⟨"NameNotesModel", "isName", "()Z"⟩, prog_14_method_22_code, 2, (Option.some Jvm.ClassFile.FieldType.boolean), 0, true, 1) rfl (by decide +kernel) rfl rfl (by decide) (fun _ => ⟨_, _, rfl⟩) (fm_m_isName hinj), (List.forall_mem_cons.mpr ⟨fw_row nn_PM20_ok (x := 203) (k := 0) (mn := 224) (np := 4) (ob := false) (ci := 0) (⟨"NameNotesModel", "findIn", "([JIIJ)I"⟩, prog_14_method_29_code, 6, (Option.some Jvm.ClassFile.FieldType.int), 4, false, 0) rfl (by decide +kernel) rfl rfl (by decide) (fun q => by cases q) (fm_m_findIn99 hinj), (List.forall_mem_cons.mpr ⟨fw_row nn_PM20_ok (x := 225) (k := 0) (mn := 217) (np := 1) (ob := true) (ci := 11) (⟨"NameNotesModel", "isWord", "(I)Z"⟩, prog_14_method_20_code, 2, (Option.some Jvm.ClassFile.FieldType.boolean), 1, true, 1) rfl (by decide +kernel) rfl rfl (by decide) (fun _ => ⟨_, _, rfl⟩) (fm_m_isWord hinj), (List.forall_mem_cons.mpr ⟨fw_row nn_PM20_ok (x := 246) (k := 0) (mn := 235) (np := 0) (ob := true) (ci := 11) (⟨"NameNotesModel", "readEnd", "()Z"⟩, prog_14_method_26_code, 1, (Option.some Jvm.ClassFile.FieldType.boolean), 0, true, 1) rfl (by decide +kernel) rfl rfl (by decide) (fun _ => ⟨_, _, rfl⟩) (fm_m_readEndP hinj), (fun _ h => absurd h List.not_mem_nil)⟩)⟩)⟩)⟩)⟩)⟩) (fun as σ K h => by
  obtain ⟨A, e, rfl, hN, hm, h0, h1⟩ := h
  have m1 : fw_c (-1) = -1 := fw_s (by decide) (by decide)
  have t1 : (fw_c 1).toNat = 1 := by rw [fw_c1]; rfl
  have n12 := hN.1.2.1
  refine ⟨rfl, fun G hG => fs_m_readHeard_0 hG ⟨1, e, 0, rfl, by decide, hm.1, ?_⟩⟩
  show G 5 _ [(0, 0, fw_bo (tw e 0 = ((1 : Nat) : Int)))] σ
  by_cases hw : tw e 0 = 1
  · rw [fw_bo_t (show tw e 0 = ((1 : Nat) : Int) from hw)]
    refine fs_m_readHeard_5 hG ⟨fun _ => mt_go hm (fun σ1 M1 hm1 => fs_m_readHeard_18 hG ⟨e, tn e 0, rfl, hm1.1, fs_m_readHeard_22 hG ⟨fun z => ?_, fun z => ?_⟩⟩), fun w => absurd (fw_c1.symm.trans w) (by decide)⟩
    · have hq := fw_bo_ne z
      have N1 : NM σ1 A := ev_NM M1 (by decide +kernel) hN
      have M1b : ab_okM ((93, 53) :: mp_M) σ σ1 := fw_okM_tr (fw_okM_refl _ _) M1 (by decide)
      have ek : pr_sk A e 58 (A 49 12) (tn e 0) = if pr_ix A e 58 (A 49 12) (tn e 0) < 0 then 3 else 0 := if_pos hq
      rw [t1, fw_c1, (NM_n N1).2.1]
      refine ⟨by decide, mf_find (b := 9) hm1 hq.1 ⟨n12.1, by omega, by omega⟩ (rm_12 N1) (fs_m_readHeard_51 hG ?_)⟩
      have hl := rw_fd_le (A 58) (pr_wd e (tn e 0)) (A 49 12).toNat 0
      replace hl : pr_ix A e 58 (A 49 12) (tn e 0) < 0 ∨ (((0 : Nat) : Int) ≤ pr_ix A e 58 (A 49 12) (tn e 0) ∧ pr_ix A e 58 (A 49 12) (tn e 0) < ((0 : Nat) : Int) + (A 49 12).toNat) := hl
      by_cases y : pr_ix A e 58 (A 49 12) (tn e 0) < 0
      · rw [if_pos y] at ek
        have eg : ev_h A e = (3, ev_st e (tn e 0)) := by
          unfold ev_h
          rw [if_neg (fun w => w hw), if_pos (by rw [ek]; decide), ek]
        rw [eg] at h0
        have ix : pr_ix A e 58 (A 49 12) (tn e 0) = -1 := by
          have g : ∀ (f i : Nat), rw_fd (A 58) (pr_wd e (tn e 0)) f i < 0 → rw_fd (A 58) (pr_wd e (tn e 0)) f i = -1 := by
            intro f
            induction f with
            | zero => intro i _; rfl
            | succ f ih =>
              intro i hh
              unfold rw_fd at hh ⊢
              split at hh
              · omega
              · rename_i c
                rw [if_neg c]
                exact ih (i + 1) hh
          exact g _ _ y
        have hm2 : mt_is (ab_ups σ1 93 53 (fw_c (pr_ix A e 58 (A 49 12) (tn e 0)))) e (tn e 0) := mt_ups hm1 (Or.inr ⟨rfl, by decide⟩)
        refine ⟨fun w => absurd (by rw [ix, fw_c_c]) w, fun _ => mp_bad hm2.1 (by decide) (fun σ' hM h10 h11 => fs_m_readHeard_67 hG ⟨fw_01, h0 (show (3 : Int) ≠ 0 by decide) σ' (fw_okM_tr (fw_okM_ups M1b (by decide)) hM (by decide)) ?_ h11⟩)⟩
        have k := (mg_kind hm2.1).1.mpr hq.1
        rw [h10, if_neg (by omega)]
      · rw [if_neg y] at ek
        have cx : fw_c (pr_ix A e 58 (A 49 12) (tn e 0)) = pr_ix A e 58 (A 49 12) (tn e 0) := fw_s (by omega) (by omega)
        rw [cx, cx, m1]
        have hm2 : mt_is (ab_ups σ1 93 53 (pr_ix A e 58 (A 49 12) (tn e 0))) e (tn e 0) := mt_ups hm1 (Or.inr ⟨rfl, by decide⟩)
        refine ⟨fun _ => mt_go hm2 (fun σ2 M2 hm3 => fs_m_readHeard_72 hG ⟨e, _, rfl, hm3, fun z σ' hM h10 h11 => ?_, fun z σ3 M3 hm4 => ?_⟩), fun w => absurd w (by omega)⟩
        · have eg : ev_h A e = (1, ev_st e (tn e (tn e 0))) := by
            unfold ev_h
            rw [if_neg (fun w => w hw), if_neg (fun w => w ek), if_pos z]
          rw [eg] at h0
          exact fs_m_readHeard_76 hG ⟨fw_01, h0 (show (1 : Int) ≠ 0 by decide) σ' (ev_tr (ev_tr (fw_okM_ups M1b (by decide)) (ev_up M2 (by decide))) (ev_up hM (by decide))) h10 h11⟩
        · have eg : (ev_h A e).1 = 0 := by
            unfold ev_h
            rw [if_neg (fun w => w hw), if_neg (fun w => w ek), if_neg (fun w => w z)]
          exact fs_m_readHeard_76 hG ⟨fw_11, h1 eg σ3 (ev_tr (ev_tr (fw_okM_ups M1b (by decide)) (ev_up M2 (by decide))) (ev_up M3 (by decide))) hm4 ((mk_at M3 (k := 93) (j := 53) (by decide)).trans ((mk_at M2 (k := 93) (j := 53) (by decide)).trans ab_ups_eq))⟩
    · have hq := fw_bo_eq z
      have eg : ev_h A e = (1, ev_st e (tn e 0)) := by
        have ek : pr_sk A e 58 (A 49 12) (tn e 0) = 1 := if_neg hq
        unfold ev_h
        rw [if_neg (fun w => w hw), if_pos (by rw [ek]; decide), ek]
      rw [eg] at h0
      refine mp_bad hm1.1 (by decide) (fun σ' hM h10 h11 => fs_m_readHeard_30 hG ⟨fw_01, h0 (show (1 : Int) ≠ 0 by decide) σ' (fw_okM_tr (fw_okM_tr (fw_okM_refl _ _) M1 (by decide)) hM (by decide)) ?_ h11⟩)
      rw [h10]
      split <;> rfl
  · rw [fw_bo_f (show ¬ tw e 0 = ((1 : Nat) : Int) from hw)]
    have eg : ev_h A e = (1, ev_st e 0) := by
      unfold ev_h
      rw [if_pos hw]
    rw [eg] at h0
    refine fs_m_readHeard_5 hG ⟨fun w => absurd fw_c0 w, fun _ => mp_bad hm.1 (by decide) (fun σ' hM h10 h11 => fs_m_readHeard_13 hG ⟨fw_01, h0 (show (1 : Int) ≠ 0 by decide) σ' (fw_okM_tr (fw_okM_refl _ _) hM (by decide)) ?_ h11⟩)⟩
    rw [h10]
    split <;> rfl)
theorem fm_m_evening (hinj : nn_inj ad) : fw_H l cy ad wr cr D 325 5 sp_m_evening := fw_mk hinj (⟨"NameNotesModel", "evening", "()I"⟩, prog_14_method_127_code, 1, (Option.some Jvm.ClassFile.FieldType.int), 0, true, 0) rfl rfl nn_KI20_ok nn_KJ20_ok nn_PF20_ok nn_PS20_ok (by decide +kernel) rfl rfl (List.forall_mem_cons.mpr ⟨fw_row nn_PM20_ok (x := 249) (k := 0) (mn := 209) (np := 1) (ob := true) (ci := 11) (⟨"NameNotesModel", "begin", "(I)V"⟩, prog_14_method_27_code, 2, (Option.none : Option Jvm.ClassFile.FieldType), 1, true, 4) rfl (by decide +kernel) rfl rfl (by decide) (fun _ => ⟨_, _, rfl⟩) (fm_m_begin hinj), (List.forall_mem_cons.mpr ⟨fw_row nn_PM20_ok (x := 457) (k := 0) (mn := 326) (np := 0) (ob := true) (ci := 11) (⟨"NameNotesModel", "readHeard", "()Z"⟩, prog_14_method_126_code, 1, (Option.some Jvm.ClassFile.FieldType.boolean), 0, true, 1) rfl (by decide +kernel) rfl rfl (by decide) (fun _ => ⟨_, _, rfl⟩) (fm_m_readHeard hinj), (List.forall_mem_cons.mpr ⟨fw_row nn_PM20_ok (x := 460) (k := 0) (mn := 327) (np := 0) (ob := true) (ci := 11) (⟨"NameNotesModel", "readBid", "()Z"⟩, prog_14_method_125_code, 3, (Option.some Jvm.ClassFile.FieldType.boolean), 0, true, 1) rfl (by decide +kernel) rfl rfl (by decide) (fun _ => ⟨_, _, rfl⟩) (fm_m_readBid hinj), (fun _ h => absurd h List.not_mem_nil)⟩)⟩)⟩) (fun as σ K h => by
  obtain ⟨A, t, rfl, hb, ht, hly, hN0, hf, hg⟩ := h
  have m1 : fw_c (-1) = -1 := fw_s (by decide) (by decide)
  have c2 : fw_c 2 = 2 := fw_s (by decide) (by decide)
  have c3 : fw_c 3 = 3 := fw_s (by decide) (by decide)
  have c4 : fw_c 4 = 4 := fw_s (by decide) (by decide)
  have t0 : (fw_c 0).toNat = 0 := by rw [fw_c0]; rfl
  have t1 : (fw_c 1).toNat = 1 := by rw [fw_c1]; rfl
  have t2 : (fw_c 2).toNat = 2 := by rw [c2]; rfl
  have t3 : (fw_c 3).toNat = 3 := by rw [c3]; rfl
  have t4 : (fw_c 4).toNat = 4 := by rw [c4]; rfl
  have T1 : ∀ {σ : ab_SG} {k j a b : Nat} {v : Int}, (a ≠ k ∨ b ≠ j) → (ab_ups σ k j v) a b = σ a b := fun hh => ab_ups_ne (fun z => hh.elim (fun y => y z.1) (fun y => y z.2))
  have up2 : ∀ {τ τ' : ab_SG} {j : Nat} {v : Int}, j ≠ 22 → ly_is τ τ' → ly_is τ (ab_ups τ' 93 j v) := fun hj h => ⟨(T1 (Or.inr (fun z => hj z.symm))).trans h.1, fun y => (T1 (Or.inl (by decide))).trans (h.2.1 y), fun y => (T1 (Or.inl (by decide))).trans (h.2.2 y)⟩
  refine ⟨rfl, fun G hG => fs_m_evening_0 hG ⟨400, t, rfl, by decide, hb, ht, hly, fun σ1 M1 hm1 l1 z1 _ => fs_m_evening_7 hG ?_⟩⟩
  generalize he : ((t, (σ 93 2).toNat, 400) : tk_E) = e at hf hg hm1
  have e940 : e.2.1 ≤ 940 := by
    rw [← he]
    show (σ 93 2).toNat ≤ 940
    omega
  obtain ⟨N1, f1⟩ := NM_ly M1 l1 hN0
  have M1b : ab_okM mf_N σ σ1 := fw_okM_tr (fw_okM_refl _ _) M1 (by decide)
  have M1c : ∀ {τ : ab_SG} {M : ab_ML}, ab_okM M σ1 τ → M.all (fun q => q.1.beq 93 && Nat.ble 5 q.2 && Nat.ble q.2 21 || q.1.beq 93 && Nat.ble 23 q.2 && Nat.ble q.2 100) = true → ly_is σ τ ∧ τ 93 2 = 0 := fun {τ M} hM hm => by
    have r : ∀ a b : Nat, a ≠ 93 ∨ b = 22 ∨ b < 5 → τ a b = σ1 a b := fun a b hab => hM a b (fun q hq w => by
      have g := List.all_eq_true.mp hm q hq
      rw [Bool.or_eq_true, Bool.and_eq_true, Bool.and_eq_true, Bool.and_eq_true, Bool.and_eq_true] at g
      rcases g with g | g
      · have g1 := Nat.eq_of_beq_eq_true g.1.1
        have g2 := Nat.le_of_ble_eq_true g.1.2
        have g3 := Nat.le_of_ble_eq_true g.2
        rcases w.2 with y | y <;> omega
      · have g1 := Nat.eq_of_beq_eq_true g.1.1
        have g2 := Nat.le_of_ble_eq_true g.1.2
        have g3 := Nat.le_of_ble_eq_true g.2
        rcases w.2 with y | y <;> omega)
    exact ⟨⟨(r 93 22 (by decide)).trans l1.1, fun y => (r 95 3 (by decide)).trans (l1.2.1 y), fun y => (r 95 3 (by decide)).trans (l1.2.2 y)⟩, (r 93 2 (by decide)).trans z1⟩
  refine ⟨A, e, rfl, N1, hm1, fun q σ' M' h10 h11 => ?_, fun q σ2 M2 hm2 e53 => ?_⟩
  · have k := M1c M' (by decide)
    have er : ev_r A e = ((ev_h A e).1, (ev_h A e).2, 0) := ev_r1 q
    refine fs_m_evening_11 hG ⟨fun w => absurd fw_c0 w, fun _ => ?_⟩
    have g := hf (by rw [er]; exact q) σ' (ev_tr M1b (ev_up M' (by decide))) k.2 k.1 (by rw [er]; exact h10)
    unfold v_ev at g
    rw [if_pos (by rw [er]; exact q), er] at g
    rw [h11]
    exact g
  · have er : ev_r A e = ev_a A e 400 0 := ev_r2 q
    have k2 := M1c M2 (by decide)
    have N2 : NM σ2 A := ev_NM M2 (by decide +kernel) N1
    have f2 : σ2 95 3 = A 49 14 := (mk_row M2 (k := 95) (by decide) 3).trans f1
    refine fs_m_evening_11 hG ⟨fun _ => ?_, fun w => absurd (fw_c1.symm.trans w) (by decide)⟩
    rw [fw_c0, fw_c1, m1]
    have q0 := ev_q0 (A := A) (e := e) q
    have M3 : ab_okM ((93, 53) :: mb_M) σ1 (ab_ups (ab_ups (ab_ups (ab_ups (ab_ups (ab_ups (ab_ups σ2 93 43 1) 93 44 0) 93 45 (-1)) 93 46 0) 93 47 (-1)) 93 48 (-1)) 93 49 (-1)) := fw_okM_ups (fw_okM_ups (fw_okM_ups (fw_okM_ups (fw_okM_ups (fw_okM_ups (fw_okM_ups (ev_up M2 (by decide)) (by decide)) (by decide)) (by decide)) (by decide)) (by decide)) (by decide)) (by decide)
    have hm3 : mt_is (ab_ups (ab_ups (ab_ups (ab_ups (ab_ups (ab_ups (ab_ups σ2 93 43 1) 93 44 0) 93 45 (-1)) 93 46 0) 93 47 (-1)) 93 48 (-1)) 93 49 (-1)) e (ev_q e 0) := mt_ups (mt_ups (mt_ups (mt_ups (mt_ups (mt_ups (mt_ups hm2 (Or.inr ⟨rfl, by decide⟩)) (Or.inr ⟨rfl, by decide⟩)) (Or.inr ⟨rfl, by decide⟩)) (Or.inr ⟨rfl, by decide⟩)) (Or.inr ⟨rfl, by decide⟩)) (Or.inr ⟨rfl, by decide⟩)) (Or.inr ⟨rfl, by decide⟩)
    have J3 : jm_is (ab_ups (ab_ups (ab_ups (ab_ups (ab_ups (ab_ups (ab_ups σ2 93 43 1) 93 44 0) 93 45 (-1)) 93 46 0) 93 47 (-1)) 93 48 (-1)) 93 49 (-1)) (jg_n A e 0) := by
      refine ⟨?_, ?_, ?_, ?_, ?_, ?_⟩
      · rw [T1 (by decide), T1 (by decide), T1 (by decide), T1 (by decide), T1 (by decide), ab_ups_eq]
        rfl
      · rw [T1 (by decide), T1 (by decide), T1 (by decide), T1 (by decide), ab_ups_eq]
        rfl
      · rw [T1 (by decide), T1 (by decide), T1 (by decide), ab_ups_eq]
        rfl
      · rw [T1 (by decide), T1 (by decide), ab_ups_eq]
        rfl
      · rw [T1 (by decide), ab_ups_eq]
        rfl
      · rw [ab_ups_eq]
        rfl
    have g43 : (ab_ups (ab_ups (ab_ups (ab_ups (ab_ups (ab_ups (ab_ups σ2 93 43 1) 93 44 0) 93 45 (-1)) 93 46 0) 93 47 (-1)) 93 48 (-1)) 93 49 (-1)) 93 43 = 1 := by
      rw [T1 (by decide), T1 (by decide), T1 (by decide), T1 (by decide), T1 (by decide), T1 (by decide), ab_ups_eq]
    have g53 : (ab_ups (ab_ups (ab_ups (ab_ups (ab_ups (ab_ups (ab_ups σ2 93 43 1) 93 44 0) 93 45 (-1)) 93 46 0) 93 47 (-1)) 93 48 (-1)) 93 49 (-1)) 93 53 = ev_c A e := by
      rw [T1 (by decide), T1 (by decide), T1 (by decide), T1 (by decide), T1 (by decide), T1 (by decide), T1 (by decide)]
      exact e53
    generalize ab_ups (ab_ups (ab_ups (ab_ups (ab_ups (ab_ups (ab_ups σ2 93 43 1) 93 44 0) 93 45 (-1)) 93 46 0) 93 47 (-1)) 93 48 (-1)) 93 49 (-1) = σ3 at M3 hm3 J3 g43 g53 ⊢
    have loop : ∀ (f i : Nat) (τ : ab_SG), i + f = 400 → ab_okM ((93, 53) :: mb_M) σ1 τ → mt_is τ e (ev_q e i) → 4 * i + 4 ≤ ev_q e i → τ 93 53 = ev_c A e → jm_is τ (jg_n A e i) → τ 93 43 = (i : Int) + 1 → (∀ j : Nat, j < i → (ev_g A e (ev_q e j)).1 = 0) → ev_r A e = ev_a A e f i → G 57 [some (2, 93, 0)] [] τ := by
      intro f
      induction f with
      | zero =>
        intro i τ hi M hm hq _ _ _ _ _
        have := hm.2.2.2.2.1
        omega
      | succ f ih =>
        intro i τ hi M hm hq h53 J h43 hl hr
        have k := M1c M (by decide)
        have B := jg_nB hN0.1 (e := e) i (by omega) hl
        have kk := mg_kind hm.1
        have c7 : fw_c (τ 93 7) = τ 93 7 := fw_s (by omega) (by omega)
        refine fs_m_evening_57 hG ?_
        rw [c7]
        refine ⟨fun z => ?_, fun z => ?_⟩
        · have z0 := kk.2.2.2.1.mp z
          rw [ev_a0 z0] at hr
          have M9 : ab_okM me_N σ τ := ev_tr (ev_up M1b (by decide)) (ev_up M (by decide))
          have e954 : τ 95 4 = σ 95 4 := (mk_row M (k := 95) (by decide) 4).trans (M1 95 4 (by decide))
          obtain ⟨j1, j2, j3, j4, j5, j6⟩ := J
          rw [t0, t1, t2, t3, t4, c2, c3, c4, fw_c0, fw_c1, m1, j1, j3, j4, j5, j6, e954]
          generalize hs : jg_n A e i = s at B j1 j2 j3 j4 j5 j6
          obtain ⟨why, wr, b, d, m, tt⟩ := s
          obtain ⟨b1, b2, b3, b4, b5, b6, -⟩ := B
          replace b1 : 0 ≤ why ∧ why ≤ 4 := b1
          replace b3 : 0 ≤ b ∧ b ≤ 9 := b3
          replace b4 : -1 ≤ d ∧ d ≤ 4 := b4
          replace b5 : -1 ≤ m ∧ m ≤ 4 := b5
          replace b6 : -1 ≤ tt ∧ tt ≤ 4 := b6
          replace j2 : τ 93 45 = wr := j2
          have cw : fw_c why = why := fw_s (by omega) (by omega)
          have cb : fw_c b = b := fw_s (by omega) (by omega)
          have cd : fw_c d = d := fw_s (by omega) (by omega)
          have cm : fw_c m = m := fw_s (by omega) (by omega)
          have ct : fw_c tt = tt := fw_s (by omega) (by omega)
          show ((0 : Int) ≤ 0 ∧ (0 : Int) < ((5 : Nat) : Int)) ∧ True ∧ ((0 : Int) ≤ 1 ∧ (1 : Int) < ((5 : Nat) : Int)) ∧ True ∧ ((0 : Int) ≤ 2 ∧ (2 : Int) < ((5 : Nat) : Int)) ∧ True ∧ ((0 : Int) ≤ 3 ∧ (3 : Int) < ((5 : Nat) : Int)) ∧ True ∧ ((0 : Int) ≤ 4 ∧ (4 : Int) < ((5 : Nat) : Int)) ∧ True ∧ (fw_c why ≠ 0 → G 154 [some (2, 93, 0)] [(2, 93, 0)] (ab_ups (ab_ups (ab_ups (ab_ups (ab_ups τ 117 0 (fw_c why)) 117 1 (fw_c b)) 117 2 (fw_c d)) 117 3 (fw_c m)) 117 4 (fw_c tt))) ∧ (fw_c why = 0 → (fw_c m = -1 → G 154 [some (2, 93, 0)] [(2, 93, 0)] (ab_ups (ab_ups (ab_ups (ab_ups (ab_ups τ 117 0 (fw_c why)) 117 1 (fw_c b)) 117 2 (fw_c d)) 117 3 (fw_c m)) 117 4 (fw_c tt))) ∧ (fw_c m ≠ -1 → ((0 : Int) ≤ 4 ∧ (4 : Int) < ((474 : Nat) : Int)) ∧ G 155 [some (2, 93, 0)] [(0, 0, σ 95 4), (2, 93, 0)] (ab_ups (ab_ups (ab_ups (ab_ups (ab_ups τ 117 0 (fw_c why)) 117 1 (fw_c b)) 117 2 (fw_c d)) 117 3 (fw_c m)) 117 4 (fw_c tt))))
          rw [cw, cb, cd, cm, ct]
          have out : ∀ v : Int, fw_c v = (if why = 0 ∧ m ≠ -1 then fw_c (σ 95 4) else -1) → G 155 [some (2, 93, 0)] [(0, 0, v), (2, 93, 0)] (ab_ups (ab_ups (ab_ups (ab_ups (ab_ups τ 117 0 why) 117 1 b) 117 2 d) 117 3 m) 117 4 tt) := by
            intro v ev
            refine fs_m_evening_155 hG ?_
            have cc : fw_c (ev_c A e) = ev_c A e := by
              have u := pr_sk_0 (ev_h0 q).2.1
              have n12 := hN0.1.2.1
              show fw_c (pr_ix A e 58 (A 49 12) (tn e 0)) = pr_ix A e 58 (A 49 12) (tn e 0)
              exact fw_s (by omega) (by omega)
            have x53 : (ab_ups (ab_ups (ab_ups (ab_ups (ab_ups τ 117 0 why) 117 1 b) 117 2 d) 117 3 m) 117 4 tt) 93 53 = ev_c A e := by
              rw [T1 (by decide), T1 (by decide), T1 (by decide), T1 (by decide), T1 (by decide)]
              exact h53
            have x45 : (ab_ups (ab_ups (ab_ups (ab_ups (ab_ups τ 117 0 why) 117 1 b) 117 2 d) 117 3 m) 117 4 tt) 93 45 = wr := by
              rw [T1 (by decide), T1 (by decide), T1 (by decide), T1 (by decide), T1 (by decide)]
              exact j2
            rw [x53, x45, cc, ev]
            rw [hr, hs] at hg
            have q2 : (ab_ups (ab_ups (ab_ups (ab_ups (ab_ups (ab_ups (ab_ups τ 117 0 why) 117 1 b) 117 2 d) 117 3 m) 117 4 tt) 93 51 (if why = 0 ∧ m ≠ -1 then fw_c (σ 95 4) else -1)) 93 52 (ev_c A e)) 93 2 = 0 := by
              rw [T1 (by decide), T1 (by decide), T1 (by decide), T1 (by decide), T1 (by decide), T1 (by decide), T1 (by decide)]
              exact k.2
            have ql : ly_is σ (ab_ups (ab_ups (ab_ups (ab_ups (ab_ups τ 117 0 why) 117 1 b) 117 2 d) 117 3 m) 117 4 tt) := ⟨by rw [T1 (by decide), T1 (by decide), T1 (by decide), T1 (by decide), T1 (by decide)]; exact k.1.1, fun y => by rw [T1 (by decide), T1 (by decide), T1 (by decide), T1 (by decide), T1 (by decide)]; exact k.1.2.1 y, fun y => by rw [T1 (by decide), T1 (by decide), T1 (by decide), T1 (by decide), T1 (by decide)]; exact k.1.2.2 y⟩
            have q10 : (ab_ups (ab_ups (ab_ups (ab_ups (ab_ups (ab_ups (ab_ups τ 117 0 why) 117 1 b) 117 2 d) 117 3 m) 117 4 tt) 93 51 (if why = 0 ∧ m ≠ -1 then fw_c (σ 95 4) else -1)) 93 52 (ev_c A e)) 93 10 = 0 := by
              rw [T1 (by decide), T1 (by decide), T1 (by decide), T1 (by decide), T1 (by decide), T1 (by decide), T1 (by decide)]
              exact hm.2.2.2.2.2.1
            have qj : jh_is (ab_ups (ab_ups (ab_ups (ab_ups (ab_ups (ab_ups (ab_ups τ 117 0 why) 117 1 b) 117 2 d) 117 3 m) 117 4 tt) 93 51 (if why = 0 ∧ m ≠ -1 then fw_c (σ 95 4) else -1)) 93 52 (ev_c A e)) (why, wr, b, d, m, tt) := by
              refine ⟨?_, ?_, ?_, ?_, ?_⟩
              · rw [T1 (by decide), T1 (by decide), T1 (by decide), T1 (by decide), T1 (by decide), T1 (by decide), ab_ups_eq]
              · rw [T1 (by decide), T1 (by decide), T1 (by decide), T1 (by decide), T1 (by decide), ab_ups_eq]
              · rw [T1 (by decide), T1 (by decide), T1 (by decide), T1 (by decide), ab_ups_eq]
              · rw [T1 (by decide), T1 (by decide), T1 (by decide), ab_ups_eq]
              · rw [T1 (by decide), T1 (by decide), ab_ups_eq]
            have q51 : (ab_ups (ab_ups (ab_ups (ab_ups (ab_ups (ab_ups (ab_ups τ 117 0 why) 117 1 b) 117 2 d) 117 3 m) 117 4 tt) 93 51 (if why = 0 ∧ m ≠ -1 then fw_c (σ 95 4) else -1)) 93 52 (ev_c A e)) 93 51 = (if why = 0 ∧ m ≠ -1 then fw_c (σ 95 4) else -1) := by
              rw [T1 (by decide), ab_ups_eq]
            have g := hg rfl (ab_ups (ab_ups (ab_ups (ab_ups (ab_ups (ab_ups (ab_ups τ 117 0 why) 117 1 b) 117 2 d) 117 3 m) 117 4 tt) 93 51 (if why = 0 ∧ m ≠ -1 then fw_c (σ 95 4) else -1)) 93 52 (ev_c A e)) (fw_okM_ups (fw_okM_ups (fw_okM_upa (fw_okM_upa (fw_okM_upa (fw_okM_upa (fw_okM_upa M9 (by decide)) (by decide)) (by decide)) (by decide)) (by decide)) (by decide)) (by decide)) q2 (up2 (by decide) (up2 (by decide) ql)) q10 qj q51 ab_ups_eq
            unfold v_ev at g
            rw [hr, if_neg (fun y => y rfl)] at g
            replace g : K (some (0, 0, (jg_n A e i).2.1)) (ab_ups (ab_ups (ab_ups (ab_ups (ab_ups (ab_ups (ab_ups τ 117 0 why) 117 1 b) 117 2 d) 117 3 m) 117 4 tt) 93 51 (if why = 0 ∧ m ≠ -1 then fw_c (σ 95 4) else -1)) 93 52 (ev_c A e)) := g
            rw [hs] at g
            exact g
          refine ⟨by decide, trivial, by decide, trivial, by decide, trivial, by decide, trivial, by decide, trivial, fun w => fs_m_evening_154 hG (out (-1) ?_), fun w => ⟨fun w2 => fs_m_evening_154 hG (out (-1) ?_), fun w2 => ⟨by decide, out _ ?_⟩⟩⟩
          · rw [if_neg (fun y => w y.1), m1]
          · rw [if_neg (fun y => y.2 w2), m1]
          · rw [if_pos ⟨w, w2⟩]
        · have z0 : (tk e (ev_q e i)).1 ≠ 0 := fun y => z (kk.2.2.2.1.mpr y)
          have Nt : NM τ A := ev_NM M (by decide +kernel) N1
          refine ⟨A, e, ev_q e i, i, jg_n A e i, rfl, Nt, hm, J, B, ⟨h43, by omega⟩, (mk_row M (k := 95) (by decide) 3).trans f1, fun y σ' M' h10 h11 => ?_, fun y σ' M' hm' J' h43' => ?_⟩
          · have er2 : ev_r A e = ((ev_g A e (ev_q e i)).1, (ev_g A e (ev_q e i)).2, i) := by rw [hr, ev_a1 z0 y]
            have M9 : ab_okM ((93, 53) :: mb_M) σ1 σ' := ev_tr M (ev_up M' (by decide))
            have k9 := M1c M9 (by decide)
            refine fs_m_evening_68 hG ⟨fun w => absurd fw_c0 w, fun _ => ?_⟩
            have g := hf (by rw [er2]; exact y) σ' (ev_tr M1b (ev_up M9 (by decide))) k9.2 k9.1 (by rw [er2]; exact h10)
            unfold v_ev at g
            rw [if_pos (by rw [er2]; exact y), er2] at g
            rw [h11]
            exact g
          · refine fs_m_evening_68 hG ⟨fun _ => ?_, fun w => absurd (fw_c1.symm.trans w) (by decide)⟩
            have q4 := ev_q4 (A := A) hm.2.2.2.2.1 y
            exact ih (i + 1) σ' (by omega) (ev_tr M (ev_up M' (by decide))) hm' (by rw [ev_qs]; omega) ((mk_at M' (k := 93) (j := 53) (by decide)).trans h53) J' h43' (fun j hj => by
              by_cases c : j = i
              · rw [c]
                exact y
              · exact hl j (by omega)) (hr.trans (ev_a2 z0 y))
    exact loop 400 0 σ3 rfl M3 hm3 (by omega) g53 J3 g43 (fun j hj => absurd hj (Nat.not_lt_zero j)) er)
end
end
section
/-! the relation over an evening -/
abbrev eo (σ : ab_SG) : tk_E := (tp_t σ, (σ 1 1).toNat, 400)
def evC (A σ σ' : ab_SG) : Prop := ((ev_r A (eo σ)).1 ≠ 0 ∧ ab_okM ef_M σ σ' ∧ σ' 1 9 = (ev_r A (eo σ)).1) ∨ ((ev_r A (eo σ)).1 = 0 ∧ σ' 1 9 = 0 ∧ jc_is σ' (jg_n A (eo σ) (ev_r A (eo σ)).2.2) ∧ σ' 69 5 = ev_c A (eo σ) ∧ σ' 69 6 = fw_c (σ 3 15) ∧ σ' 69 7 = 1)
def evM (A : ab_SG) (e : tk_E) (σ σ' : ab_SG) : Prop := ((ev_r A e).1 ≠ 0 ∧ ab_okM mf_N σ σ' ∧ σ' 93 10 = (ev_r A e).1) ∨ ((ev_r A e).1 = 0 ∧ σ' 93 10 = 0 ∧ jh_is σ' (jg_n A e (ev_r A e).2.2) ∧ σ' 93 51 = (if (jg_n A e (ev_r A e).2.2).1 = 0 ∧ (jg_n A e (ev_r A e).2.2).2.2.2.2.1 ≠ -1 then fw_c (σ 95 4) else -1) ∧ σ' 93 52 = ev_c A e)
def k_evening (A σ σ' : ab_SG) : Prop := ab_okM en_M σ σ' ∧ σ' 1 1 = 0 ∧ evC A σ σ'
def km_evening (A : ab_SG) (e : tk_E) (σ σ' : ab_SG) : Prop := ab_okM me_N σ σ' ∧ σ' 93 2 = 0 ∧ ly_is σ σ' ∧ evM A e σ σ'
theorem sk_evening {σ A : ab_SG} (h : ra σ) (hN : NC σ A) : sp_evening [(2, 0, 0)] σ (fun rv σ' => k_evening A σ σ' ∧ rv = some (0, 0, v_ev A (eo σ))) :=
  ⟨A, rfl, ⟨h.2.1, h.2.2.1⟩, hN, fun q _ M b c => ⟨⟨ev_up M (by decide), b, Or.inl ⟨q, M, c⟩⟩, rfl⟩, fun q _ M b c J a5 a6 a7 => ⟨⟨M, b, Or.inr ⟨q, c, J, a5, a6, a7⟩⟩, rfl⟩⟩
theorem NM_V {M : ab_ML} {σ σ1 σm A : ab_SG} (hc : cN σ) (hi : RI A) (hn : nb_is A) (hs : sr_is (mlN σ) (σ 99) A) (h1 : ab_okM M σ σ1) (hv : vW σm σ1) (m95 : M.all (fun q => !(q.1.beq 95)) = true) (m99 : M.all (fun q => !(q.1.beq 99)) = true) (m22 : mk_b M 93 22 = true) : NM σm A :=
  ⟨hi, hn, sr_cong hi (fun j hj _ => mlN_same (xm_at hc h1 hv (Or.inl (su93 (Or.inr rfl))) m22) (fun j hj => xm_at hc h1 hv (Or.inr (swr (by decide) hj)) (off_mk m95 j)) j hj) (fun j hj => xm_l hc h1 hv (slr (by decide) hj) (off_mk m99 j)) hs⟩
theorem ev_82 {A σ σ1 σm : ab_SG} (hc : cN σ) (hR : RQ σ) (h1 : k_evening A σ σ1) (hv : vW σm σ1) : σm 93 2 = σ 1 1 :=
  (mid_at (cn_N hc) h1.1 (vw_W hv) (su93 (Or.inl rfl)) (by decide)).trans hR.1.1.1.symm
theorem sm_evening {A σ σ1 σm : ab_SG} (hc : cN σ) (hR : RQ σ) (hi : RI A) (hn : nb_is A) (hs : sr_is (mlN σ) (σ 99) A) (h1 : k_evening A σ σ1) (hv : vW σm σ1) : sp_m_evening [(2, 93, 0)] σm (fun rv σ' => km_evening A (eo σ) σm σ' ∧ rv = some (0, 0, v_ev A (eo σ))) := by
  have e2 := ev_82 hc hR h1 hv
  have e22 : σm 93 22 = σ 93 22 := mid_at (cn_N hc) h1.1 (vw_W hv) (su93 (Or.inr rfl)) (by decide)
  have hN := NM_V hc hi hn hs h1.1 hv (by decide) (by decide) (by decide)
  obtain ⟨⟨⟨r1, r2, r3, r4⟩, rB, -⟩, -⟩ := hR
  refine ⟨A, tp_t σ, rfl, ⟨by omega, by omega⟩, fun j hj => ?_, ?_, hN, fun q σ' M z2 l c => ?_, fun q σ' M z2 l c J a b => ?_⟩
  · have hj9 : j < 940 := by omega
    refine ⟨?_, (tp_t_in σ j).1, (tp_t_in σ j).2⟩
    rw [mid_row (cn_N hc) h1.1 (vw_W hv) (k := 94) (by decide) j (su94 hj9)]
    exact (r4 j (by omega)).symm
  · unfold ly_ok
    rw [e22]
    exact ly_of rB
  · rw [e2] at q c ⊢
    exact ⟨⟨ev_up M (by decide), z2, l, Or.inl ⟨q, M, c⟩⟩, rfl⟩
  · rw [e2] at q J a b ⊢
    exact ⟨⟨M, z2, l, Or.inr ⟨q, c, J, a, b⟩⟩, rfl⟩
theorem RQ_evening {A : ab_SG} {e : tk_E} {σ σ1 σm σ2 σ5 : ab_SG} (hc : cN σ) (hR : RQ σ) (h1 : k_evening A σ σ1) (hv : vW σm σ1) (h2 : km_evening A e σm σ2) (hw : vW σ5 σ2) : RQ σ5 := by
  obtain ⟨g2, g3, -⟩ := h1
  obtain ⟨q2, q3, q4, -⟩ := h2
  refine ⟨RQ9_tr (vw_W hw) ⟨?_, rb_two_ly (cn_N hc) g2 (vw_W hv) q2 (by decide) (by decide) (by decide) q4 hR.1.2.1, rk_two (cn_N hc) g2 (vw_W hv) q2 (by decide) (by decide) hR.1.2.2⟩, rx_two_ly hc g2 hv q2 hw (by decide +kernel) (by decide +kernel) q4 hR.2⟩
  have e11 : σ2 1 1 = 0 := by
    rw [mk_at q2 (k := 1) (j := 1) (by decide), (vw_W hv) 1 1 su1, g3]
    exact fw_c_id (by decide) (by decide)
  exact ⟨by rw [e11, q3], by rw [e11]; exact Int.le_refl 0, by rw [e11]; decide, fun j hj => by rw [e11] at hj; omega⟩
end
section
/-! told: who must name, by what odds; or a refusal -/
def v_told (A : ab_SG) (ok : Prop) [Decidable ok] (p n c w : Int) : Option Int := if ok then v_odds A p n c w else none
abbrev td_ok (σ : ab_SG) : Prop := σ 69 7 = 1 ∧ σ 72 0 = 0 ∧ σ 72 3 ≠ -1 ∧ σ 69 6 = σ 3 15
abbrev tm_ok (σ : ab_SG) : Prop := σ 93 51 ≠ -1 ∧ σ 93 51 = σ 95 4
/-- what is asked of the class's numbers -/
def td_b (σ A : ab_SG) : Prop := (σ 69 7 = 0 ∨ σ 69 7 = 1) ∧ (fw_c (σ 72 0) = σ 72 0 ∧ fw_c (σ 72 3) = σ 72 3 ∧ fw_c (σ 69 6) = σ 69 6 ∧ fw_c (σ 3 15) = σ 3 15) ∧ (td_ok σ → (0 ≤ σ 72 2 ∧ σ 72 2 < A 49 13) ∧ (1 ≤ σ 72 1 ∧ σ 72 1 ≤ 9) ∧ (0 ≤ σ 69 5 ∧ σ 69 5 < A 49 12))
def tm_b (σ A : ab_SG) : Prop := (fw_c (σ 93 51) = σ 93 51 ∧ fw_c (σ 95 4) = σ 95 4) ∧ (tm_ok σ → (0 ≤ σ 117 2 ∧ σ 117 2 < A 49 13) ∧ (1 ≤ σ 117 1 ∧ σ 117 1 ≤ 9) ∧ (0 ≤ σ 93 52 ∧ σ 93 52 < A 49 12))
def sp_evNam : fw_SP := fun as σ K => as = [(2, 69, 0)] ∧ (σ 69 7 = 0 ∨ σ 69 7 = 1) ∧ (fw_c (σ 72 0) = σ 72 0 ∧ fw_c (σ 72 3) = σ 72 3) ∧ K (some (0, 0, fw_bo (σ 69 7 = 1 ∧ σ 72 0 = 0 ∧ σ 72 3 ≠ -1))) σ
def sp_evBdr : fw_SP := fun as σ K => as = [(2, 69, 0)] ∧ K (some (0, 0, σ 72 2)) σ
def sp_evBid : fw_SP := fun as σ K => as = [(2, 69, 0)] ∧ K (some (0, 0, σ 72 1)) σ
def sp_told : fx_SP := fun as σ K E => ∃ (A : ab_SG) (w : Int), as = [(2, 0, 0), (0, 0, w)] ∧ fw_c w = w ∧ NC σ A ∧ td_b σ A ∧ th_K oz_M σ K E (v_told A (td_ok σ) (σ 72 2) (σ 72 1) (σ 69 5) w)
def sp_m_told : fw_SP := fun as σ K => ∃ (A : ab_SG) (w : Int), as = [(2, 93, 0), (0, 0, w)] ∧ fw_c w = w ∧ NM σ A ∧ tm_b σ A ∧ tm_K od_N σ K (v_told A (tm_ok σ) (σ 117 2) (σ 117 1) (σ 93 52) w)
abbrev fk_evNam : List fw_CR := []
abbrev st_evNam : fw_K → fw_KR → fw_K := fw_st vwCl nn_sh nn_kd fw_kv fw_wc (nn_KI4.map (fun x => x.1)) (nn_KJ4.map (fun x => x.1)) (nn_PF4.map (fun x => x.1)) (nn_PS4.map (fun x => x.1)) fk_evNam 0 nn_dt202 1 1
theorem fs_evNam_0 {G : fw_K} {R : fw_KR} (hG : fw_cls st_evNam R G) {σ : ab_SG} (h : (fw_c (σ 69 7) = 0 → (0 ≤ fw_c 0 ∧ fw_c 0 ≤ 1) ∧ R (some (0, 0, 0)) σ) ∧ (fw_c (σ 69 7) ≠ 0 → (0 ≤ fw_c 0 ∧ fw_c 0 < ((5 : Nat) : Int)) ∧ ((fw_c (σ 72 (fw_c 0).toNat) ≠ 0 → (0 ≤ fw_c 0 ∧ fw_c 0 ≤ 1) ∧ R (some (0, 0, 0)) σ) ∧ (fw_c (σ 72 (fw_c 0).toNat) = 0 → (0 ≤ fw_c 3 ∧ fw_c 3 < ((5 : Nat) : Int)) ∧ ((fw_c (σ 72 (fw_c 3).toNat) = fw_c (-1) → (0 ≤ fw_c 0 ∧ fw_c 0 ≤ 1) ∧ R (some (0, 0, 0)) σ) ∧ (fw_c (σ 72 (fw_c 3).toNat) ≠ fw_c (-1) → (0 ≤ fw_c 1 ∧ fw_c 1 ≤ 1) ∧ R (some (0, 0, 1)) σ)))))) : G 0 [some (2, 69, 0)] [] σ := fw_on hG [] 200 h
abbrev fk_evBdr : List fw_CR := []
abbrev st_evBdr : fw_K → fw_KR → fw_K := fw_st vwCl nn_sh nn_kd fw_kv fw_wc (nn_KI4.map (fun x => x.1)) (nn_KJ4.map (fun x => x.1)) (nn_PF4.map (fun x => x.1)) (nn_PS4.map (fun x => x.1)) fk_evBdr 0 nn_dt203 1 0
theorem fs_evBdr_0 {G : fw_K} {R : fw_KR} (hG : fw_cls st_evBdr R G) {σ : ab_SG} (h : (0 ≤ fw_c 2 ∧ fw_c 2 < ((5 : Nat) : Int)) ∧ (R (some (0, 0, σ 72 (fw_c 2).toNat)) σ)) : G 0 [some (2, 69, 0)] [] σ := fw_on hG [] 200 h
abbrev fk_evBid : List fw_CR := []
abbrev st_evBid : fw_K → fw_KR → fw_K := fw_st vwCl nn_sh nn_kd fw_kv fw_wc (nn_KI4.map (fun x => x.1)) (nn_KJ4.map (fun x => x.1)) (nn_PF4.map (fun x => x.1)) (nn_PS4.map (fun x => x.1)) fk_evBid 0 nn_dt204 1 0
theorem fs_evBid_0 {G : fw_K} {R : fw_KR} (hG : fw_cls st_evBid R G) {σ : ab_SG} (h : (0 ≤ fw_c 1 ∧ fw_c 1 < ((5 : Nat) : Int)) ∧ (R (some (0, 0, σ 72 (fw_c 1).toNat)) σ)) : G 0 [some (2, 69, 0)] [] σ := fw_on hG [] 200 h
abbrev fk_m_told : List fw_CR := [(171, 3, false, 0, 0, sp_m_isIn), (303, 1, true, 11, 1, sp_m_left), (345, 0, true, 11, 0, sp_m_refuse), (351, 3, true, 11, 1, sp_m_part), (355, 3, true, 11, 8, sp_m_oddsOf)]
abbrev st_m_told : fw_K → fw_KR → fw_K := fw_st vwCl nn_sh nn_kd fw_kv fw_wc (nn_KI20.map (fun x => x.1)) (nn_KJ20.map (fun x => x.1)) (nn_PF20.map (fun x => x.1)) (nn_PS20.map (fun x => x.1)) fk_m_told 9 nn_dt331 2 2
theorem fs_m_told_0 {G : fw_K} {R : fw_KR} (hG : fw_cls st_m_told R G) {w : Int} {σ : ab_SG} (h : (fw_c (σ 93 51) = fw_c (-1) → G 30 [some (2, 93, 0), some (0, 0, w)] [] σ) ∧ (fw_c (σ 93 51) ≠ fw_c (-1) → (0 ≤ fw_c 4 ∧ fw_c 4 < ((474 : Nat) : Int)) ∧ ((fw_c (σ 93 51) ≠ fw_c (σ 95 (fw_c 4).toNat) → G 30 [some (2, 93, 0), some (0, 0, w)] [] σ) ∧ (fw_c (σ 93 51) = fw_c (σ 95 (fw_c 4).toNat) → sp_m_isIn [(0, 0, w), (0, 0, 0), (0, 0, 1)] σ (fun rv σ2 => G 27 [some (2, 93, 0), some (0, 0, w)] (rv.toList ++ []) σ2))))) : G 0 [some (2, 93, 0), some (0, 0, w)] [] σ := fw_on hG [27, 30, 34, 57, 60, 67] 200 h
theorem fs_m_told_30 {G : fw_K} {R : fw_KR} (hG : fw_cls st_m_told R G) {o1 : Option ab_AV} {σ : ab_SG} (h : sp_m_refuse [(2, 93, 0)] σ (fun rv σ2 => G 34 [some (2, 93, 0), o1] (rv.toList ++ []) σ2)) : G 30 [some (2, 93, 0), o1] [] σ := fw_on hG [27, 30, 34, 57, 60, 67] 200 h
theorem fs_m_told_27 {G : fw_K} {R : fw_KR} (hG : fw_cls st_m_told R G) {a1 b0 : Int} {σ : ab_SG} (h : (fw_c b0 ≠ 0 → (0 ≤ fw_c 2 ∧ fw_c 2 < ((5 : Nat) : Int)) ∧ ((0 ≤ fw_c 1 ∧ fw_c 1 < ((5 : Nat) : Int)) ∧ (sp_m_left [(2, 93, 0), (0, 0, σ 93 52)] σ (fun rv σ2 => G 57 [some (2, 93, 0), some (0, 0, a1)] (rv.toList ++ [(0, 0, σ 117 (fw_c 1).toNat), (0, 0, σ 117 (fw_c 2).toNat), (2, 93, 0), (2, 93, 0)]) σ2)))) ∧ (fw_c b0 = 0 → G 30 [some (2, 93, 0), some (0, 0, a1)] [] σ)) : G 27 [some (2, 93, 0), some (0, 0, a1)] [(0, 0, b0)] σ := fw_on hG [27, 30, 34, 57, 60, 67] 200 h
theorem fs_m_told_34 {G : fw_K} {R : fw_KR} (hG : fw_cls st_m_told R G) {b0 : Int} {o1 : Option ab_AV} {σ : ab_SG} (h : R (some (1, 0, b0)) σ) : G 34 [some (2, 93, 0), o1] [(1, 0, b0)] σ := fw_on hG [27, 30, 34, 57, 60, 67] 200 h
theorem fs_m_told_57 {G : fw_K} {R : fw_KR} (hG : fw_cls st_m_told R G) {a1 b0 b1 b2 : Int} {σ : ab_SG} (h : sp_m_oddsOf [(2, 93, 0), (0, 0, b2), (0, 0, b1), (0, 0, b0)] σ (fun rv σ2 => G 60 [some (2, 93, 0), some (0, 0, a1)] (rv.toList ++ [(2, 93, 0)]) σ2)) : G 57 [some (2, 93, 0), some (0, 0, a1)] [(0, 0, b0), (0, 0, b1), (0, 0, b2), (2, 93, 0), (2, 93, 0)] σ := fw_on hG [27, 30, 34, 57, 60, 67] 200 h
theorem fs_m_told_60 {G : fw_K} {R : fw_KR} (hG : fw_cls st_m_told R G) {a1 b0 : Int} {σ : ab_SG} (h : sp_m_part [(2, 93, 0), (1, 0, b0), (1, 0, 2460275073345600), (0, 0, a1)] σ (fun rv σ2 => G 67 [some (2, 93, 0), some (0, 0, a1)] (rv.toList ++ []) σ2)) : G 60 [some (2, 93, 0), some (0, 0, a1)] [(1, 0, b0), (2, 93, 0)] σ := fw_on hG [27, 30, 34, 57, 60, 67] 200 h
theorem fs_m_told_67 {G : fw_K} {R : fw_KR} (hG : fw_cls st_m_told R G) {b0 : Int} {o1 : Option ab_AV} {σ : ab_SG} (h : R (some (1, 0, b0)) σ) : G 67 [some (2, 93, 0), o1] [(1, 0, b0)] σ := fw_on hG [27, 30, 34, 57, 60, 67] 200 h
abbrev fk_told : List fw_CR := [(146, 1, false, 0, 0, sp_isPart), (169, 1, true, 6, 1, sp_setOf3), (224, 3, false, 0, 0, sp_part), (228, 3, true, 10, 4, sp_chanceOf), (390, 0, true, 2, 0, sp_evNam), (396, 0, true, 2, 0, sp_evBdr), (399, 0, true, 2, 0, sp_evBid)]
abbrev st_told : fw_K → fw_KR → fw_K := fw_st vwCl nn_sh nn_kd fw_kv fw_wc (nn_KI1.map (fun x => x.1)) (nn_KJ1.map (fun x => x.1)) (nn_PF1.map (fun x => x.1)) (nn_PS1.map (fun x => x.1)) fk_told 5 nn_dt201 4 2
theorem fs_told_0 {G : fw_K} {R : fw_KR} (hG : fw_cls st_told R G) {w : Int} {σ : ab_SG} (h : sp_isPart [(0, 0, w)] σ (fun rv σ2 => G 4 [some (2, 0, 0), some (0, 0, w), none, none] (rv.toList ++ []) σ2)) : G 0 [some (2, 0, 0), some (0, 0, w), none, none] [] σ := fw_on hG [4, 14, 34, 53, 60, 74, 77, 86] 200 h
theorem fs_told_4 {G : fw_K} {R : fw_KR} (hG : fw_cls st_told R G) {a1 b0 : Int} {o2 o3 : Option ab_AV} {σ : ab_SG} (h : (fw_c b0 = 0 → G 34 [some (2, 0, 0), some (0, 0, a1), o2, o3] [] σ) ∧ (fw_c b0 ≠ 0 → sp_evNam [(2, 69, 0)] σ (fun rv σ2 => G 14 [some (2, 0, 0), some (0, 0, a1), o2, o3] (rv.toList ++ []) σ2))) : G 4 [some (2, 0, 0), some (0, 0, a1), o2, o3] [(0, 0, b0)] σ := fw_on hG [4, 14, 34, 53, 60, 74, 77, 86] 200 h
theorem fs_told_14 {G : fw_K} {R : fw_KR} (hG : fw_cls st_told R G) {a1 b0 : Int} {o2 o3 : Option ab_AV} {σ : ab_SG} (h : (fw_c b0 = 0 → G 34 [some (2, 0, 0), some (0, 0, a1), o2, o3] [] σ) ∧ (fw_c b0 ≠ 0 → (fw_c (σ 69 6) = fw_c (σ 3 15) → sp_evBdr [(2, 69, 0)] σ (fun rv σ2 => G 53 [some (2, 0, 0), some (0, 0, a1), o2, o3] (rv.toList ++ [(2, 0, 0)]) σ2)) ∧ (fw_c (σ 69 6) ≠ fw_c (σ 3 15) → G 34 [some (2, 0, 0), some (0, 0, a1), o2, o3] [] σ))) : G 14 [some (2, 0, 0), some (0, 0, a1), o2, o3] [(0, 0, b0)] σ := fw_on hG [4, 14, 34, 53, 60, 74, 77, 86] 200 h
theorem fs_told_53 {G : fw_K} {R : fw_KR} (hG : fw_cls st_told R G) {a1 b0 : Int} {o2 o3 : Option ab_AV} {σ : ab_SG} (h : sp_evBid [(2, 69, 0)] σ (fun rv σ2 => G 60 [some (2, 0, 0), some (0, 0, a1), o2, o3] (rv.toList ++ [(0, 0, b0), (2, 0, 0)]) σ2)) : G 53 [some (2, 0, 0), some (0, 0, a1), o2, o3] [(0, 0, b0), (2, 0, 0)] σ := fw_on hG [4, 14, 34, 53, 60, 74, 77, 86] 200 h
theorem fs_told_60 {G : fw_K} {R : fw_KR} (hG : fw_cls st_told R G) {a1 b0 b1 : Int} {o2 o3 : Option ab_AV} {σ : ab_SG} (h : sp_setOf3 [(2, 3, 0), (0, 0, σ 69 5)] σ (fun rv σ2 => G 74 [some (2, 0, 0), some (0, 0, a1), o2, o3] (rv.toList ++ [(0, 0, b0), (0, 0, b1), (2, 0, 0)]) σ2)) : G 60 [some (2, 0, 0), some (0, 0, a1), o2, o3] [(0, 0, b0), (0, 0, b1), (2, 0, 0)] σ := fw_on hG [4, 14, 34, 53, 60, 74, 77, 86] 200 h
theorem fs_told_74 {G : fw_K} {R : fw_KR} (hG : fw_cls st_told R G) {a1 b0 b1 b2 : Int} {o2 o3 : Option ab_AV} {σ : ab_SG} (h : sp_chanceOf [(2, 0, 0), (0, 0, b2), (0, 0, b1), (0, 0, b0)] σ (fun rv σ2 => G 77 [some (2, 0, 0), some (0, 0, a1), o2, o3] (rv.toList ++ []) σ2)) : G 74 [some (2, 0, 0), some (0, 0, a1), o2, o3] [(0, 0, b0), (0, 0, b1), (0, 0, b2), (2, 0, 0)] σ := fw_on hG [4, 14, 34, 53, 60, 74, 77, 86] 200 h
theorem fs_told_77 {G : fw_K} {R : fw_KR} (hG : fw_cls st_told R G) {a1 b0 : Int} {o2 o3 : Option ab_AV} {σ : ab_SG} (h : sp_part [(1, 0, b0), (1, 0, 976299632280), (0, 0, a1)] σ (fun rv σ2 => G 86 [some (2, 0, 0), some (0, 0, a1), some (1, 0, b0), none] (rv.toList ++ []) σ2)) : G 77 [some (2, 0, 0), some (0, 0, a1), o2, o3] [(1, 0, b0)] σ := fw_on hG [4, 14, 34, 53, 60, 74, 77, 86] 200 h
theorem fs_told_86 {G : fw_K} {R : fw_KR} (hG : fw_cls st_told R G) {b0 : Int} {o1 o2 o3 : Option ab_AV} {σ : ab_SG} (h : R (some (1, 0, b0)) σ) : G 86 [some (2, 0, 0), o1, o2, o3] [(1, 0, b0)] σ := fw_on hG [4, 14, 34, 53, 60, 74, 77, 86] 200 h

section
variable {l : Launch} {cy : Nat → ClassId} {ad wr cr : Nat → Nat} {D : va_G}
theorem fm_evNam (hinj : nn_inj ad) : fw_H l cy ad wr cr D 202 0 sp_evNam := fw_mk hinj (⟨"NameNotes$Evening", "isNaming", "()Z"⟩, prog_4_method_6_code, 1, (Option.some Jvm.ClassFile.FieldType.boolean), 0, true, 1) rfl rfl nn_KI4_ok nn_KJ4_ok nn_PF4_ok nn_PS4_ok (by decide +kernel) rfl rfl (fun _ h => absurd h List.not_mem_nil) (fun as σ K h => by
  obtain ⟨rfl, h7, ⟨e0, e3⟩, h⟩ := h
  have c3 : fw_c 3 = 3 := fw_s (by decide) (by decide)
  have m1 : fw_c (-1) = -1 := fw_s (by decide) (by decide)
  have t0 : (fw_c 0).toNat = 0 := by rw [fw_c0]; rfl
  have t3 : (fw_c 3).toNat = 3 := by rw [c3]; rfl
  have c7 : fw_c (σ 69 7) = σ 69 7 := fw_s (by omega) (by omega)
  refine ⟨rfl, fun G hG => fs_evNam_0 hG ?_⟩
  rw [t0, t3, c3, c7, e0, e3, m1, fw_c0, fw_c1]
  refine ⟨fun z => ⟨by decide, ?_⟩, fun z => ⟨by decide, fun z2 => ⟨by decide, ?_⟩, fun z2 => ⟨by decide, fun z3 => ⟨by decide, ?_⟩, fun z3 => ⟨by decide, ?_⟩⟩⟩⟩
  · rw [fw_bo_f (fun y => by omega)] at h
    exact h
  · rw [fw_bo_f (fun y => z2 y.2.1)] at h
    exact h
  · rw [fw_bo_f (fun y => y.2.2 z3)] at h
    exact h
  · rw [fw_bo_t ⟨by omega, z2, z3⟩] at h
    exact h)
theorem fm_evBdr (hinj : nn_inj ad) : fw_H l cy ad wr cr D 203 0 sp_evBdr := fw_mk hinj (⟨"NameNotes$Evening", "bidder", "()I"⟩, prog_4_method_7_code, 1, (Option.some Jvm.ClassFile.FieldType.int), 0, true, 0) rfl rfl nn_KI4_ok nn_KJ4_ok nn_PF4_ok nn_PS4_ok (by decide +kernel) rfl rfl (fun _ h => absurd h List.not_mem_nil) (fun as σ K h => by
  obtain ⟨rfl, h⟩ := h
  have c2 : fw_c 2 = 2 := fw_s (by decide) (by decide)
  have t2 : (fw_c 2).toNat = 2 := by rw [c2]; rfl
  refine ⟨rfl, fun G hG => fs_evBdr_0 hG ?_⟩
  rw [t2, c2]
  exact ⟨by decide, h⟩)
theorem fm_evBid (hinj : nn_inj ad) : fw_H l cy ad wr cr D 204 0 sp_evBid := fw_mk hinj (⟨"NameNotes$Evening", "bid", "()I"⟩, prog_4_method_8_code, 1, (Option.some Jvm.ClassFile.FieldType.int), 0, true, 0) rfl rfl nn_KI4_ok nn_KJ4_ok nn_PF4_ok nn_PS4_ok (by decide +kernel) rfl rfl (fun _ h => absurd h List.not_mem_nil) (fun as σ K h => by
  obtain ⟨rfl, h⟩ := h
  have t1 : (fw_c 1).toNat = 1 := by rw [fw_c1]; rfl
  refine ⟨rfl, fun G hG => fs_evBid_0 hG ?_⟩
  rw [t1, fw_c1]
  exact ⟨by decide, h⟩)
theorem fm_told (htr : l.stackTraces = false) (hinj : nn_inj ad) : fx_H l cy ad wr cr D 201 5 sp_told := fx_met (XS := [34]) htr hinj (⟨"NameNotes", "told", "(I)J"⟩, prog_1_method_49_code, 4, (Option.some Jvm.ClassFile.FieldType.long), 1, true, 2) rfl rfl nn_KI1_ok nn_KJ1_ok nn_PF1_ok nn_PS1_ok (by decide +kernel) rfl rfl (List.forall_mem_cons.mpr ⟨fw_row nn_PM1_ok (x := 146) (k := 0) (mn := 55) (np := 1) (ob := false) (ci := 0) (⟨"NameNotes", "isPart", "(I)Z"⟩, prog_1_method_77_code, 1, (Option.some Jvm.ClassFile.FieldType.boolean), 1, false, 1) rfl (by decide +kernel) rfl rfl (by decide) (fun q => by cases q) (fm_isPart hinj), (List.forall_mem_cons.mpr ⟨fw_row nn_PM1_ok (x := 169) (k := 0) (mn := 64) (np := 1) (ob := true) (ci := 6) (⟨"NameNotes$Studio", "setOf", "(I)I"⟩, prog_8_method_8_code, 2, (Option.some Jvm.ClassFile.FieldType.int), 1, true, 0) rfl (by decide +kernel) rfl rfl (by decide) (fun _ => ⟨_, _, rfl⟩) (fm_setOf3 hinj), (List.forall_mem_cons.mpr ⟨fw_row nn_PM1_ok (x := 224) (k := 0) (mn := 193) (np := 3) (ob := false) (ci := 0) (⟨"NameNotes", "part", "(JJI)J"⟩, prog_1_method_79_code, 12, (Option.some Jvm.ClassFile.FieldType.long), 3, false, 2) rfl (by decide +kernel) rfl rfl (by decide) (fun q => by cases q) (fm_part hinj), (List.forall_mem_cons.mpr ⟨fw_row nn_PM1_ok (x := 228) (k := 0) (mn := 82) (np := 3) (ob := true) (ci := 10) (⟨"NameNotes", "chanceOf", "(III)J"⟩, prog_1_method_65_code, 4, (Option.some Jvm.ClassFile.FieldType.long), 3, true, 2) rfl (by decide +kernel) rfl rfl (by decide) (fun _ => ⟨_, _, rfl⟩) (fm_chanceOf hinj), (List.forall_mem_cons.mpr ⟨fw_row nn_PM1_ok (x := 390) (k := 0) (mn := 202) (np := 0) (ob := true) (ci := 2) (⟨"NameNotes$Evening", "isNaming", "()Z"⟩, prog_4_method_6_code, 1, (Option.some Jvm.ClassFile.FieldType.boolean), 0, true, 1) rfl (by decide +kernel) rfl rfl (by decide) (fun _ => ⟨_, _, rfl⟩) (fm_evNam hinj), (List.forall_mem_cons.mpr ⟨fw_row nn_PM1_ok (x := 396) (k := 0) (mn := 203) (np := 0) (ob := true) (ci := 2) (⟨"NameNotes$Evening", "bidder", "()I"⟩, prog_4_method_7_code, 1, (Option.some Jvm.ClassFile.FieldType.int), 0, true, 0) rfl (by decide +kernel) rfl rfl (by decide) (fun _ => ⟨_, _, rfl⟩) (fm_evBdr hinj), (List.forall_mem_cons.mpr ⟨fw_row nn_PM1_ok (x := 399) (k := 0) (mn := 204) (np := 0) (ob := true) (ci := 2) (⟨"NameNotes$Evening", "bid", "()I"⟩, prog_4_method_8_code, 1, (Option.some Jvm.ClassFile.FieldType.int), 0, true, 0) rfl (by decide +kernel) rfl rfl (by decide) (fun _ => ⟨_, _, rfl⟩) (fm_evBid hinj), (fun _ h => absurd h List.not_mem_nil)⟩)⟩)⟩)⟩)⟩)⟩)⟩) (List.forall_mem_cons.mpr ⟨⟨394, "nobody must name it", 7, by decide +kernel, (show decode prog_1_method_49_code 34 = .ok (.new 211, 3) by decide +kernel), (show decode prog_1_method_49_code 37 = .ok (.dup, 1) by decide +kernel), Or.inr ⟨(show decode prog_1_method_49_code 38 = .ok (.ldc_w 394, 3) by decide +kernel), (show decode prog_1_method_49_code 41 = .ok (.invokespecial 215, 3) by decide +kernel), (show decode prog_1_method_49_code 44 = .ok (.athrow, 1) by decide +kernel)⟩⟩, (fun _ h => absurd h List.not_mem_nil)⟩) (fun as σ K E h => by
  obtain ⟨A, w, rfl, ew, hN, ⟨h7, ⟨e0, e3, e6, e15⟩, hb⟩, h⟩ := h
  have nn := N_n hN.1
  refine ⟨rfl, fun G hG hX => ?_⟩
  have thr : ∀ (L : fw_L), v_told A (td_ok σ) (σ 72 2) (σ 72 1) (σ 69 5) w = none → G 34 L [] σ := fun L e => hX 34 (by decide) L σ (th_none h e)
  have ng : ¬ (w = 0 ∨ w = 1) → v_told A (td_ok σ) (σ 72 2) (σ 72 1) (σ 69 5) w = none := fun q => by
    unfold v_told v_odds
    split
    · exact if_neg (fun z => q z.2.2.2)
    · rfl
  refine fs_told_0 hG ⟨w, rfl, ew, fs_told_4 hG ⟨fun q => thr _ (ng (fw_bo_eq q)), fun q4 => ⟨rfl, h7, ⟨e0, e3⟩, fs_told_14 hG ?_⟩⟩⟩
  rw [e6, e15]
  refine ⟨fun q => thr _ (if_neg (fun z => fw_bo_eq q ⟨z.1, z.2.1, z.2.2.1⟩)), fun q5 => ⟨fun q6 => ⟨rfl, fs_told_53 hG ⟨rfl, fs_told_60 hG ?_⟩⟩, fun q => thr _ (if_neg (fun z => q z.2.2.2))⟩⟩
  have h4 := fw_bo_ne q4
  obtain ⟨k7, k0, k3⟩ := fw_bo_ne q5
  have hok : td_ok σ := ⟨k7, k0, k3, q6⟩
  obtain ⟨h1, h2, h3⟩ := hb hok
  generalize σ 72 2 = p at h1 h hb ⊢
  obtain ⟨p', rfl⟩ := Int.eq_ofNat_of_zero_le h1.1
  have cl := oz_clue hN.1 hN.2.1 h3.1 h3.2
  have ob := oz_odds_b hN (p := p') (by omega) (n := σ 72 1) cl.1
  obtain ⟨x, ex⟩ := Int.eq_ofNat_of_zero_le ob.1
  have ev : v_told A (td_ok σ) (p' : Int) (σ 72 1) (σ 69 5) w = some (v_part x 976299632280 w) := by
    unfold v_told v_odds
    rw [if_pos hok, if_pos ⟨h1, h2, h3, h4⟩, Int.toNat_natCast, ex, Int.toNat_natCast]
  refine ⟨A, _, rfl, hN, ⟨by omega, h3.2⟩, fs_told_74 hG ⟨A, p', _, v_set A (σ 69 5), rfl, hN, by omega, h2, cl.1, cl.2, fun σ' M => fs_told_77 hG ?_⟩⟩
  rw [ex] at ob ⊢
  exact ⟨x, 976299632280, w, rfl, by omega, ⟨by decide, by decide⟩, h4, fs_told_86 hG (h.1 _ ev (v_part_b (by omega) (by decide)) σ' M)⟩)
theorem fm_m_told (hinj : nn_inj ad) : fw_H l cy ad wr cr D 331 9 sp_m_told := fw_mk hinj (⟨"NameNotesModel", "told", "(I)J"⟩, prog_14_method_129_code, 2, (Option.some Jvm.ClassFile.FieldType.long), 1, true, 2) rfl rfl nn_KI20_ok nn_KJ20_ok nn_PF20_ok nn_PS20_ok (by decide +kernel) rfl rfl (List.forall_mem_cons.mpr ⟨fw_row nn_PM20_ok (x := 171) (k := 0) (mn := 226) (np := 3) (ob := false) (ci := 0) (⟨"NameNotesModel", "isIn", "(III)Z"⟩, prog_14_method_8_code, 3, (Option.some Jvm.ClassFile.FieldType.boolean), 3, false, 1) rfl (by decide +kernel) rfl rfl (by decide) (fun q => by cases q) (fm_m_isIn hinj), (List.forall_mem_cons.mpr ⟨fw_row nn_PM20_ok (x := 303) (k := 0) (mn := 255) (np := 1) (ob := true) (ci := 11) (⟨"NameNotesModel", "left", "(I)I"⟩, prog_14_method_47_code, 2, (Option.some Jvm.ClassFile.FieldType.int), 1, true, 0) rfl (by decide +kernel) rfl rfl (by decide) (fun _ => ⟨_, _, rfl⟩) (fm_m_left hinj), (List.forall_mem_cons.mpr ⟨fw_row nn_PM20_ok (x := 345) (k := 0) (mn := 277) (np := 0) (ob := true) (ci := 11) (⟨"NameNotesModel", "refuse", "()J"⟩, prog_14_method_3_code, 1, (Option.some Jvm.ClassFile.FieldType.long), 0, true, 2) rfl (by decide +kernel) rfl rfl (by decide) (fun _ => ⟨_, _, rfl⟩) (fm_m_refuse hinj), (List.forall_mem_cons.mpr ⟨fw_row nn_PM20_ok (x := 351) (k := 0) (mn := 280) (np := 3) (ob := true) (ci := 11) (⟨"NameNotesModel", "part", "(JJI)J"⟩, prog_14_method_13_code, 6, (Option.some Jvm.ClassFile.FieldType.long), 3, true, 2) rfl (by decide +kernel) rfl rfl (by decide) (fun _ => ⟨_, _, rfl⟩) (fm_m_part hinj), (List.forall_mem_cons.mpr ⟨fw_row nn_PM20_ok (x := 355) (k := 0) (mn := 283) (np := 3) (ob := true) (ci := 11) (⟨"NameNotesModel", "oddsOf", "(III)J"⟩, prog_14_method_79_code, 4, (Option.some Jvm.ClassFile.FieldType.long), 3, true, 2) rfl (by decide +kernel) rfl rfl (by decide) (fun _ => ⟨_, _, rfl⟩) (fm_m_oddsOf hinj), (fun _ h => absurd h List.not_mem_nil)⟩)⟩)⟩)⟩)⟩) (fun as σ K h => by
  obtain ⟨A, w, rfl, ew, hN, ⟨⟨e51, e4⟩, hb⟩, h⟩ := h
  have nn := N_n hN.1
  have m1 : fw_c (-1) = -1 := fw_s (by decide) (by decide)
  have c2 : fw_c 2 = 2 := fw_s (by decide) (by decide)
  have c4 : fw_c 4 = 4 := fw_s (by decide) (by decide)
  have t1 : (fw_c 1).toNat = 1 := by rw [fw_c1]; rfl
  have t2 : (fw_c 2).toNat = 2 := by rw [c2]; rfl
  have t4 : (fw_c 4).toNat = 4 := by rw [c4]; rfl
  refine ⟨rfl, fun G hG => ?_⟩
  have thr : ∀ o1 : Option ab_AV, v_told A (tm_ok σ) (σ 117 2) (σ 117 1) (σ 93 52) w = none → G 30 [some (2, 93, 0), o1] [] σ := fun o1 e => fs_m_told_30 hG ⟨rfl, fs_m_told_34 hG ((h _ (th_up (fw_okM_refl _ _) 1)).2 e ab_ups_eq)⟩
  refine fs_m_told_0 hG ?_
  rw [t4, c4, e51, e4, m1]
  refine ⟨fun q => thr _ (if_neg (fun z => z.1 q)), fun q1 => ⟨by decide, fun q => thr _ (if_neg (fun z => q z.2)), fun q2 => ⟨w, 0, 1, rfl, fs_m_told_27 hG ?_⟩⟩⟩
  have hok : tm_ok σ := ⟨q1, q2⟩
  rw [th_in1 ew, t1, t2, c2, fw_c1]
  refine ⟨fun q4 => ⟨by decide, by decide, ?_⟩, fun q => thr _ ?_⟩
  · have h4 := fw_bo_ne q4
    obtain ⟨h1, h2, h3⟩ := hb hok
    generalize σ 117 2 = p at h1 h hb ⊢
    obtain ⟨p', rfl⟩ := Int.eq_ofNat_of_zero_le h1.1
    have cl := oz_clue hN.1 hN.2.1 h3.1 h3.2
    have ob := oz_odds_bm hN (p := p') (by omega) (n := σ 117 1) cl.1
    obtain ⟨x, ex⟩ := Int.eq_ofNat_of_zero_le ob.1
    have ev : v_told A (tm_ok σ) (p' : Int) (σ 117 1) (σ 93 52) w = some (v_part x 976299632280 w) := by
      unfold v_told v_odds
      rw [if_pos hok, if_pos ⟨h1, h2, h3, h4⟩, Int.toNat_natCast, ex, Int.toNat_natCast]
    refine ⟨A, _, rfl, hN, ⟨by omega, h3.2⟩, fs_m_told_57 hG ⟨A, p', _, v_set A (σ 93 52), rfl, hN, by omega, h2, cl.1, cl.2, fun σ' M => fs_m_told_60 hG ?_⟩⟩
    rw [ex] at ob ⊢
    rw [show (2520 : Int) * (x : Int) = ((2520 * x : Nat) : Int) by omega]
    refine ⟨2520 * x, 2520 * 976299632280, w, rfl, by omega, ⟨by decide, by decide⟩, h4, fs_m_told_67 hG ?_⟩
    rw [v_part_k (by decide)]
    exact (h _ (th_up (od_up M (by decide)) 0)).1 _ ev ab_ups_eq
  · unfold v_told v_odds
    rw [if_pos hok]
    exact if_neg (fun z => fw_bo_eq q z.2.2.2))
end
end
