/-! what a studio's numbers are -/
def nr_is (A : ab_SG) (x : Nat) : Prop := ∀ i : Nat, (i : Int) < A 52 x → (0 ≤ A 50 (x * 9 + i) ∧ A 50 (x * 9 + i) ≤ 24) ∧ (1 ≤ A 51 (x * 9 + i) ∧ A 51 (x * 9 + i) ≤ 9)
def p2_n (n : Int) : Int := ([1, 2, 4, 8, 16, 32, 64, 128, 256, 512] : List Int).getD n.toNat 512
def nb_is (A : ab_SG) : Prop := (∀ x : Nat, (x : Int) < A 49 11 → 1 ≤ A 52 x ∧ nr_is A x) ∧ (∀ c : Nat, (c : Int) < A 49 12 → 1 ≤ A 54 c ∧ A 54 c < p2_n (A 49 11)) ∧
  (∀ j : Nat, j < 45 → 0 ≤ A 55 j ∧ A 55 j ≤ 9) ∧ (∀ j : Nat, j < 5 → 0 ≤ A 56 j ∧ A 56 j ≤ 9) ∧ (1 ≤ A 49 14 ∧ A 49 14 ≤ 9)
theorem p2_le : ∀ n : Nat, n ≤ 9 → p2_n (n : Int) ≤ 512 ∧ ∀ m : Nat, m ≤ n → p2_n (m : Int) ≤ p2_n (n : Int) := by decide +kernel
theorem p2_or0 : ∀ s : Nat, s < 256 → ∀ x : Nat, x < 9 → 1 ≤ pr_or (s : Int) (x : Int) ∧ ∀ n : Nat, n ≤ 9 → x < n → (s : Int) < p2_n (n : Int) → pr_or (s : Int) (x : Int) < p2_n (n : Int) := by decide +kernel
theorem p2_or1 : ∀ s : Nat, s < 256 → ∀ x : Nat, x < 9 → 1 ≤ pr_or ((s + 256 : Nat) : Int) (x : Int) ∧ ∀ n : Nat, n ≤ 9 → x < n → ((s + 256 : Nat) : Int) < p2_n (n : Int) → pr_or ((s + 256 : Nat) : Int) (x : Int) < p2_n (n : Int) := by decide +kernel
theorem p2_or {s x n : Int} (h1 : 0 ≤ s) (hn : n ≤ 9) (x1 : 0 ≤ x) (x2 : x < n) (h2 : s < p2_n n) : 1 ≤ pr_or s x ∧ pr_or s x < p2_n n := by
  have en : ((n.toNat : Nat) : Int) = n := by omega
  have ex : ((x.toNat : Nat) : Int) = x := by omega
  have h512 := (p2_le n.toNat (by omega)).1
  rw [en] at h512
  by_cases c : s < 256
  · have h := p2_or0 s.toNat (by omega) x.toNat (by omega)
    rw [ex, show ((s.toNat : Nat) : Int) = s by omega] at h
    have h3 := h.2 n.toNat (by omega) (by omega)
    rw [en] at h3
    exact ⟨h.1, h3 h2⟩
  · have h := p2_or1 (s - 256).toNat (by omega) x.toNat (by omega)
    rw [ex, show (((s - 256).toNat + 256 : Nat) : Int) = s by omega] at h
    have h3 := h.2 n.toNat (by omega) (by omega)
    rw [en] at h3
    exact ⟨h.1, h3 h2⟩
theorem p2_mono {n m : Int} (h0 : 0 ≤ m) (h1 : m ≤ n) (h2 : n ≤ 9) : p2_n m ≤ p2_n n := by
  have h := (p2_le n.toNat (by omega)).2 m.toNat (by omega)
  rw [show ((n.toNat : Nat) : Int) = n by omega, show ((m.toNat : Nat) : Int) = m by omega] at h
  exact h
theorem pr_nm_in {e : tk_E} {p : Nat} {a b : Int} (q : pr_nm e p a b = 0) : a ≤ (tk e p).2.2.2.2 ∧ (tk e p).2.2.2.2 ≤ b := by
  unfold pr_nm at q
  by_cases y : (tk e p).1 = 3
  · rw [if_pos y] at q
    by_cases z : a ≤ (tk e p).2.2.2.2 ∧ (tk e p).2.2.2.2 ≤ b
    · exact z
    · rw [if_neg z] at q
      exact absurd q (by decide)
  · rw [if_neg y] at q
    exact absurd q (by decide)
theorem pr_sk_in {A : ab_SG} {e : tk_E} {k : Nat} {n : Int} {p : Nat} (hn : 0 ≤ n) (q : pr_sk A e k n p = 0) : 0 ≤ pr_ix A e k n p ∧ pr_ix A e k n p < n := by
  have h := rw_fd_le (A k) (pr_wd e p) n.toNat 0
  replace h : pr_ix A e k n p < 0 ∨ ((0 : Nat) : Int) ≤ pr_ix A e k n p ∧ pr_ix A e k n p < ((0 : Nat) : Int) + n.toNat := h
  unfold pr_sk at q
  by_cases y : (tk e p).1 = 2 ∧ tw e p < 0
  · rw [if_pos y] at q
    by_cases z : pr_ix A e k n p < 0
    · rw [if_pos z] at q
      exact absurd q (by decide)
    · omega
  · rw [if_neg y] at q
    exact absurd q (by decide)
/-- one note more -/
theorem pr_note_nb {A : ab_SG} {e : tk_E} {x p : Nat} (hx : 0 ≤ A 52 x) (q : (pr_note A e x p).1 = 0) : A 52 x < 9 ∧ (nr_is A x → nr_is (pr_note A e x p).2.1 x) ∧ (pr_note A e x p).2.1 52 x = A 52 x + 1 ∧
    ∀ k j : Nat, (k = 50 ∨ k = 51 → j < 9 * x ∨ 9 * x + 9 ≤ j) → (k = 52 → j ≠ x) → (pr_note A e x p).2.1 k j = A k j := by
  unfold pr_note at q ⊢
  rw [Int.toNat_natCast] at q ⊢
  by_cases c1 : pr_nm e p 0 24 ≠ 0
  · rw [if_pos c1] at q; exact absurd q c1
  rw [if_neg c1] at q ⊢
  by_cases c2 : 9 ≤ A 52 x
  · rw [if_pos c2] at q; exact absurd q (show ¬ (4 : Int) = 0 by decide)
  rw [if_neg c2] at q ⊢
  by_cases c3 : pr_nm e (tn e p) 1 9 ≠ 0
  · rw [if_pos c3] at q; exact absurd q c3
  rw [if_neg c3]
  have v1 := pr_nm_in (Classical.not_not.mp c1)
  have v2 := pr_nm_in (Classical.not_not.mp c3)
  obtain ⟨i, hi⟩ : ∃ i : Nat, A 52 x = (i : Int) := ⟨(A 52 x).toNat, by omega⟩
  have eq : ((x : Int) * 9 + (i : Int)).toNat = x * 9 + i := by omega
  dsimp only
  rw [hi, eq]
  generalize (tk e p).2.2.2.2 = a at v1 ⊢
  generalize (tk e (tn e p)).2.2.2.2 = b at v2 ⊢
  refine ⟨by omega, fun h i' hi' => ?_, ab_ups_eq, fun k j q1 q2 => ?_⟩
  · rw [ab_ups_eq] at hi'
    by_cases c : i' = i
    · subst c
      have g1 : ab_ups (ab_ups (ab_ups A 50 (x * 9 + i') a) 51 (x * 9 + i') b) 52 x ((i' : Int) + 1) 50 (x * 9 + i') = a := by rw [ab_ups_ne (fun z => absurd z.1 (by decide)), ab_ups_ne (fun z => absurd z.1 (by decide)), ab_ups_eq]
      have g2 : ab_ups (ab_ups (ab_ups A 50 (x * 9 + i') a) 51 (x * 9 + i') b) 52 x ((i' : Int) + 1) 51 (x * 9 + i') = b := by rw [ab_ups_ne (fun z => absurd z.1 (by decide)), ab_ups_eq]
      rw [g1, g2]
      exact ⟨v1, v2⟩
    · have g1 : ab_ups (ab_ups (ab_ups A 50 (x * 9 + i) a) 51 (x * 9 + i) b) 52 x ((i : Int) + 1) 50 (x * 9 + i') = A 50 (x * 9 + i') := by rw [ab_ups_ne (fun z => absurd z.1 (by decide)), ab_ups_ne (fun z => absurd z.1 (by decide)), ab_ups_ne (fun z => by omega)]
      have g2 : ab_ups (ab_ups (ab_ups A 50 (x * 9 + i) a) 51 (x * 9 + i) b) 52 x ((i : Int) + 1) 51 (x * 9 + i') = A 51 (x * 9 + i') := by rw [ab_ups_ne (fun z => absurd z.1 (by decide)), ab_ups_ne (fun z => by omega), ab_ups_ne (fun z => absurd z.1 (by decide))]
      rw [g1, g2]
      exact h i' (by omega)
  · rw [ab_ups_ne (fun z => q2 z.1 z.2), ab_ups_ne (fun z => by have := q1 (Or.inr z.1); omega), ab_ups_ne (fun z => by have := q1 (Or.inl z.1); omega)]
theorem pr_notes_nb {e : tk_E} {x : Nat} : ∀ (f : Nat) (A : ab_SG) (p : Nat), 0 ≤ A 52 x → A 52 x ≤ 9 → nr_is A x → (pr_notes e x f A p).1 = 0 → A 52 x ≤ (pr_notes e x f A p).2.1 52 x ∧ (pr_notes e x f A p).2.1 52 x ≤ 9 ∧ nr_is (pr_notes e x f A p).2.1 x ∧
    ∀ k j : Nat, (k = 50 ∨ k = 51 → j < 9 * x ∨ 9 * x + 9 ≤ j) → (k = 52 → j ≠ x) → (pr_notes e x f A p).2.1 k j = A k j := by
  intro f
  induction f with
  | zero => intro A p h1 h2 h3 _; exact ⟨Int.le_refl _, h2, h3, fun k j _ _ => rfl⟩
  | succ f ih =>
    intro A p h1 h2 h3 q
    unfold pr_notes at q ⊢
    by_cases c1 : (tk e p).1 ≠ 3
    · rw [if_pos c1]; exact ⟨Int.le_refl _, h2, h3, fun k j _ _ => rfl⟩
    rw [if_neg c1] at q ⊢
    by_cases c2 : (pr_note A e x p).1 ≠ 0
    · rw [if_pos c2] at q; exact absurd q c2
    rw [if_neg c2] at q ⊢
    obtain ⟨g0, g1, g2, g3⟩ := pr_note_nb h1 (Classical.not_not.mp c2)
    obtain ⟨k0, k1, k2, k3⟩ := ih _ _ (by omega) (by omega) (g1 h3) q
    exact ⟨by omega, k1, k2, fun k j q1 q2 => (k3 k j q1 q2).trans (g3 k j q1 q2)⟩
/-- one tune of a clue more -/
theorem pr_left_nb {A : ab_SG} {e : tk_E} {x p : Nat} (hn : 0 ≤ A 49 11 ∧ A 49 11 ≤ 9) (hx : 0 ≤ A 54 x) (hx2 : A 54 x < p2_n (A 49 11)) (q : (pr_left A e x p).1 = 0) : 1 ≤ (pr_left A e x p).2.1 54 x ∧ (pr_left A e x p).2.1 54 x < p2_n (A 49 11) ∧
    ∀ k j : Nat, (k = 54 → j ≠ x) → (pr_left A e x p).2.1 k j = A k j := by
  unfold pr_left at q ⊢
  rw [Int.toNat_natCast] at q ⊢
  by_cases c1 : pr_sk A e 57 (A 49 11) p ≠ 0
  · rw [if_pos c1] at q; exact absurd q c1
  rw [if_neg c1] at q ⊢
  by_cases c2 : pr_hs (A 54 x) (pr_ix A e 57 (A 49 11) p) = true
  · rw [if_pos c2] at q; exact absurd q (show ¬ (3 : Int) = 0 by decide)
  rw [if_neg c2]
  have g := pr_sk_in hn.1 (Classical.not_not.mp c1)
  have g2 := p2_or hx hn.2 g.1 g.2 hx2
  dsimp only
  rw [ab_ups_eq]
  exact ⟨g2.1, g2.2, fun k j q1 => ab_ups_ne (fun z => q1 z.1 z.2)⟩
theorem pr_lefts_nb {e : tk_E} {x : Nat} : ∀ (f : Nat) (A : ab_SG) (p : Nat), (0 ≤ A 49 11 ∧ A 49 11 ≤ 9) → 1 ≤ A 54 x → A 54 x < p2_n (A 49 11) → (pr_lefts e x f A p).1 = 0 → 1 ≤ (pr_lefts e x f A p).2.1 54 x ∧ (pr_lefts e x f A p).2.1 54 x < p2_n (A 49 11) ∧
    ∀ k j : Nat, (k = 54 → j ≠ x) → (pr_lefts e x f A p).2.1 k j = A k j := by
  intro f
  induction f with
  | zero => intro A p _ h1 h2 _; exact ⟨h1, h2, fun k j _ => rfl⟩
  | succ f ih =>
    intro A p hn h1 h2 q
    unfold pr_lefts at q ⊢
    by_cases c1 : (tk e p).1 ≠ 2
    · rw [if_pos c1]; exact ⟨h1, h2, fun k j _ => rfl⟩
    rw [if_neg c1] at q ⊢
    by_cases c2 : (pr_left A e x p).1 ≠ 0
    · rw [if_pos c2] at q; exact absurd q c2
    rw [if_neg c2] at q ⊢
    obtain ⟨g1, g2, g3⟩ := pr_left_nb hn (by omega) h2 (Classical.not_not.mp c2)
    have e11 : (pr_left A e x p).2.1 49 11 = A 49 11 := g3 49 11 (fun z => absurd z (by decide))
    obtain ⟨k1, k2, k3⟩ := ih _ _ (by rw [e11]; exact hn) g1 (by rw [e11]; exact g2) q
    rw [e11] at k2
    exact ⟨k1, k2, fun k j q1 => (k3 k j q1).trans (g3 k j q1)⟩
theorem nr_cong {A A' : ab_SG} {x : Nat} (h52 : A' 52 x = A 52 x) (hs : A 52 x ≤ 9) (h : ∀ j : Nat, 9 * x ≤ j → j < 9 * x + 9 → A' 50 j = A 50 j ∧ A' 51 j = A 51 j) (hr : nr_is A x) : nr_is A' x := by
  intro i hi
  rw [h52] at hi
  have g := h (x * 9 + i) (by omega) (by omega)
  rw [g.1, g.2]
  exact hr i hi
theorem pr_tune_nb {A : ab_SG} {e : tk_E} {p : Nat} (hi : RI A) (hb : nb_is A) (q : (pr_tune A e p).1 = 0) : nb_is (pr_tune A e p).2.1 := by
  unfold pr_tune at q ⊢
  have hi1 := hi.1
  by_cases c1 : 9 ≤ A 49 11
  · rw [if_pos c1] at q; exact absurd q (show ¬ (4 : Int) = 0 by decide)
  rw [if_neg c1] at q ⊢
  by_cases c2 : pr_new A e (tn e p) ≠ 0
  · rw [if_pos c2] at q; exact absurd q c2
  rw [if_neg c2] at q ⊢
  dsimp only at q ⊢
  obtain ⟨x, hx⟩ : ∃ x : Nat, A 49 11 = (x : Int) := ⟨(A 49 11).toNat, by omega⟩
  rw [hx] at q ⊢
  rw [Int.toNat_natCast] at q ⊢
  have a52 : ab_ups (ab_ups (ab_ups A 57 x (pr_wd e (tn e p))) 52 x 0) 49 11 ((x : Int) + 1) 52 x = 0 := by rw [ab_ups_ne (fun z => absurd z.1 (by decide)), ab_ups_eq]
  have a11 : ab_ups (ab_ups (ab_ups A 57 x (pr_wd e (tn e p))) 52 x 0) 49 11 ((x : Int) + 1) 49 11 = (x : Int) + 1 := ab_ups_eq
  have ak : ∀ k j : Nat, k ≠ 57 → (k = 52 → j ≠ x) → (k = 49 → j ≠ 11) → ab_ups (ab_ups (ab_ups A 57 x (pr_wd e (tn e p))) 52 x 0) 49 11 ((x : Int) + 1) k j = A k j := fun k j q1 q2 q3 => by rw [ab_ups_ne (fun z => q3 z.1 z.2), ab_ups_ne (fun z => q2 z.1 z.2), ab_ups_ne (fun z => q1 z.1)]
  generalize ab_ups (ab_ups (ab_ups A 57 x (pr_wd e (tn e p))) 52 x 0) 49 11 ((x : Int) + 1) = A1 at q a52 a11 ak ⊢
  by_cases c3 : (pr_note A1 e x (tn e (tn e p))).1 ≠ 0
  · rw [if_pos c3] at q; exact absurd q c3
  rw [if_neg c3] at q ⊢
  have hr1 : nr_is A1 x := fun i hi2 => by rw [a52] at hi2; exact absurd hi2 (by omega)
  obtain ⟨g0, g1, g2, g3⟩ := pr_note_nb (by rw [a52]; exact Int.le_refl _) (Classical.not_not.mp c3)
  rw [a52] at g2
  obtain ⟨k0, k1, k2, k3⟩ := pr_notes_nb 9 _ _ (by rw [g2]; decide) (by rw [g2]; decide) (g1 hr1) q
  rw [g2] at k0
  generalize (pr_notes e x 9 (pr_note A1 e x (tn e (tn e p))).2.1 (pr_note A1 e x (tn e (tn e p))).2.2).2.1 = A3 at k0 k1 k2 k3 ⊢
  have fr : ∀ k j : Nat, (k = 50 ∨ k = 51 → j < 9 * x ∨ 9 * x + 9 ≤ j) → (k = 52 → j ≠ x) → k ≠ 57 → (k = 49 → j ≠ 11) → A3 k j = A k j := fun k j q1 q2 q3 q4 => (k3 k j q1 q2).trans ((g3 k j q1 q2).trans (ak k j q3 q2 q4))
  have f11 : A3 49 11 = (x : Int) + 1 := (k3 49 11 (fun z => by omega) (fun z => absurd z (by decide))).trans ((g3 49 11 (fun z => by omega) (fun z => absurd z (by decide))).trans a11)
  have fo : ∀ k j : Nat, k ≠ 50 → k ≠ 51 → k ≠ 52 → k ≠ 57 → (k = 49 → j ≠ 11) → A3 k j = A k j := fun k j q1 q2 q3 q4 q5 => fr k j (fun z => by omega) (fun z => absurd z q3) q4 q5
  obtain ⟨b1, b2, b3, b4, b5⟩ := hb
  refine ⟨fun y hy => ?_, fun c hc => ?_, fun j hj => ?_, fun j hj => ?_, ?_⟩
  · rw [f11] at hy
    by_cases c : y = x
    · rw [c]; exact ⟨by omega, k2⟩
    · have hy2 := b1 y (by omega)
      have e52 : A3 52 y = A 52 y := fr 52 y (fun z => by omega) (fun _ => c) (by decide) (fun z => absurd z (by decide))
      refine ⟨by rw [e52]; exact hy2.1, nr_cong e52 ((hi.2.2.2.2.2.2.1 y (by omega)).2) (fun j j1 j2 => ⟨fr 50 j (fun _ => by omega) (fun z => absurd z (by decide)) (by decide) (fun z => absurd z (by decide)), fr 51 j (fun _ => by omega) (fun z => absurd z (by decide)) (by decide) (fun z => absurd z (by decide))⟩) hy2.2⟩
  · rw [fo 49 12 (by decide) (by decide) (by decide) (by decide) (fun _ => by decide)] at hc
    have h := b2 c hc
    rw [fo 54 c (by decide) (by decide) (by decide) (by decide) (fun z => absurd z (by decide)), f11]
    have h2 := p2_mono (n := (x : Int) + 1) (m := (x : Int)) (by omega) (by omega) (by omega)
    rw [hx] at h
    exact ⟨h.1, by omega⟩
  · rw [fo 55 j (by decide) (by decide) (by decide) (by decide) (fun z => absurd z (by decide))]; exact b3 j hj
  · rw [fo 56 j (by decide) (by decide) (by decide) (by decide) (fun z => absurd z (by decide))]; exact b4 j hj
  · rw [fo 49 14 (by decide) (by decide) (by decide) (by decide) (fun _ => by decide)]; exact b5
theorem pr_clue_nb {A : ab_SG} {e : tk_E} {p : Nat} (hi : RI A) (hb : nb_is A) (q : (pr_clue A e p).1 = 0) : nb_is (pr_clue A e p).2.1 := by
  unfold pr_clue at q ⊢
  have hi1 := hi.1
  have hi2 := hi.2.1
  by_cases c1 : 6 ≤ A 49 12
  · rw [if_pos c1] at q; exact absurd q (show ¬ (4 : Int) = 0 by decide)
  rw [if_neg c1] at q ⊢
  by_cases c2 : pr_new A e (tn e p) ≠ 0
  · rw [if_pos c2] at q; exact absurd q c2
  rw [if_neg c2] at q ⊢
  dsimp only at q ⊢
  obtain ⟨x, hx⟩ : ∃ x : Nat, A 49 12 = (x : Int) := ⟨(A 49 12).toNat, by omega⟩
  rw [hx] at q ⊢
  rw [Int.toNat_natCast] at q ⊢
  have a54 : ab_ups (ab_ups (ab_ups A 58 x (pr_wd e (tn e p))) 54 x 0) 49 12 ((x : Int) + 1) 54 x = 0 := by rw [ab_ups_ne (fun z => absurd z.1 (by decide)), ab_ups_eq]
  have a12 : ab_ups (ab_ups (ab_ups A 58 x (pr_wd e (tn e p))) 54 x 0) 49 12 ((x : Int) + 1) 49 12 = (x : Int) + 1 := ab_ups_eq
  have ak : ∀ k j : Nat, k ≠ 58 → (k = 54 → j ≠ x) → (k = 49 → j ≠ 12) → ab_ups (ab_ups (ab_ups A 58 x (pr_wd e (tn e p))) 54 x 0) 49 12 ((x : Int) + 1) k j = A k j := fun k j q1 q2 q3 => by rw [ab_ups_ne (fun z => q3 z.1 z.2), ab_ups_ne (fun z => q2 z.1 z.2), ab_ups_ne (fun z => q1 z.1)]
  generalize ab_ups (ab_ups (ab_ups A 58 x (pr_wd e (tn e p))) 54 x 0) 49 12 ((x : Int) + 1) = A1 at q a54 a12 ak ⊢
  have e11 : A1 49 11 = A 49 11 := ak 49 11 (by decide) (fun z => absurd z (by decide)) (fun _ => by decide)
  by_cases c3 : (pr_left A1 e x (tn e (tn e p))).1 ≠ 0
  · rw [if_pos c3] at q; exact absurd q c3
  rw [if_neg c3] at q ⊢
  have hp : 0 < p2_n (A 49 11) := by
    have := p2_mono (n := A 49 11) (m := 0) (by omega) (by omega) (by omega)
    have h0 : p2_n 0 = 1 := by decide
    omega
  obtain ⟨g1, g2, g3⟩ := pr_left_nb (by rw [e11]; exact hi1) (by rw [a54]; exact Int.le_refl _) (by rw [a54, e11]; exact hp) (Classical.not_not.mp c3)
  have e11' : (pr_left A1 e x (tn e (tn e p))).2.1 49 11 = A1 49 11 := g3 49 11 (fun z => absurd z (by decide))
  obtain ⟨k1, k2, k3⟩ := pr_lefts_nb 9 _ _ (by rw [e11', e11]; exact hi1) g1 (by rw [e11']; exact g2) q
  rw [e11', e11] at k2
  generalize (pr_lefts e x 9 (pr_left A1 e x (tn e (tn e p))).2.1 (pr_left A1 e x (tn e (tn e p))).2.2).2.1 = A3 at k1 k2 k3 ⊢
  have fr : ∀ k j : Nat, (k = 54 → j ≠ x) → k ≠ 58 → (k = 49 → j ≠ 12) → A3 k j = A k j := fun k j q1 q2 q3 => (k3 k j q1).trans ((g3 k j q1).trans (ak k j q2 q1 q3))
  have f12 : A3 49 12 = (x : Int) + 1 := (k3 49 12 (fun z => absurd z (by decide))).trans ((g3 49 12 (fun z => absurd z (by decide))).trans a12)
  have fo : ∀ k j : Nat, k ≠ 54 → k ≠ 58 → (k = 49 → j ≠ 12) → A3 k j = A k j := fun k j q1 q2 q3 => fr k j (fun z => absurd z q1) q2 q3
  obtain ⟨b1, b2, b3, b4, b5⟩ := hb
  have f11 : A3 49 11 = A 49 11 := fo 49 11 (by decide) (by decide) (fun _ => by decide)
  refine ⟨fun y hy => ?_, fun c hc => ?_, fun j hj => ?_, fun j hj => ?_, ?_⟩
  · rw [f11] at hy
    have hy2 := b1 y hy
    have e52 : A3 52 y = A 52 y := fo 52 y (by decide) (by decide) (fun z => absurd z (by decide))
    exact ⟨by rw [e52]; exact hy2.1, nr_cong e52 ((hi.2.2.2.2.2.2.1 y (by omega)).2) (fun j _ _ => ⟨fo 50 j (by decide) (by decide) (fun z => absurd z (by decide)), fo 51 j (by decide) (by decide) (fun z => absurd z (by decide))⟩) hy2.2⟩
  · rw [f12] at hc
    rw [f11]
    by_cases d : c = x
    · rw [d]; exact ⟨k1, k2⟩
    · rw [fr 54 c (fun _ => d) (by decide) (fun z => absurd z (by decide))]; exact b2 c (by omega)
  · rw [fo 55 j (by decide) (by decide) (fun z => absurd z (by decide))]; exact b3 j hj
  · rw [fo 56 j (by decide) (by decide) (fun z => absurd z (by decide))]; exact b4 j hj
  · rw [fo 49 14 (by decide) (by decide) (fun _ => by decide)]; exact b5
/-- other lines -/
theorem nb_frame {A A' : ab_SG} (hi : RI A) (hb : nb_is A) (h : ∀ k j : Nat, k = 49 ∧ (j = 11 ∨ j = 12) ∨ k = 50 ∨ k = 51 ∨ k = 52 ∨ k = 54 → A' k j = A k j) (h55 : ∀ j : Nat, j < 45 → 0 ≤ A' 55 j ∧ A' 55 j ≤ 9) (h56 : ∀ j : Nat, j < 5 → 0 ≤ A' 56 j ∧ A' 56 j ≤ 9) (h14 : 1 ≤ A' 49 14 ∧ A' 49 14 ≤ 9) : nb_is A' := by
  obtain ⟨b1, b2, -, -, -⟩ := hb
  have hi1 := hi.1
  have f11 : A' 49 11 = A 49 11 := h 49 11 (by omega)
  refine ⟨fun y hy => ?_, fun c hc => ?_, h55, h56, h14⟩
  · rw [f11] at hy
    have hy2 := b1 y hy
    have e52 : A' 52 y = A 52 y := h 52 y (by omega)
    exact ⟨by rw [e52]; exact hy2.1, nr_cong e52 ((hi.2.2.2.2.2.2.1 y (by omega)).2) (fun j _ _ => ⟨h 50 j (by omega), h 51 j (by omega)⟩) hy2.2⟩
  · rw [h 49 12 (by omega)] at hc
    rw [f11, h 54 c (by omega)]
    exact b2 c hc
theorem pr_person_nb {A : ab_SG} {e : tk_E} {p : Nat} (hi : RI A) (hb : nb_is A) (q : (pr_person A e p).1 = 0) : nb_is (pr_person A e p).2.1 := by
  unfold pr_person at q ⊢
  by_cases c1 : 5 ≤ A 49 13
  · rw [if_pos c1] at q; exact absurd q (show ¬ (4 : Int) = 0 by decide)
  rw [if_neg c1] at q ⊢
  by_cases c2 : pr_new A e (tn e p) ≠ 0
  · rw [if_pos c2] at q; exact absurd q c2
  rw [if_neg c2]
  show nb_is (ab_ups (ab_ups A 59 (A 49 13).toNat (pr_wd e (tn e p))) 49 13 (A 49 13 + 1))
  have f : ∀ k j : Nat, k ≠ 59 → (k = 49 → j ≠ 13) → ab_ups (ab_ups A 59 (A 49 13).toNat (pr_wd e (tn e p))) 49 13 (A 49 13 + 1) k j = A k j := fun k j q1 q2 => by rw [ab_ups_ne (fun z => q2 z.1 z.2), ab_ups_ne (fun z => q1 z.1)]
  refine nb_frame hi hb (fun k j z => f k j (by omega) (by omega)) (fun j hj => ?_) (fun j hj => ?_) ?_
  · rw [f 55 j (by decide) (fun z => absurd z (by decide))]; exact hb.2.2.1 j hj
  · rw [f 56 j (by decide) (fun z => absurd z (by decide))]; exact hb.2.2.2.1 j hj
  · rw [f 49 14 (by decide) (fun _ => by decide)]; exact hb.2.2.2.2
theorem pr_knows_nb {A : ab_SG} {e : tk_E} {p : Nat} (hi : RI A) (hb : nb_is A) (q : (pr_knows A e p).1 = 0) : nb_is (pr_knows A e p).2.1 := by
  unfold pr_knows at q ⊢
  by_cases c1 : pr_sk A e 59 (A 49 13) (tn e p) ≠ 0
  · rw [if_pos c1] at q; exact absurd q c1
  rw [if_neg c1] at q ⊢
  by_cases c2 : pr_sk A e 57 (A 49 11) (tn e (tn e p)) ≠ 0
  · rw [if_pos c2] at q; exact absurd q c2
  rw [if_neg c2] at q ⊢
  by_cases c3 : pr_hs (A 64 (pr_ix A e 59 (A 49 13) (tn e p)).toNat) (pr_ix A e 57 (A 49 11) (tn e (tn e p))) = true
  · rw [if_pos c3] at q; exact absurd q (show ¬ (3 : Int) = 0 by decide)
  rw [if_neg c3] at q ⊢
  by_cases c4 : pr_nm e (tn e (tn e (tn e p))) 0 9 ≠ 0
  · rw [if_pos c4] at q; exact absurd q c4
  rw [if_neg c4]
  have v := pr_nm_in (Classical.not_not.mp c4)
  dsimp only
  generalize (pr_ix A e 59 (A 49 13) (tn e p) * 9 + pr_ix A e 57 (A 49 11) (tn e (tn e p))).toNat = u
  generalize pr_or (A 64 (pr_ix A e 59 (A 49 13) (tn e p)).toNat) (pr_ix A e 57 (A 49 11) (tn e (tn e p))) = o
  generalize (pr_ix A e 59 (A 49 13) (tn e p)).toNat = w
  generalize (tk e (tn e (tn e (tn e p)))).2.2.2.2 = a at v
  have f : ∀ k j : Nat, k ≠ 64 → k ≠ 55 → ab_ups (ab_ups A 64 w o) 55 u a k j = A k j := fun k j q1 q2 => by rw [ab_ups_ne (fun z => q2 z.1), ab_ups_ne (fun z => q1 z.1)]
  refine nb_frame hi hb (fun k j z => f k j (by omega) (by omega)) (fun j hj => ?_) (fun j hj => ?_) ?_
  · by_cases c : j = u
    · rw [c, ab_ups_eq]; exact v
    · rw [ab_ups_ne (fun z => c z.2), ab_ups_ne (fun z => absurd z.1 (by decide))]; exact hb.2.2.1 j hj
  · rw [f 56 j (by decide) (by decide)]; exact hb.2.2.2.1 j hj
  · rw [f 49 14 (by decide) (by decide)]; exact hb.2.2.2.2
theorem pr_dare_nb {A : ab_SG} {e : tk_E} {p : Nat} (hi : RI A) (hb : nb_is A) (q : (pr_dare A e p).1 = 0) : nb_is (pr_dare A e p).2.1 := by
  unfold pr_dare at q ⊢
  by_cases c1 : pr_sk A e 59 (A 49 13) (tn e p) ≠ 0
  · rw [if_pos c1] at q; exact absurd q c1
  rw [if_neg c1] at q ⊢
  by_cases c3 : pr_hs (A 48 3) (pr_ix A e 59 (A 49 13) (tn e p)) = true
  · rw [if_pos c3] at q; exact absurd q (show ¬ (3 : Int) = 0 by decide)
  rw [if_neg c3] at q ⊢
  by_cases c4 : pr_nm e (tn e (tn e p)) 0 9 ≠ 0
  · rw [if_pos c4] at q; exact absurd q c4
  rw [if_neg c4]
  have v := pr_nm_in (Classical.not_not.mp c4)
  dsimp only
  generalize pr_or (A 48 3) (pr_ix A e 59 (A 49 13) (tn e p)) = o
  generalize (pr_ix A e 59 (A 49 13) (tn e p)).toNat = u
  generalize (tk e (tn e (tn e p))).2.2.2.2 = a at v
  have f : ∀ k j : Nat, k ≠ 48 → k ≠ 56 → ab_ups (ab_ups A 48 3 o) 56 u a k j = A k j := fun k j q1 q2 => by rw [ab_ups_ne (fun z => q2 z.1), ab_ups_ne (fun z => q1 z.1)]
  refine nb_frame hi hb (fun k j z => f k j (by omega) (by omega)) (fun j hj => ?_) (fun j hj => ?_) ?_
  · rw [f 55 j (by decide) (by decide)]; exact hb.2.2.1 j hj
  · by_cases c : j = u
    · rw [c, ab_ups_eq]; exact v
    · rw [ab_ups_ne (fun z => c z.2), ab_ups_ne (fun z => absurd z.1 (by decide))]; exact hb.2.2.2.1 j hj
  · rw [f 49 14 (by decide) (by decide)]; exact hb.2.2.2.2
theorem pr_from_nb {A : ab_SG} {e : tk_E} {p : Nat} (hi : RI A) (hb : nb_is A) (q : (pr_from A e p).1 = 0) : nb_is (pr_from A e p).2.1 := by
  unfold pr_from at q ⊢
  by_cases c1 : A 48 4 ≠ 0
  · rw [if_pos c1] at q; exact absurd q (show ¬ (3 : Int) = 0 by decide)
  rw [if_neg c1] at q ⊢
  by_cases c4 : pr_nm e (tn e p) 1 9 ≠ 0
  · rw [if_pos c4] at q; exact absurd q c4
  rw [if_neg c4]
  have v := pr_nm_in (Classical.not_not.mp c4)
  dsimp only
  generalize (tk e (tn e p)).2.2.2.2 = a at v
  have f : ∀ k j : Nat, k ≠ 48 → (k = 49 → j ≠ 14) → ab_ups (ab_ups A 48 4 1) 49 14 a k j = A k j := fun k j q1 q2 => by rw [ab_ups_ne (fun z => q2 z.1 z.2), ab_ups_ne (fun z => q1 z.1)]
  refine nb_frame hi hb (fun k j z => f k j (by omega) (by omega)) (fun j hj => ?_) (fun j hj => ?_) ?_
  · rw [f 55 j (by decide) (fun z => absurd z (by decide))]; exact hb.2.2.1 j hj
  · rw [f 56 j (by decide) (fun z => absurd z (by decide))]; exact hb.2.2.2.1 j hj
  · rw [ab_ups_eq]; exact v
theorem pr_line_nb {A : ab_SG} {e : tk_E} {p : Nat} (hi : RI A) (hb : nb_is A) (q : (pr_line A e p).1 = 0) : nb_is (pr_line A e p).2.1 := by
  unfold pr_line at q ⊢
  by_cases c0 : tw e p = 0
  · rw [if_pos c0] at q ⊢; exact pr_tune_nb hi hb q
  rw [if_neg c0] at q ⊢
  by_cases c1 : tw e p = 1
  · rw [if_pos c1] at q ⊢; exact pr_clue_nb hi hb q
  rw [if_neg c1] at q ⊢
  by_cases c2 : tw e p = 2
  · rw [if_pos c2] at q ⊢; exact pr_person_nb hi hb q
  rw [if_neg c2] at q ⊢
  by_cases c3 : tw e p = 3
  · rw [if_pos c3] at q ⊢; exact pr_knows_nb hi hb q
  rw [if_neg c3] at q ⊢
  by_cases c4 : tw e p = 4
  · rw [if_pos c4] at q ⊢; exact pr_dare_nb hi hb q
  rw [if_neg c4] at q ⊢
  by_cases c5 : tw e p = 5
  · rw [if_pos c5] at q ⊢; exact pr_from_nb hi hb q
  rw [if_neg c5] at q
  exact absurd q (show ¬ (1 : Int) = 0 by decide)
theorem pr_lns_nb {A : ab_SG} {e : tk_E} {p : Nat} (hi : RI A) (hb : nb_is A) (q : (pr_lns A e p).1 = 0) : nb_is (pr_lns A e p).2.1 := by
  unfold pr_lns at q ⊢
  by_cases c0 : (pr_line A e p).1 ≠ 0
  · rw [if_pos c0] at q; exact absurd q c0
  rw [if_neg c0] at q ⊢
  by_cases c1 : (tk e (pr_line A e p).2.2).1 ≠ 59
  · rw [if_pos c1] at q; exact absurd q (show ¬ (1 : Int) = 0 by decide)
  rw [if_neg c1]
  exact pr_line_nb hi hb (Classical.not_not.mp c0)
