section
/-! LIKE (how 0) is one and the same for all of a group -/
theorem sn_sym {A : ab_SG} {x y i : Int} (h : pr_sn A x y i 0) : pr_sn A y x i 0 := by
  unfold pr_sn at h ⊢
  by_cases a : x < A 49 11 ∧ i < A 52 x.toNat
  · by_cases b : y < A 49 11 ∧ i < A 52 y.toNat
    · rw [if_pos ⟨a, b⟩, if_neg (by decide)] at h
      rw [if_pos ⟨b, a⟩, if_neg (by decide)]
      exact ⟨h.1.imp id Eq.symm, h.2.imp id Eq.symm⟩
    · rw [if_neg (fun z => b z.2)] at h
      exact absurd (h.mp a) b
  · by_cases b : y < A 49 11 ∧ i < A 52 y.toNat
    · rw [if_neg (fun z => a z.1)] at h
      exact absurd (h.mpr b) a
    · rw [if_neg (fun z => a z.2)]
      exact ⟨fun z => absurd z b, fun z => absurd z a⟩
theorem sn_tr {A : ab_SG} {x y z i : Int} (h : pr_sn A x y i 0) (k : pr_sn A y z i 0) : pr_sn A x z i 0 := by
  unfold pr_sn at h k ⊢
  by_cases b : y < A 49 11 ∧ i < A 52 y.toNat
  · by_cases a : x < A 49 11 ∧ i < A 52 x.toNat
    · by_cases c : z < A 49 11 ∧ i < A 52 z.toNat
      · rw [if_pos ⟨a, b⟩, if_neg (by decide)] at h
        rw [if_pos ⟨b, c⟩, if_neg (by decide)] at k
        rw [if_pos ⟨a, c⟩, if_neg (by decide)]
        refine ⟨Or.inr ?_, Or.inr ?_⟩
        · exact (h.1.resolve_left (by decide)).trans (k.1.resolve_left (by decide))
        · exact (h.2.resolve_left (by decide)).trans (k.2.resolve_left (by decide))
      · rw [if_neg (fun q => c q.2)] at k
        exact absurd (k.mp b) c
    · rw [if_neg (fun q => a q.1)] at h
      exact absurd (h.mpr b) a
  · rw [if_neg (fun q => b q.2)] at h
    rw [if_neg (fun q => b q.1)] at k
    have a : ¬ (x < A 49 11 ∧ i < A 52 x.toNat) := fun q => b (h.mp q)
    have c : ¬ (z < A 49 11 ∧ i < A 52 z.toNat) := fun q => b (k.mpr q)
    rw [if_neg (fun q => a q.1)]
    exact ⟨fun q => absurd q a, fun q => absurd q c⟩
theorem cs_ge {A : ab_SG} {x y w n : Int} : ∀ f i : Nat, n ≤ (i : Int) + f → (n ≤ pr_cs A x y w f i ↔ ∀ j : Nat, i ≤ j → (j : Int) < n → pr_sn A x y (j : Int) w)
  | 0, i, h => ⟨fun _ j h1 h2 => absurd h2 (by omega), fun _ => by show n ≤ (i : Int); omega⟩
  | f + 1, i, h => by
    rw [pr_cs_s]
    by_cases q : pr_sn A x y (i : Int) w
    · rw [if_pos q, cs_ge f (i + 1) (by omega)]
      constructor
      · intro g j h1 h2
        by_cases c : j = i
        · rw [c]; exact q
        · exact g j (by omega) h2
      · intro g j h1 h2
        exact g j (by omega) h2
    · rw [if_neg q]
      constructor
      · intro g j h1 h2
        exact absurd h2 (by omega)
      · intro g
        by_cases c : n ≤ (i : Int)
        · exact c
        · exact absurd (g i (Nat.le_refl i) (by omega)) q
def oz_E (A : ab_SG) (n : Int) (x y : Nat) : Prop := n ≤ pr_cs A (x : Int) (y : Int) 0 9 0
theorem oz_E_sym {A : ab_SG} {n : Int} (hn : n ≤ 9) {x y : Nat} (h : oz_E A n x y) : oz_E A n y x :=
  (cs_ge 9 0 (by omega)).mpr (fun j h1 h2 => sn_sym ((cs_ge 9 0 (by omega)).mp h j h1 h2))
theorem oz_E_tr {A : ab_SG} {n : Int} (hn : n ≤ 9) {x y z : Nat} (h : oz_E A n x y) (k : oz_E A n y z) : oz_E A n x z :=
  (cs_ge 9 0 (by omega)).mpr (fun j h1 h2 => sn_tr ((cs_ge 9 0 (by omega)).mp h j h1 h2) ((cs_ge 9 0 (by omega)).mp k j h1 h2))
theorem oz_E_refl (A : ab_SG) {n : Int} (hn : n ≤ 9) (x : Nat) : oz_E A n x x := by
  unfold oz_E
  rw [cs_refl]
  omega
/-- bits of a set tell its least one -/
theorem lst_tb0 : ∀ s : Nat, s < 256 → ∀ x : Nat, x < 9 → pr_hs (s : Int) (x : Int) = true → (oz_lst (s : Int) x = true ↔ s % 2 ^ x = 0) := by decide +kernel
theorem lst_tb1 : ∀ s : Nat, s < 256 → ∀ x : Nat, x < 9 → pr_hs ((s + 256 : Nat) : Int) (x : Int) = true → (oz_lst ((s + 256 : Nat) : Int) x = true ↔ (s + 256) % 2 ^ x = 0) := by decide +kernel
theorem lst_tb {g : Int} (h0 : 0 ≤ g) (h5 : g < 512) {x : Nat} (hx : x < 9) (hp : pr_hs g (x : Int) = true) : oz_lst g x = true ↔ ∀ z : Nat, z < x → oz_P g z = false := by
  obtain ⟨s, rfl⟩ := Int.eq_ofNat_of_zero_le h0
  have e : oz_lst (s : Int) x = true ↔ s % 2 ^ x = 0 := by
    by_cases c : s < 256
    · exact lst_tb0 s c x hx hp
    · have := lst_tb1 (s - 256) (by omega) x hx
      rw [show s - 256 + 256 = s by omega] at this
      exact this hp
  rw [e]
  have tb : ∀ z : Nat, z < x → oz_P (s : Int) z = Nat.testBit s z := fun z hz => hs_tb (by omega) (by omega)
  constructor
  · intro q z hz
    rw [tb z hz]
    have k := Nat.testBit_mod_two_pow s x z
    rw [q, Nat.zero_testBit, decide_eq_true hz, Bool.true_and] at k
    exact k.symm
  · intro q
    refine Nat.eq_of_testBit_eq (fun z => ?_)
    rw [Nat.testBit_mod_two_pow, Nat.zero_testBit]
    by_cases c : z < x
    · rw [← tb z c, q z c, Bool.and_false]
    · rw [decide_eq_false c, Bool.false_and]
/-- a sum, each put to the one that stands for it -/
theorem oz_pick {Q : Nat → Bool} {a : Nat} {v : Int} : ∀ {n : Nat}, a < n → Q a = true → (∀ b, b < n → Q b = true → b = a) → oz_sum (fun r => cond (Q r) v 0) n = v := by
  intro n
  induction n with
  | zero => intro h; exact absurd h (Nat.not_lt_zero a)
  | succ n ih =>
    intro h1 h2 h3
    show oz_sum (fun r => cond (Q r) v 0) n + cond (Q n) v 0 = v
    by_cases c : a = n
    · subst c
      rw [h2]
      have z : oz_sum (fun r => cond (Q r) v 0) a = 0 := by
        rw [oz_sum_congr (g := fun _ => 0) (fun i hi => ?_), oz_sum_zero]
        cases q : Q i with
        | false => rfl
        | true => exact absurd (h3 i (by omega) q) (by omega)
      rw [z]
      show 0 + v = v
      omega
    · have q : Q n = false := by
        rw [← Bool.not_eq_true]
        exact fun q => c (h3 n (Nat.lt_succ_self n) q).symm
      rw [q, ih (by omega) h2 (fun b hb => h3 b (by omega))]
      show v + 0 = v
      omega
/-- the least number below n with Q -/
theorem oz_least {Q : Nat → Bool} : ∀ n : Nat, (∃ a, a < n ∧ Q a = true) → ∃ r, r < n ∧ Q r = true ∧ ∀ z, z < r → Q z = false := by
  intro n
  induction n with
  | zero => rintro ⟨a, h, _⟩; exact absurd h (Nat.not_lt_zero a)
  | succ n ih =>
    rintro ⟨a, h, q⟩
    by_cases c : ∃ a, a < n ∧ Q a = true
    · obtain ⟨r, h1, h2, h3⟩ := ih c
      exact ⟨r, by omega, h2, h3⟩
    · have : a = n := by
        by_cases d : a = n
        · exact d
        · exact absurd ⟨a, by omega, q⟩ c
      subst this
      refine ⟨a, h, q, fun z hz => ?_⟩
      rw [← Bool.not_eq_true]
      exact fun w => c ⟨z, hz, w⟩
/-- all odds of a set, group by group: S the set, P x the group of x -/
theorem oz_groups {S : Nat → Bool} {P : Nat → Nat → Bool} {f : Nat → Int} (hsub : ∀ x z, x < 9 → z < 9 → P x z = true → S z = true) (hself : ∀ x, x < 9 → S x = true → P x x = true) (heq : ∀ x z, x < 9 → z < 9 → S x = true → P x z = true → ∀ y, y < 9 → P z y = P x y) :
    oz_sum (fun x => cond (S x) (f x) 0) 9 = oz_sum (fun r => cond (S r && decide (∀ z : Nat, z < r → P r z = false)) (oz_sum (fun x => cond (P r x) (f x) 0) 9) 0) 9 := by
  have e1 : oz_sum (fun x => cond (S x) (f x) 0) 9 = oz_sum (fun x => oz_sum (fun r => cond ((S r && decide (∀ z : Nat, z < r → P r z = false)) && P r x) (f x) 0) 9) 9 := by
    refine oz_sum_congr (fun x hx => ?_)
    cases hS : S x with
    | false =>
      show (0 : Int) = _
      rw [oz_sum_congr (g := fun _ => 0) (fun r hr => ?_), oz_sum_zero]
      cases hP : P r x with
      | false => rw [Bool.and_false]; rfl
      | true => rw [hsub r x hr hx hP] at hS; cases hS
    | true =>
      obtain ⟨r, r1, r2, r3⟩ := oz_least (Q := P x) 9 ⟨x, hx, hself x hx hS⟩
      have g := heq x r hx r1 hS r2
      symm
      refine oz_pick r1 ?_ ?_
      · rw [hsub x r hx r1 r2, g x hx, hself x hx hS, decide_eq_true (fun z hz => by rw [g z (by omega)]; exact r3 z hz)]
        rfl
      · intro b hb q
        rw [Bool.and_eq_true, Bool.and_eq_true, decide_eq_true_eq] at q
        obtain ⟨⟨q1, q2⟩, q3⟩ := q
        have gb := heq b x hb hx q1 q3
        have pb : P x b = true := by rw [gb b hb]; exact hself b hb q1
        rcases Nat.lt_trichotomy b r with c | c | c
        · rw [r3 b c] at pb; cases pb
        · exact c
        · have := q2 r c
          rw [← gb r r1, r2] at this
          cases this
  rw [e1, oz_sum_swap]
  refine oz_sum_congr (fun r hr => ?_)
  cases (S r && decide (∀ z : Nat, z < r → P r z = false)) with
  | false =>
    show oz_sum (fun x => cond (false && P r x) (f x) 0) 9 = 0
    exact (oz_sum_congr (f := fun x => cond (false && P r x) (f x) 0) (g := fun _ => 0) (fun x _ => rfl)).trans (oz_sum_zero 9)
  | true => exact oz_sum_congr (fun x _ => rfl)
def oz_ro (κ : Nat → Int) (A : ab_SG) (n s : Int) : Int := oz_sum (fun x => cond (oz_P s x) (oz_nb κ (v_lk A (x : Int) n 0 s (A 49 11).toNat) x) 0) 9 * ((2520 / oz_cnt (oz_P s) 9 : Nat) : Int)
theorem oz_sm_sum (κ γ : Nat → Int) (s : Int) : ∀ X : Nat, oz_sm κ γ s X = oz_sum (fun x => cond (oz_P s x && oz_lst (γ x) x) (oz_any κ (γ x)) 0) X := by
  intro X
  induction X with
  | zero => rfl
  | succ X ih =>
    show cond (oz_P s X && oz_lst (γ X) X) (oz_sm κ γ s X + oz_any κ (γ X)) (oz_sm κ γ s X) = oz_sum _ X + cond (oz_P s X && oz_lst (γ X) X) (oz_any κ (γ X)) 0
    rw [← ih]
    cases (oz_P s X && oz_lst (γ X) X) with
    | false => show oz_sm κ γ s X = oz_sm κ γ s X + 0; omega
    | true => rfl
theorem oz_cnt_congr {P Q : Nat → Bool} : ∀ {Y : Nat}, (∀ y, y < Y → P y = Q y) → oz_cnt P Y = oz_cnt Q Y := by
  intro Y
  induction Y with
  | zero => intro _; rfl
  | succ Y ih =>
    intro h
    show cond (P Y) (oz_cnt P Y + 1) (oz_cnt P Y) = cond (Q Y) (oz_cnt Q Y + 1) (oz_cnt Q Y)
    rw [ih (fun y hy => h y (Nat.lt_succ_of_lt hy)), h Y (Nat.lt_succ_self Y)]
theorem oz_cnt_in {P : Nat → Bool} {x : Nat} (hp : P x = true) : ∀ {Y : Nat}, x < Y → oz_cnt P Y = oz_cnt (oz_but P x) Y + 1 := by
  intro Y
  induction Y with
  | zero => intro h; exact absurd h (Nat.not_lt_zero x)
  | succ Y ih =>
    intro h
    show cond (P Y) (oz_cnt P Y + 1) (oz_cnt P Y) = cond (oz_but P x Y) (oz_cnt (oz_but P x) Y + 1) (oz_cnt (oz_but P x) Y) + 1
    by_cases c : x = Y
    · subst c
      rw [hp, oz_but_self]
      have e : oz_cnt (oz_but P x) x = oz_cnt P x := oz_cnt_congr (fun y hy => oz_but_ne (Nat.ne_of_lt hy))
      show oz_cnt P x + 1 = oz_cnt (oz_but P x) x + 1
      rw [e]
    · rw [oz_but_ne (fun z => c z.symm), ih (by omega)]
      cases P Y with
      | false => rfl
      | true => rfl
theorem oz_nb_congr {κ : Nat → Int} {g g' : Int} {x : Nat} (h : ∀ y, y < 9 → oz_P g y = oz_P g' y) : oz_nb κ g x = oz_nb κ g' x := by
  have hb : ∀ y, y < 9 → oz_but (oz_P g) x y = oz_but (oz_P g') x y := fun y hy => by unfold oz_but; rw [h y hy]
  unfold oz_nb
  rw [oz_cnt_congr hb, oz_w_congr hb]
/-- the reference's odds are the class's, over 2520 times as much -/
theorem oz_same {A : ab_SG} (hi : RI A) (κ : Nat → Int) {n s : Int} (hn : 1 ≤ n ∧ n ≤ 9) (hs : 1 ≤ s ∧ s < 512) (ht : ∀ z : Nat, z < 9 → pr_hs s (z : Int) = true → (z : Int) < A 49 11) : oz_ro κ A n s = 2520 * oz_ch κ (oz_grp A n s) s := by
  have nT := (N_n hi).1
  have cp := oz_cnt_pos hs.1 hs.2
  have lh : ∀ x z : Nat, z < 9 → (pr_hs (v_lk A (x : Int) n 0 s (A 49 11).toNat) (z : Int) = true ↔ z < (A 49 11).toNat ∧ pr_hs s (z : Int) = true ∧ n ≤ pr_cs A (x : Int) (z : Int) 0 9 0) := fun x z hz => v_lk_h A (x : Int) n 0 s hz (A 49 11).toNat (by omega)
  have lb : ∀ x : Nat, 0 ≤ v_lk A (x : Int) n 0 s (A 49 11).toNat ∧ v_lk A (x : Int) n 0 s (A 49 11).toNat < 512 := fun x => v_lk_b A (x : Int) n 0 s (A 49 11).toNat (by omega)
  have pin : ∀ x z : Nat, z < 9 → (oz_P (v_lk A (x : Int) n 0 s (A 49 11).toNat) z = true ↔ oz_P s z = true ∧ oz_E A n x z) := by
    intro x z hz
    constructor
    · intro q
      have := (lh x z hz).mp q
      exact ⟨this.2.1, this.2.2⟩
    · intro q
      exact (lh x z hz).mpr ⟨by have := ht z hz q.1; omega, q.1, q.2⟩
  have self : ∀ x : Nat, x < 9 → oz_P s x = true → oz_P (v_lk A (x : Int) n 0 s (A 49 11).toNat) x = true := fun x hx q => (pin x x hx).mpr ⟨q, oz_E_refl A hn.2 x⟩
  have same : ∀ x z : Nat, x < 9 → z < 9 → oz_P s x = true → oz_P (v_lk A (x : Int) n 0 s (A 49 11).toNat) z = true → ∀ y : Nat, y < 9 → oz_P (v_lk A (z : Int) n 0 s (A 49 11).toNat) y = oz_P (v_lk A (x : Int) n 0 s (A 49 11).toNat) y := by
    intro x z hx hz _ q y hy
    have e := ((pin x z hz).mp q).2
    rw [Bool.eq_iff_iff, pin z y hy, pin x y hy]
    exact ⟨fun w => ⟨w.1, oz_E_tr hn.2 e w.2⟩, fun w => ⟨w.1, oz_E_tr hn.2 (oz_E_sym hn.2 e) w.2⟩⟩
  have key : oz_sum (fun x => cond (oz_P s x) (oz_nb κ (v_lk A (x : Int) n 0 s (A 49 11).toNat) x) 0) 9 = 2520 * oz_sm κ (oz_grp A n s) s 9 := by
    rw [oz_groups (P := fun x => oz_P (v_lk A (x : Int) n 0 s (A 49 11).toNat)) (fun x z _ hz q => ((pin x z hz).mp q).1) self same, oz_sm_sum, ← oz_sum_mul]
    refine oz_sum_congr (fun r hr => ?_)
    cases hS : oz_P s r with
    | false => exact (Int.mul_zero _).symm
    | true =>
      have eg : oz_grp A n s r = v_lk A (r : Int) n 0 s (A 49 11).toNat := if_pos hS
      rw [eg]
      have el : oz_lst (v_lk A (r : Int) n 0 s (A 49 11).toNat) r = decide (∀ z : Nat, z < r → oz_P (v_lk A (r : Int) n 0 s (A 49 11).toNat) z = false) := by
        rw [Bool.eq_iff_iff, decide_eq_true_eq]
        exact lst_tb (lb r).1 (lb r).2 hr (self r hr hS)
      rw [el]
      cases decide (∀ z : Nat, z < r → oz_P (v_lk A (r : Int) n 0 s (A 49 11).toNat) z = false) with
      | false => exact (Int.mul_zero _).symm
      | true =>
        show oz_sum (fun x => cond (oz_P (v_lk A (r : Int) n 0 s (A 49 11).toNat) x) (oz_nb κ (v_lk A (x : Int) n 0 s (A 49 11).toNat) x) 0) 9 = 2520 * oz_any κ (v_lk A (r : Int) n 0 s (A 49 11).toNat)
        have e1 : oz_sum (fun x => cond (oz_P (v_lk A (r : Int) n 0 s (A 49 11).toNat) x) (oz_nb κ (v_lk A (x : Int) n 0 s (A 49 11).toNat) x) 0) 9 = oz_sum (fun x => 9 ^ (9 - oz_cnt (oz_P (v_lk A (r : Int) n 0 s (A 49 11).toNat)) 9) * cond (oz_P (v_lk A (r : Int) n 0 s (A 49 11).toNat) x) (κ x * oz_sum (fun j => oz_w κ (oz_but (oz_P (v_lk A (r : Int) n 0 s (A 49 11).toNat)) x) 9 j * (((2520 / (j + 1) : Nat)) : Int)) 9) 0) 9 := by
          refine oz_sum_congr (fun x hx => ?_)
          cases hP : oz_P (v_lk A (r : Int) n 0 s (A 49 11).toNat) x with
          | false => exact (Int.mul_zero _).symm
          | true =>
            show oz_nb κ (v_lk A (x : Int) n 0 s (A 49 11).toNat) x = 9 ^ (9 - oz_cnt (oz_P (v_lk A (r : Int) n 0 s (A 49 11).toNat)) 9) * (κ x * oz_sum (fun j => oz_w κ (oz_but (oz_P (v_lk A (r : Int) n 0 s (A 49 11).toNat)) x) 9 j * (((2520 / (j + 1) : Nat)) : Int)) 9)
            rw [oz_nb_congr (same r x hr hx hS hP)]
            unfold oz_nb
            rw [oz_cnt_in hP hx, show 9 - (oz_cnt (oz_but (oz_P (v_lk A (r : Int) n 0 s (A 49 11).toNat)) x) 9 + 1) = 8 - oz_cnt (oz_but (oz_P (v_lk A (r : Int) n 0 s (A 49 11).toNat)) x) 9 by omega, Int.mul_left_comm]
        rw [e1, oz_sum_mul, oz_group]
        unfold oz_any
        rw [Int.mul_left_comm, Int.mul_comm (9 ^ (9 - _))]
  unfold oz_ro oz_ch oz_sh
  rw [key, show oz_cnt (oz_P s) 9 - 1 + 1 = oz_cnt (oz_P s) 9 by omega, Int.mul_assoc]
/-- between nought and all -/
theorem oz_non_b {κ : Nat → Int} {P : Nat → Bool} : ∀ {Y : Nat}, (∀ y, y < Y → 0 ≤ κ y ∧ κ y ≤ 9) → 0 ≤ oz_non κ P Y ∧ oz_non κ P Y ≤ 9 ^ oz_cnt P Y := by
  intro Y
  induction Y with
  | zero =>
    intro _
    show (0 : Int) ≤ 1 ∧ (1 : Int) ≤ 9 ^ 0
    decide
  | succ Y ih =>
    intro h
    have ih := ih (fun y hy => h y (Nat.lt_succ_of_lt hy))
    have b := h Y (Nat.lt_succ_self Y)
    show 0 ≤ cond (P Y) (oz_non κ P Y * (9 - κ Y)) (oz_non κ P Y) ∧ cond (P Y) (oz_non κ P Y * (9 - κ Y)) (oz_non κ P Y) ≤ 9 ^ cond (P Y) (oz_cnt P Y + 1) (oz_cnt P Y)
    cases P Y with
    | false => exact ih
    | true =>
      show 0 ≤ oz_non κ P Y * (9 - κ Y) ∧ oz_non κ P Y * (9 - κ Y) ≤ 9 ^ (oz_cnt P Y + 1)
      refine ⟨Int.mul_nonneg ih.1 (by omega), ?_⟩
      rw [Int.pow_succ]
      have a := Int.mul_le_mul_of_nonneg_left (show 9 - κ Y ≤ 9 by omega) ih.1
      have c := Int.mul_le_mul_of_nonneg_right ih.2 (show (0 : Int) ≤ 9 by decide)
      omega
theorem oz_any_b {κ : Nat → Int} (hk : ∀ y, y < 9 → 0 ≤ κ y ∧ κ y ≤ 9) (g : Int) : 0 ≤ oz_any κ g ∧ oz_any κ g ≤ 387420489 := by
  have b := oz_non_b (P := oz_P g) hk
  have c := oz_cnt_le (oz_P g) 9
  have p : ∀ m : Nat, m ≤ 9 → (9 : Int) ^ m * 9 ^ (9 - m) = 387420489 ∧ 0 ≤ (9 : Int) ^ (9 - m) := by decide
  have q := p _ c
  unfold oz_any
  refine ⟨Int.mul_nonneg (by omega) q.2, ?_⟩
  rw [← q.1]
  exact Int.mul_le_mul_of_nonneg_right (by omega) q.2
theorem oz_sm_b {κ γ : Nat → Int} (hk : ∀ y, y < 9 → 0 ≤ κ y ∧ κ y ≤ 9) (s : Int) : ∀ X : Nat, 0 ≤ oz_sm κ γ s X ∧ oz_sm κ γ s X ≤ ((oz_cnt (oz_P s) X : Nat) : Int) * 387420489 := by
  intro X
  induction X with
  | zero =>
    show (0 : Int) ≤ 0 ∧ (0 : Int) ≤ ((0 : Nat) : Int) * 387420489
    decide
  | succ X ih =>
    have b := oz_any_b hk (γ X)
    show 0 ≤ cond (oz_P s X && oz_lst (γ X) X) (oz_sm κ γ s X + oz_any κ (γ X)) (oz_sm κ γ s X) ∧ cond (oz_P s X && oz_lst (γ X) X) (oz_sm κ γ s X + oz_any κ (γ X)) (oz_sm κ γ s X) ≤ ((cond (oz_P s X) (oz_cnt (oz_P s) X + 1) (oz_cnt (oz_P s) X) : Nat) : Int) * 387420489
    cases oz_P s X with
    | false => exact ih
    | true =>
      cases oz_lst (γ X) X with
      | false =>
        show 0 ≤ oz_sm κ γ s X ∧ oz_sm κ γ s X ≤ ((oz_cnt (oz_P s) X + 1 : Nat) : Int) * 387420489
        omega
      | true =>
        show 0 ≤ oz_sm κ γ s X + oz_any κ (γ X) ∧ oz_sm κ γ s X + oz_any κ (γ X) ≤ ((oz_cnt (oz_P s) X + 1 : Nat) : Int) * 387420489
        omega
theorem oz_odds_bk {A : ab_SG} {p : Nat} (hk : ∀ y : Nat, y < 9 → 0 ≤ A 55 (9 * p + y) ∧ A 55 (9 * p + y) ≤ 9) {n s : Int} (hs : 1 ≤ s ∧ s < 512) : 0 ≤ oz_odds A p n s ∧ oz_odds A p n s ≤ 976299632280 := by
  have cp := oz_cnt_pos hs.1 hs.2
  have cl := oz_cnt_le (oz_P s) 9
  have b := oz_sm_b (κ := oz_kp A p) (γ := oz_grp A n s) hk s 9
  unfold oz_odds oz_ch oz_sh
  rw [show oz_cnt (oz_P s) 9 - 1 + 1 = oz_cnt (oz_P s) 9 by omega]
  have sh : ∀ m : Nat, m ≤ 9 → 1 ≤ m → ((m : Nat) : Int) * 387420489 * ((2520 / m : Nat) : Int) = 976299632280 ∧ 0 ≤ ((2520 / m : Nat) : Int) := by decide +kernel
  have q := sh _ cl cp
  refine ⟨Int.mul_nonneg b.1 q.2, ?_⟩
  rw [← q.1]
  exact Int.mul_le_mul_of_nonneg_right b.2 q.2
theorem oz_odds_b {A : ab_SG} {σ : ab_SG} (hN : NC σ A) {p : Nat} (hp : p < 5) {n s : Int} (hs : 1 ≤ s ∧ s < 512) : 0 ≤ oz_odds A p n s ∧ oz_odds A p n s ≤ 976299632280 := oz_odds_bk (fun y hy => oz_kn_b hN (by omega)) hs
theorem oz_odds_bm {A : ab_SG} {σ : ab_SG} (hN : NM σ A) {p : Nat} (hp : p < 5) {n s : Int} (hs : 1 ≤ s ∧ s < 512) : 0 ≤ oz_odds A p n s ∧ oz_odds A p n s ≤ 976299632280 := oz_odds_bk (fun y hy => on_kn_b hN (by omega)) hs
end
section
/-! questions that ask for odds -/
theorem oz_c_pe {σ A : ab_SG} (h : NC σ A) {x : Int} (hx : fw_c x = x) : m_b (c_pe σ x) = fw_bo (0 ≤ x ∧ x < A 49 13) := by
  have n := N_n h.1
  unfold c_pe
  rw [hx, (NC_n h).2.2, fw_s (x := A 49 13) (by omega) (by omega)]
  by_cases q : 0 ≤ x ∧ x < A 49 13
  · rw [fw_bo_t q, m_b1 q.1 q.2]
  · rw [fw_bo_f q, m_b0 q]
theorem oz_m_pe {σ A : ab_SG} (h : NM σ A) {x : Int} (hx : fw_c x = x) : m_b (m_pe σ x) = fw_bo (0 ≤ x ∧ x < A 49 13) := by
  have n := N_n h.1
  unfold m_pe
  rw [hx, (NM_n h).2.2, fw_s (x := A 49 13) (by omega) (by omega)]
  by_cases q : 0 ≤ x ∧ x < A 49 13
  · rw [fw_bo_t q, m_b1 q.1 q.2]
  · rw [fw_bo_f q, m_b0 q]
theorem oz_nine {k : Int} (hk : fw_c k = k) : m_b (decide (0 ≤ fw_c k) && decide (fw_c k ≤ 9)) = fw_bo (0 ≤ k ∧ k ≤ 9) := by
  rw [hk]
  by_cases q : 0 ≤ k ∧ k ≤ 9
  · rw [fw_bo_t q, m_b1 q.1 q.2]
  · rw [fw_bo_f q, m_b0 q]
theorem oz_clue {A : ab_SG} (hi : RI A) (hb : nb_is A) {c : Int} (h1 : 0 ≤ c) (h2 : c < A 49 12) : (1 ≤ v_set A c ∧ v_set A c < 512) ∧ ∀ z : Nat, z < 9 → pr_hs (v_set A c) (z : Int) = true → (z : Int) < A 49 11 := by
  have b := v_set_512 hi hb (c := c) (by omega) h2
  refine ⟨⟨?_, b.2⟩, fun z hz q => v_set_top hi hb (by omega) h2 hz q⟩
  unfold v_set
  rw [if_neg (by omega)]
  have := (hb.2.1 c.toNat (by omega)).1
  exact this
def sp_m_oddsBy : fw_SP := fun as σ K => ∃ (A : ab_SG) (n s : Int), as = [(2, 93, 0), (0, 0, n), (0, 0, s)] ∧ NM σ A ∧ (1 ≤ n ∧ n ≤ 9) ∧ (1 ≤ s ∧ s < 512) ∧ (∀ z : Nat, z < 9 → pr_hs s (z : Int) = true → (z : Int) < A 49 11) ∧ (∀ y : Nat, y < 9 → 0 ≤ σ 106 y ∧ σ 106 y ≤ 9) ∧ ∀ σ' : ab_SG, ab_okM [(107, 1000000)] σ σ' → K (some (1, 0, oz_ro (σ 106) A n s)) σ'
def sp_m_oddsOf : fw_SP := fun as σ K => ∃ (A : ab_SG) (p : Nat) (n s : Int), as = [(2, 93, 0), (0, 0, (p : Int)), (0, 0, n), (0, 0, s)] ∧ NM σ A ∧ p < 5 ∧ (1 ≤ n ∧ n ≤ 9) ∧ (1 ≤ s ∧ s < 512) ∧ (∀ z : Nat, z < 9 → pr_hs s (z : Int) = true → (z : Int) < A 49 11) ∧ ∀ σ' : ab_SG, ab_okM on_M σ σ' → K (some (1, 0, 2520 * oz_odds A p n s)) σ'
def sp_m_isNines : fw_SP := fun as σ K => ∃ v k : Int, as = [(1, 0, 2520 * v), (0, 0, k)] ∧ (0 ≤ v ∧ v ≤ 976299632280) ∧ (0 ≤ k ∧ k ≤ 9) ∧ K (some (0, 0, fw_bo (k * 976299632280 ≤ v * 9))) σ
/-- the fewest notes from n on by which the odds are k of 9 -/
def nd_f (A : ab_SG) (p : Nat) (k s : Int) : Nat → Nat → Int
  | 0, _ => -1
  | f + 1, n => if k * 976299632280 ≤ oz_odds A p (n : Int) s * 9 then (n : Int) else nd_f A p k s f (n + 1)
theorem nd_s (A : ab_SG) (p : Nat) (k s : Int) (f n : Nat) : nd_f A p k s (f + 1) n = if k * 976299632280 ≤ oz_odds A p (n : Int) s * 9 then (n : Int) else nd_f A p k s f (n + 1) := rfl
def v_needs (A : ab_SG) (p k c : Int) : Int := if (0 ≤ p ∧ p < A 49 13) ∧ (0 ≤ k ∧ k ≤ 9) ∧ (0 ≤ c ∧ c < A 49 12) then nd_f A p.toNat k (v_set A c) 9 1 else -1
/-- the ablest of the first persons, and her odds -/
def ol_f (A : ab_SG) (n s : Int) : Nat → Int × Int
  | 0 => (-1, -1)
  | p + 1 => if (ol_f A n s p).2 < oz_odds A p n s then ((p : Int), oz_odds A p n s) else ol_f A n s p
theorem ol_s (A : ab_SG) (n s : Int) (p : Nat) : ol_f A n s (p + 1) = if (ol_f A n s p).2 < oz_odds A p n s then ((p : Int), oz_odds A p n s) else ol_f A n s p := rfl
def v_ablest (A : ab_SG) (n c : Int) : Int := if (1 ≤ n ∧ n ≤ 9) ∧ (0 ≤ c ∧ c < A 49 12) then (ol_f A n (v_set A c) (A 49 13).toNat).1 else -1
theorem ol_b {A σ : ab_SG} (hN : NC σ A) {n s : Int} (hs : 1 ≤ s ∧ s < 512) : ∀ p : Nat, p ≤ 5 → -1 ≤ (ol_f A n s p).2 ∧ (ol_f A n s p).2 ≤ 976299632280
  | 0, _ => by
    show (-1 : Int) ≤ -1 ∧ (-1 : Int) ≤ 976299632280
    decide
  | p + 1, h => by
    have e := ol_b hN (n := n) hs p (by omega)
    have b := oz_odds_b hN (p := p) (by omega) (n := n) hs
    rw [ol_s]
    split
    · exact ⟨by show -1 ≤ oz_odds A p n s; omega, b.2⟩
    · exact e
def od_N : ab_ML := [(93, 0), (106, 1000000), (107, 1000000)]
def sp_needs : fw_SP := fun as σ K => ∃ (A : ab_SG) (p k c : Int), as = [(2, 0, 0), (0, 0, p), (0, 0, k), (0, 0, c)] ∧ (fw_c p = p ∧ fw_c k = k ∧ fw_c c = c) ∧ NC σ A ∧ ∀ σ' : ab_SG, ab_okM oz_M σ σ' → K (some (0, 0, v_needs A p k c)) σ'
def sp_m_needs : fw_SP := fun as σ K => ∃ (A : ab_SG) (p k c : Int), as = [(2, 93, 0), (0, 0, p), (0, 0, k), (0, 0, c)] ∧ (fw_c p = p ∧ fw_c k = k ∧ fw_c c = c) ∧ NM σ A ∧ ∀ σ' : ab_SG, ab_okM od_N σ σ' → K (some (0, 0, v_needs A p k c)) σ'
def sp_ablest : fw_SP := fun as σ K => ∃ (A : ab_SG) (n c : Int), as = [(2, 0, 0), (0, 0, n), (0, 0, c)] ∧ (fw_c n = n ∧ fw_c c = c) ∧ NC σ A ∧ ∀ σ' : ab_SG, ab_okM oz_M σ σ' → K (some (0, 0, v_ablest A n c)) σ'
def sp_m_ablest : fw_SP := fun as σ K => ∃ (A : ab_SG) (n c : Int), as = [(2, 93, 0), (0, 0, n), (0, 0, c)] ∧ (fw_c n = n ∧ fw_c c = c) ∧ NM σ A ∧ ∀ σ' : ab_SG, ab_okM od_N σ σ' → K (some (0, 0, v_ablest A n c)) σ'
theorem od_up {M N : ab_ML} {σ σ' : ab_SG} (h : ab_okM M σ σ') (hm : M.all (fun q => N.any (fun r => r.1.beq q.1 && (r.2.beq q.2 || r.2.beq 1000000))) = true) : ab_okM N σ σ' := by
  intro a b q
  refine h a b (fun r hr w => ?_)
  obtain ⟨t, ht, h2⟩ := List.any_eq_true.mp (List.all_eq_true.mp hm r hr)
  rw [Bool.and_eq_true, Bool.or_eq_true] at h2
  refine q t ht ⟨(Nat.eq_of_beq_eq_true h2.1).trans w.1, ?_⟩
  rcases h2.2 with e | e
  · rw [Nat.eq_of_beq_eq_true e]; exact w.2
  · exact Or.inr (Nat.eq_of_beq_eq_true e)
/-- rows that nothing speaks of -/
def fr_L : List Nat := [1, 2, 3, 18, 33, 85, 93, 94, 95, 97, 102] ++ (sw_T.map (fun q => q.1) ++ sw_L.map (fun q => q.1))
theorem vW_free {M : ab_ML} {σ σ1 σm : ab_SG} (hm : M.all (fun q => fr_L.all (fun k => !(q.1.beq k))) = true) (h1 : ab_okM M σ σ1) (hv : vW σm σ1) : vW σm σ := by
  have e : ∀ k j : Nat, k ∈ fr_L → σ1 k j = σ k j := fun k j hk => h1 k j (fun q hq hh => by
    have g := List.all_eq_true.mp (List.all_eq_true.mp hm q hq) k hk
    rw [hh.1, show k.beq k = true from Nat.beq_refl k] at g
    cases g)
  have hT : ∀ q ∈ sw_T, q.1 ∈ fr_L := fun q hq => List.mem_append_right _ (List.mem_append_left _ (List.mem_map.mpr ⟨q, hq, rfl⟩))
  have hL : ∀ q ∈ sw_L, q.1 ∈ fr_L := fun q hq => List.mem_append_right _ (List.mem_append_right _ (List.mem_map.mpr ⟨q, hq, rfl⟩))
  have c : ∀ k : Nat, k ∈ [1, 2, 3, 18, 33, 85, 93, 94, 95, 97, 102] → k ∈ fr_L := fun k hk => List.mem_append_left _ hk
  have su_in : ∀ k j : Nat, su k j → k ∈ fr_L := by
    intro k j h
    unfold su at h
    rcases h with h | h | h | h | h | h | h | h | h | h <;> (rw [h.1]; exact c _ (by decide))
  have sw_in : ∀ k j : Nat, sw k j → k ∈ fr_L := by
    intro k j h
    rcases h with ⟨q, hq, rfl, -⟩ | ⟨rfl, -⟩ | ⟨rfl, -⟩
    · exact hT q hq
    · exact c _ (by decide)
    · exact c _ (by decide)
  refine ⟨fun k j hs => ?_, fun k j hs => ?_⟩
  · rw [hv.1 k j hs, e k j (hs.elim (su_in k j) (sw_in k j))]
  · obtain ⟨q, hq, rfl, hj⟩ := hs
    rw [hv.2 _ j ⟨q, hq, rfl, hj⟩, e _ j (hL q hq)]
theorem vW_od {σ σ1 σm : ab_SG} (hc : cN σ) (h1 : ab_okM oz_M σ σ1) (hv : vW σm σ1) : vW σm σ := vW_free (by decide +kernel) h1 hv
theorem RQ_od {σ σ1 σm σ2 σ5 : ab_SG} (hc : cN σ) (hR : RQ σ) (h1 : ab_okM oz_M σ σ1) (hv : vW σm σ1) (h2 : ab_okM od_N σm σ2) (hw : vW σ5 σ2) : RQ σ5 :=
  ⟨RQ9_tr (vw_W hw) ⟨ra_two (cn_N hc) h1 (vw_W hv) h2 (by decide) (by decide) hR.1.1, rb_two (cn_N hc) h1 (vw_W hv) h2 (by decide) (by decide) hR.1.2.1, rk_two (cn_N hc) h1 (vw_W hv) h2 (by decide) (by decide) hR.1.2.2⟩, rx_two hc h1 hv h2 hw (by decide +kernel) (by decide +kernel) hR.2⟩
theorem od_93 (σ : ab_SG) : ab_okM od_N σ (ab_ups σ 93 0 0) := fun a b q => ab_ups_ne (fun z => q (93, 0) (by decide) ⟨z.1.symm, Or.inl z.2.symm⟩)
abbrev fk_m_oddsBy : List fw_CR := [(216, 2, false, 0, 0, sp_m_has), (261, 0, true, 11, 0, sp_m_tunes), (322, 1, false, 0, 0, sp_m_bits9), (331, 3, true, 11, 6, sp_m_namedBy)]
abbrev st_m_oddsBy : fw_K → fw_KR → fw_K := fw_st vwCl nn_sh nn_kd fw_kv fw_wc (nn_KI20.map (fun x => x.1)) (nn_KJ20.map (fun x => x.1)) (nn_PF20.map (fun x => x.1)) (nn_PS20.map (fun x => x.1)) fk_m_oddsBy 7 nn_dt284 6 2
theorem fs_m_oddsBy_0 {G : fw_K} {R : fw_KR} (hG : fw_cls st_m_oddsBy R G) {n s : Int} {σ : ab_SG} (h : G 5 [some (2, 93, 0), some (0, 0, n), some (0, 0, s), some (1, 0, ((0 : Nat) : Int)), none, some (0, 0, 0)] [] σ) : G 0 [some (2, 93, 0), some (0, 0, n), some (0, 0, s), none, none, none] [] σ := fw_on hG [5, 11, 20, 32, 34, 48] 200 h
theorem fs_m_oddsBy_5 {G : fw_K} {R : fw_KR} (hG : fw_cls st_m_oddsBy R G) {a1 a2 a3 a5 : Int} {σ : ab_SG} (h : sp_m_tunes [(2, 93, 0)] σ (fun rv σ2 => G 11 [some (2, 93, 0), some (0, 0, a1), some (0, 0, a2), some (1, 0, a3), none, some (0, 0, a5)] (rv.toList ++ [(0, 0, a5)]) σ2)) : G 5 [some (2, 93, 0), some (0, 0, a1), some (0, 0, a2), some (1, 0, a3), none, some (0, 0, a5)] [] σ := fw_on hG [5, 11, 20, 32, 34, 48] 200 h
theorem fs_m_oddsBy_11 {G : fw_K} {R : fw_KR} (hG : fw_cls st_m_oddsBy R G) {a1 a2 a3 a5 b0 b1 : Int} {σ : ab_SG} (h : (fw_c b0 ≤ fw_c b1 → sp_m_bits9 [(0, 0, a2)] σ (fun rv σ2 => G 48 [some (2, 93, 0), some (0, 0, a1), some (0, 0, a2), some (1, 0, a3), none, some (0, 0, a5)] (rv.toList ++ [(1, 0, 2520), (1, 0, a3)]) σ2)) ∧ (fw_c b1 < fw_c b0 → sp_m_has [(0, 0, a2), (0, 0, a5)] σ (fun rv σ2 => G 20 [some (2, 93, 0), some (0, 0, a1), some (0, 0, a2), some (1, 0, a3), none, some (0, 0, a5)] (rv.toList ++ []) σ2))) : G 11 [some (2, 93, 0), some (0, 0, a1), some (0, 0, a2), some (1, 0, a3), none, some (0, 0, a5)] [(0, 0, b0), (0, 0, b1)] σ := fw_on hG [5, 11, 20, 32, 34, 48] 200 h
theorem fs_m_oddsBy_48 {G : fw_K} {R : fw_KR} (hG : fw_cls st_m_oddsBy R G) {b0 b1 b2 : Int} {o1 o2 o3 o5 : Option ab_AV} {σ : ab_SG} (h : fw_d (fw_c b0) ≠ 0 ∧ (R (some (1, 0, b2 * (fw_lop 3 b1 (fw_c b0)))) σ)) : G 48 [some (2, 93, 0), o1, o2, o3, none, o5] [(0, 0, b0), (1, 0, b1), (1, 0, b2)] σ := fw_on hG [5, 11, 20, 32, 34, 48] 200 h
theorem fs_m_oddsBy_20 {G : fw_K} {R : fw_KR} (hG : fw_cls st_m_oddsBy R G) {a1 a2 a3 a5 b0 : Int} {σ : ab_SG} (h : (fw_c b0 = 0 → G 34 [some (2, 93, 0), some (0, 0, a1), some (0, 0, a2), some (1, 0, a3), none, some (0, 0, a5)] [] σ) ∧ (fw_c b0 ≠ 0 → sp_m_namedBy [(2, 93, 0), (0, 0, a5), (0, 0, a1), (0, 0, a2)] σ (fun rv σ2 => G 32 [some (2, 93, 0), some (0, 0, a1), some (0, 0, a2), some (1, 0, a3), none, some (0, 0, a5)] (rv.toList ++ [(1, 0, a3)]) σ2))) : G 20 [some (2, 93, 0), some (0, 0, a1), some (0, 0, a2), some (1, 0, a3), none, some (0, 0, a5)] [(0, 0, b0)] σ := fw_on hG [5, 11, 20, 32, 34, 48] 200 h
theorem fs_m_oddsBy_34 {G : fw_K} {R : fw_KR} (hG : fw_cls st_m_oddsBy R G) {a1 a2 a3 a5 : Int} {σ : ab_SG} (h : G 5 [some (2, 93, 0), some (0, 0, a1), some (0, 0, a2), some (1, 0, a3), none, some (0, 0, a5 + 1)] [] σ) : G 34 [some (2, 93, 0), some (0, 0, a1), some (0, 0, a2), some (1, 0, a3), none, some (0, 0, a5)] [] σ := fw_on hG [5, 11, 20, 32, 34, 48] 200 h
theorem fs_m_oddsBy_32 {G : fw_K} {R : fw_KR} (hG : fw_cls st_m_oddsBy R G) {a1 a2 a5 b0 b1 : Int} {o3 : Option ab_AV} {σ : ab_SG} (h : G 34 [some (2, 93, 0), some (0, 0, a1), some (0, 0, a2), some (1, 0, b1 + b0), none, some (0, 0, a5)] [] σ) : G 32 [some (2, 93, 0), some (0, 0, a1), some (0, 0, a2), o3, none, some (0, 0, a5)] [(1, 0, b0), (1, 0, b1)] σ := fw_on hG [5, 11, 20, 32, 34, 48] 200 h
abbrev fk_m_oddsOf : List fw_CR := [(335, 1, true, 11, 2, sp_m_layMind), (338, 2, true, 11, 7, sp_m_oddsBy)]
abbrev st_m_oddsOf : fw_K → fw_KR → fw_K := fw_st vwCl nn_sh nn_kd fw_kv fw_wc (nn_KI20.map (fun x => x.1)) (nn_KJ20.map (fun x => x.1)) (nn_PF20.map (fun x => x.1)) (nn_PS20.map (fun x => x.1)) fk_m_oddsOf 8 nn_dt283 4 2
theorem fs_m_oddsOf_0 {G : fw_K} {R : fw_KR} (hG : fw_cls st_m_oddsOf R G) {p n s : Int} {σ : ab_SG} (h : sp_m_layMind [(2, 93, 0), (0, 0, p)] σ (fun rv σ2 => G 5 [some (2, 93, 0), some (0, 0, p), some (0, 0, n), some (0, 0, s)] (rv.toList ++ []) σ2)) : G 0 [some (2, 93, 0), some (0, 0, p), some (0, 0, n), some (0, 0, s)] [] σ := fw_on hG [5, 11] 200 h
theorem fs_m_oddsOf_5 {G : fw_K} {R : fw_KR} (hG : fw_cls st_m_oddsOf R G) {a1 a2 a3 : Int} {σ : ab_SG} (h : sp_m_oddsBy [(2, 93, 0), (0, 0, a2), (0, 0, a3)] σ (fun rv σ2 => G 11 [some (2, 93, 0), some (0, 0, a1), some (0, 0, a2), some (0, 0, a3)] (rv.toList ++ []) σ2)) : G 5 [some (2, 93, 0), some (0, 0, a1), some (0, 0, a2), some (0, 0, a3)] [] σ := fw_on hG [5, 11] 200 h
theorem fs_m_oddsOf_11 {G : fw_K} {R : fw_KR} (hG : fw_cls st_m_oddsOf R G) {a1 a2 a3 b0 : Int} {σ : ab_SG} (h : R (some (1, 0, b0)) σ) : G 11 [some (2, 93, 0), some (0, 0, a1), some (0, 0, a2), some (0, 0, a3)] [(1, 0, b0)] σ := fw_on hG [5, 11] 200 h
abbrev fk_m_isNines : List fw_CR := []
abbrev st_m_isNines : fw_K → fw_KR → fw_K := fw_st vwCl nn_sh nn_kd fw_kv fw_wc (nn_KI20.map (fun x => x.1)) (nn_KJ20.map (fun x => x.1)) (nn_PF20.map (fun x => x.1)) (nn_PS20.map (fun x => x.1)) fk_m_isNines 0 nn_dt287 3 1
theorem fs_m_isNines_0 {G : fw_K} {R : fw_KR} (hG : fw_cls st_m_isNines R G) {v k : Int} {σ : ab_SG} (h : (fw_d v < fw_d (273363897038400 * (fw_c k)) → (0 ≤ fw_c 0 ∧ fw_c 0 ≤ 1) ∧ R (some (0, 0, 0)) σ) ∧ (fw_d (273363897038400 * (fw_c k)) ≤ fw_d v → (0 ≤ fw_c 1 ∧ fw_c 1 ≤ 1) ∧ R (some (0, 0, 1)) σ)) : G 0 [some (1, 0, v), none, some (0, 0, k)] [] σ := fw_on hG [] 200 h
abbrev fk_needs : List fw_CR := [(166, 1, true, 6, 0, sp_isClue3), (169, 1, true, 6, 1, sp_setOf3), (173, 1, true, 6, 0, sp_isPerson3), (228, 3, true, 10, 4, sp_chanceOf), (232, 1, false, 0, 0, sp_isNinth), (235, 2, false, 0, 0, sp_reaches)]
abbrev st_needs : fw_K → fw_KR → fw_K := fw_st vwCl nn_sh nn_kd fw_kv fw_wc (nn_KI1.map (fun x => x.1)) (nn_KJ1.map (fun x => x.1)) (nn_PF1.map (fun x => x.1)) (nn_PS1.map (fun x => x.1)) fk_needs 5 nn_dt80 5 0
theorem fs_needs_0 {G : fw_K} {R : fw_KR} (hG : fw_cls st_needs R G) {p k c : Int} {σ : ab_SG} (h : sp_isPerson3 [(2, 3, 0), (0, 0, p)] σ (fun rv σ2 => G 8 [some (2, 0, 0), some (0, 0, p), some (0, 0, k), some (0, 0, c), none] (rv.toList ++ []) σ2)) : G 0 [some (2, 0, 0), some (0, 0, p), some (0, 0, k), some (0, 0, c), none] [] σ := fw_on hG [8, 15, 26, 34, 53, 56, 60] 200 h
theorem fs_needs_8 {G : fw_K} {R : fw_KR} (hG : fw_cls st_needs R G) {a1 a2 a3 b0 : Int} {o4 : Option ab_AV} {σ : ab_SG} (h : (fw_c b0 = 0 → R (some (0, 0, (-1))) σ) ∧ (fw_c b0 ≠ 0 → sp_isNinth [(0, 0, a2)] σ (fun rv σ2 => G 15 [some (2, 0, 0), some (0, 0, a1), some (0, 0, a2), some (0, 0, a3), o4] (rv.toList ++ []) σ2))) : G 8 [some (2, 0, 0), some (0, 0, a1), some (0, 0, a2), some (0, 0, a3), o4] [(0, 0, b0)] σ := fw_on hG [8, 15, 26, 34, 53, 56, 60] 200 h
theorem fs_needs_15 {G : fw_K} {R : fw_KR} (hG : fw_cls st_needs R G) {a1 a2 a3 b0 : Int} {o4 : Option ab_AV} {σ : ab_SG} (h : (fw_c b0 = 0 → R (some (0, 0, (-1))) σ) ∧ (fw_c b0 ≠ 0 → sp_isClue3 [(2, 3, 0), (0, 0, a3)] σ (fun rv σ2 => G 26 [some (2, 0, 0), some (0, 0, a1), some (0, 0, a2), some (0, 0, a3), o4] (rv.toList ++ []) σ2))) : G 15 [some (2, 0, 0), some (0, 0, a1), some (0, 0, a2), some (0, 0, a3), o4] [(0, 0, b0)] σ := fw_on hG [8, 15, 26, 34, 53, 56, 60] 200 h
theorem fs_needs_26 {G : fw_K} {R : fw_KR} (hG : fw_cls st_needs R G) {a1 a2 a3 b0 : Int} {o4 : Option ab_AV} {σ : ab_SG} (h : (fw_c b0 ≠ 0 → G 34 [some (2, 0, 0), some (0, 0, a1), some (0, 0, a2), some (0, 0, a3), some (0, 0, 1)] [] σ) ∧ (fw_c b0 = 0 → R (some (0, 0, (-1))) σ)) : G 26 [some (2, 0, 0), some (0, 0, a1), some (0, 0, a2), some (0, 0, a3), o4] [(0, 0, b0)] σ := fw_on hG [8, 15, 26, 34, 53, 56, 60] 200 h
theorem fs_needs_34 {G : fw_K} {R : fw_KR} (hG : fw_cls st_needs R G) {a1 a2 a3 a4 : Int} {σ : ab_SG} (h : (fw_c 9 < fw_c a4 → R (some (0, 0, (-1))) σ) ∧ (fw_c a4 ≤ fw_c 9 → sp_setOf3 [(2, 3, 0), (0, 0, a3)] σ (fun rv σ2 => G 53 [some (2, 0, 0), some (0, 0, a1), some (0, 0, a2), some (0, 0, a3), some (0, 0, a4)] (rv.toList ++ [(0, 0, a4), (0, 0, a1), (2, 0, 0)]) σ2))) : G 34 [some (2, 0, 0), some (0, 0, a1), some (0, 0, a2), some (0, 0, a3), some (0, 0, a4)] [] σ := fw_on hG [8, 15, 26, 34, 53, 56, 60] 200 h
theorem fs_needs_53 {G : fw_K} {R : fw_KR} (hG : fw_cls st_needs R G) {a1 a2 a3 a4 b0 b1 b2 : Int} {σ : ab_SG} (h : sp_chanceOf [(2, 0, 0), (0, 0, b2), (0, 0, b1), (0, 0, b0)] σ (fun rv σ2 => G 56 [some (2, 0, 0), some (0, 0, a1), some (0, 0, a2), some (0, 0, a3), some (0, 0, a4)] (rv.toList ++ []) σ2)) : G 53 [some (2, 0, 0), some (0, 0, a1), some (0, 0, a2), some (0, 0, a3), some (0, 0, a4)] [(0, 0, b0), (0, 0, b1), (0, 0, b2), (2, 0, 0)] σ := fw_on hG [8, 15, 26, 34, 53, 56, 60] 200 h
theorem fs_needs_56 {G : fw_K} {R : fw_KR} (hG : fw_cls st_needs R G) {a1 a2 a3 a4 b0 : Int} {σ : ab_SG} (h : sp_reaches [(1, 0, b0), (0, 0, a2)] σ (fun rv σ2 => G 60 [some (2, 0, 0), some (0, 0, a1), some (0, 0, a2), some (0, 0, a3), some (0, 0, a4)] (rv.toList ++ []) σ2)) : G 56 [some (2, 0, 0), some (0, 0, a1), some (0, 0, a2), some (0, 0, a3), some (0, 0, a4)] [(1, 0, b0)] σ := fw_on hG [8, 15, 26, 34, 53, 56, 60] 200 h
theorem fs_needs_60 {G : fw_K} {R : fw_KR} (hG : fw_cls st_needs R G) {a1 a2 a3 a4 b0 : Int} {σ : ab_SG} (h : (fw_c b0 = 0 → G 34 [some (2, 0, 0), some (0, 0, a1), some (0, 0, a2), some (0, 0, a3), some (0, 0, a4 + 1)] [] σ) ∧ (fw_c b0 ≠ 0 → R (some (0, 0, a4)) σ)) : G 60 [some (2, 0, 0), some (0, 0, a1), some (0, 0, a2), some (0, 0, a3), some (0, 0, a4)] [(0, 0, b0)] σ := fw_on hG [8, 15, 26, 34, 53, 56, 60] 200 h
abbrev fk_m_needs : List fw_CR := [(171, 3, false, 0, 0, sp_m_isIn), (264, 1, true, 11, 0, sp_m_isClue), (281, 1, true, 11, 0, sp_m_isPerson), (303, 1, true, 11, 1, sp_m_left), (355, 3, true, 11, 8, sp_m_oddsOf), (362, 2, false, 0, 0, sp_m_isNines)]
abbrev st_m_needs : fw_K → fw_KR → fw_K := fw_st vwCl nn_sh nn_kd fw_kv fw_wc (nn_KI20.map (fun x => x.1)) (nn_KJ20.map (fun x => x.1)) (nn_PF20.map (fun x => x.1)) (nn_PS20.map (fun x => x.1)) fk_m_needs 9 nn_dt286 5 0
theorem fs_m_needs_0 {G : fw_K} {R : fw_KR} (hG : fw_cls st_m_needs R G) {p k c : Int} {σ : ab_SG} (h : sp_m_isPerson [(2, 93, 0), (0, 0, p)] (ab_ups σ 93 0 (fw_c 0)) (fun rv σ2 => G 10 [some (2, 93, 0), some (0, 0, p), some (0, 0, k), some (0, 0, c), none] (rv.toList ++ []) σ2)) : G 0 [some (2, 93, 0), some (0, 0, p), some (0, 0, k), some (0, 0, c), none] [] σ := fw_on hG [10, 20, 28, 36, 52, 55, 59] 200 h
theorem fs_m_needs_10 {G : fw_K} {R : fw_KR} (hG : fw_cls st_m_needs R G) {a1 a2 a3 b0 : Int} {o4 : Option ab_AV} {σ : ab_SG} (h : (fw_c b0 = 0 → R (some (0, 0, (-1))) σ) ∧ (fw_c b0 ≠ 0 → sp_m_isIn [(0, 0, a2), (0, 0, 0), (0, 0, 9)] σ (fun rv σ2 => G 20 [some (2, 93, 0), some (0, 0, a1), some (0, 0, a2), some (0, 0, a3), o4] (rv.toList ++ []) σ2))) : G 10 [some (2, 93, 0), some (0, 0, a1), some (0, 0, a2), some (0, 0, a3), o4] [(0, 0, b0)] σ := fw_on hG [10, 20, 28, 36, 52, 55, 59] 200 h
theorem fs_m_needs_20 {G : fw_K} {R : fw_KR} (hG : fw_cls st_m_needs R G) {a1 a2 a3 b0 : Int} {o4 : Option ab_AV} {σ : ab_SG} (h : (fw_c b0 = 0 → R (some (0, 0, (-1))) σ) ∧ (fw_c b0 ≠ 0 → sp_m_isClue [(2, 93, 0), (0, 0, a3)] σ (fun rv σ2 => G 28 [some (2, 93, 0), some (0, 0, a1), some (0, 0, a2), some (0, 0, a3), o4] (rv.toList ++ []) σ2))) : G 20 [some (2, 93, 0), some (0, 0, a1), some (0, 0, a2), some (0, 0, a3), o4] [(0, 0, b0)] σ := fw_on hG [10, 20, 28, 36, 52, 55, 59] 200 h
theorem fs_m_needs_28 {G : fw_K} {R : fw_KR} (hG : fw_cls st_m_needs R G) {a1 a2 a3 b0 : Int} {o4 : Option ab_AV} {σ : ab_SG} (h : (fw_c b0 ≠ 0 → G 36 [some (2, 93, 0), some (0, 0, a1), some (0, 0, a2), some (0, 0, a3), some (0, 0, 1)] [] σ) ∧ (fw_c b0 = 0 → R (some (0, 0, (-1))) σ)) : G 28 [some (2, 93, 0), some (0, 0, a1), some (0, 0, a2), some (0, 0, a3), o4] [(0, 0, b0)] σ := fw_on hG [10, 20, 28, 36, 52, 55, 59] 200 h
theorem fs_m_needs_36 {G : fw_K} {R : fw_KR} (hG : fw_cls st_m_needs R G) {a1 a2 a3 a4 : Int} {σ : ab_SG} (h : (fw_c 9 < fw_c a4 → R (some (0, 0, (-1))) σ) ∧ (fw_c a4 ≤ fw_c 9 → sp_m_left [(2, 93, 0), (0, 0, a3)] σ (fun rv σ2 => G 52 [some (2, 93, 0), some (0, 0, a1), some (0, 0, a2), some (0, 0, a3), some (0, 0, a4)] (rv.toList ++ [(0, 0, a4), (0, 0, a1), (2, 93, 0)]) σ2))) : G 36 [some (2, 93, 0), some (0, 0, a1), some (0, 0, a2), some (0, 0, a3), some (0, 0, a4)] [] σ := fw_on hG [10, 20, 28, 36, 52, 55, 59] 200 h
theorem fs_m_needs_52 {G : fw_K} {R : fw_KR} (hG : fw_cls st_m_needs R G) {a1 a2 a3 a4 b0 b1 b2 : Int} {σ : ab_SG} (h : sp_m_oddsOf [(2, 93, 0), (0, 0, b2), (0, 0, b1), (0, 0, b0)] σ (fun rv σ2 => G 55 [some (2, 93, 0), some (0, 0, a1), some (0, 0, a2), some (0, 0, a3), some (0, 0, a4)] (rv.toList ++ []) σ2)) : G 52 [some (2, 93, 0), some (0, 0, a1), some (0, 0, a2), some (0, 0, a3), some (0, 0, a4)] [(0, 0, b0), (0, 0, b1), (0, 0, b2), (2, 93, 0)] σ := fw_on hG [10, 20, 28, 36, 52, 55, 59] 200 h
theorem fs_m_needs_55 {G : fw_K} {R : fw_KR} (hG : fw_cls st_m_needs R G) {a1 a2 a3 a4 b0 : Int} {σ : ab_SG} (h : sp_m_isNines [(1, 0, b0), (0, 0, a2)] σ (fun rv σ2 => G 59 [some (2, 93, 0), some (0, 0, a1), some (0, 0, a2), some (0, 0, a3), some (0, 0, a4)] (rv.toList ++ []) σ2)) : G 55 [some (2, 93, 0), some (0, 0, a1), some (0, 0, a2), some (0, 0, a3), some (0, 0, a4)] [(1, 0, b0)] σ := fw_on hG [10, 20, 28, 36, 52, 55, 59] 200 h
theorem fs_m_needs_59 {G : fw_K} {R : fw_KR} (hG : fw_cls st_m_needs R G) {a1 a2 a3 a4 b0 : Int} {σ : ab_SG} (h : (fw_c b0 = 0 → G 36 [some (2, 93, 0), some (0, 0, a1), some (0, 0, a2), some (0, 0, a3), some (0, 0, a4 + 1)] [] σ) ∧ (fw_c b0 ≠ 0 → R (some (0, 0, a4)) σ)) : G 59 [some (2, 93, 0), some (0, 0, a1), some (0, 0, a2), some (0, 0, a3), some (0, 0, a4)] [(0, 0, b0)] σ := fw_on hG [10, 20, 28, 36, 52, 55, 59] 200 h
abbrev fk_ablest : List fw_CR := [(166, 1, true, 6, 0, sp_isClue3), (169, 1, true, 6, 1, sp_setOf3), (184, 1, false, 0, 0, sp_isBid), (228, 3, true, 10, 4, sp_chanceOf)]
abbrev st_ablest : fw_K → fw_KR → fw_K := fw_st vwCl nn_sh nn_kd fw_kv fw_wc (nn_KI1.map (fun x => x.1)) (nn_KJ1.map (fun x => x.1)) (nn_PF1.map (fun x => x.1)) (nn_PS1.map (fun x => x.1)) fk_ablest 5 nn_dt126 9 0
theorem fs_ablest_0 {G : fw_K} {R : fw_KR} (hG : fw_cls st_ablest R G) {n c : Int} {σ : ab_SG} (h : sp_isBid [(0, 0, n)] σ (fun rv σ2 => G 4 [some (2, 0, 0), some (0, 0, n), some (0, 0, c), none, none, none, none, none, none] (rv.toList ++ []) σ2)) : G 0 [some (2, 0, 0), some (0, 0, n), some (0, 0, c), none, none, none, none, none, none] [] σ := fw_on hG [4, 15, 30, 54, 57, 74] 200 h
theorem fs_ablest_4 {G : fw_K} {R : fw_KR} (hG : fw_cls st_ablest R G) {a1 a2 b0 : Int} {o3 o4 o6 o7 o8 : Option ab_AV} {σ : ab_SG} (h : (fw_c b0 = 0 → R (some (0, 0, (-1))) σ) ∧ (fw_c b0 ≠ 0 → sp_isClue3 [(2, 3, 0), (0, 0, a2)] σ (fun rv σ2 => G 15 [some (2, 0, 0), some (0, 0, a1), some (0, 0, a2), o3, o4, none, o6, o7, o8] (rv.toList ++ []) σ2))) : G 4 [some (2, 0, 0), some (0, 0, a1), some (0, 0, a2), o3, o4, none, o6, o7, o8] [(0, 0, b0)] σ := fw_on hG [4, 15, 30, 54, 57, 74] 200 h
theorem fs_ablest_15 {G : fw_K} {R : fw_KR} (hG : fw_cls st_ablest R G) {a1 a2 b0 : Int} {o3 o4 o6 o7 o8 : Option ab_AV} {σ : ab_SG} (h : (fw_c b0 ≠ 0 → G 30 [some (2, 0, 0), some (0, 0, a1), some (0, 0, a2), some (0, 0, (-1)), some (1, 0, (-1)), none, some (0, 0, 0), o7, o8] [] σ) ∧ (fw_c b0 = 0 → R (some (0, 0, (-1))) σ)) : G 15 [some (2, 0, 0), some (0, 0, a1), some (0, 0, a2), o3, o4, none, o6, o7, o8] [(0, 0, b0)] σ := fw_on hG [4, 15, 30, 54, 57, 74] 200 h
theorem fs_ablest_30 {G : fw_K} {R : fw_KR} (hG : fw_cls st_ablest R G) {a1 a2 a3 a4 a6 : Int} {o7 o8 : Option ab_AV} {σ : ab_SG} (h : (fw_c (σ 3 13) ≤ fw_c a6 → R (some (0, 0, a3)) σ) ∧ (fw_c a6 < fw_c (σ 3 13) → sp_setOf3 [(2, 3, 0), (0, 0, a2)] σ (fun rv σ2 => G 54 [some (2, 0, 0), some (0, 0, a1), some (0, 0, a2), some (0, 0, a3), some (1, 0, a4), none, some (0, 0, a6), o7, o8] (rv.toList ++ [(0, 0, a1), (0, 0, a6), (2, 0, 0)]) σ2))) : G 30 [some (2, 0, 0), some (0, 0, a1), some (0, 0, a2), some (0, 0, a3), some (1, 0, a4), none, some (0, 0, a6), o7, o8] [] σ := fw_on hG [4, 15, 30, 54, 57, 74] 200 h
theorem fs_ablest_54 {G : fw_K} {R : fw_KR} (hG : fw_cls st_ablest R G) {a1 a2 a3 a4 a6 b0 b1 b2 : Int} {o7 o8 : Option ab_AV} {σ : ab_SG} (h : sp_chanceOf [(2, 0, 0), (0, 0, b2), (0, 0, b1), (0, 0, b0)] σ (fun rv σ2 => G 57 [some (2, 0, 0), some (0, 0, a1), some (0, 0, a2), some (0, 0, a3), some (1, 0, a4), none, some (0, 0, a6), o7, o8] (rv.toList ++ []) σ2)) : G 54 [some (2, 0, 0), some (0, 0, a1), some (0, 0, a2), some (0, 0, a3), some (1, 0, a4), none, some (0, 0, a6), o7, o8] [(0, 0, b0), (0, 0, b1), (0, 0, b2), (2, 0, 0)] σ := fw_on hG [4, 15, 30, 54, 57, 74] 200 h
theorem fs_ablest_57 {G : fw_K} {R : fw_KR} (hG : fw_cls st_ablest R G) {a1 a2 a3 a4 a6 b0 : Int} {o7 o8 : Option ab_AV} {σ : ab_SG} (h : (fw_d b0 ≤ fw_d a4 → G 74 [some (2, 0, 0), some (0, 0, a1), some (0, 0, a2), some (0, 0, a3), some (1, 0, a4), none, some (0, 0, a6), some (1, 0, b0), none] [] σ) ∧ (fw_d a4 < fw_d b0 → G 74 [some (2, 0, 0), some (0, 0, a1), some (0, 0, a2), some (0, 0, a6), some (1, 0, b0), none, some (0, 0, a6), some (1, 0, b0), none] [] σ)) : G 57 [some (2, 0, 0), some (0, 0, a1), some (0, 0, a2), some (0, 0, a3), some (1, 0, a4), none, some (0, 0, a6), o7, o8] [(1, 0, b0)] σ := fw_on hG [4, 15, 30, 54, 57, 74] 200 h
theorem fs_ablest_74 {G : fw_K} {R : fw_KR} (hG : fw_cls st_ablest R G) {a1 a2 a3 a4 a6 : Int} {o7 o8 : Option ab_AV} {σ : ab_SG} (h : G 30 [some (2, 0, 0), some (0, 0, a1), some (0, 0, a2), some (0, 0, a3), some (1, 0, a4), none, some (0, 0, a6 + 1), o7, o8] [] σ) : G 74 [some (2, 0, 0), some (0, 0, a1), some (0, 0, a2), some (0, 0, a3), some (1, 0, a4), none, some (0, 0, a6), o7, o8] [] σ := fw_on hG [4, 15, 30, 54, 57, 74] 200 h
abbrev fk_m_ablest : List fw_CR := [(171, 3, false, 0, 0, sp_m_isIn), (264, 1, true, 11, 0, sp_m_isClue), (303, 1, true, 11, 1, sp_m_left), (355, 3, true, 11, 8, sp_m_oddsOf)]
abbrev st_m_ablest : fw_K → fw_KR → fw_K := fw_st vwCl nn_sh nn_kd fw_kv fw_wc (nn_KI20.map (fun x => x.1)) (nn_KJ20.map (fun x => x.1)) (nn_PF20.map (fun x => x.1)) (nn_PS20.map (fun x => x.1)) fk_m_ablest 9 nn_dt288 9 0
theorem fs_m_ablest_0 {G : fw_K} {R : fw_KR} (hG : fw_cls st_m_ablest R G) {n c : Int} {σ : ab_SG} (h : sp_m_isIn [(0, 0, n), (0, 0, 1), (0, 0, 9)] (ab_ups σ 93 0 (fw_c 0)) (fun rv σ2 => G 12 [some (2, 93, 0), some (0, 0, n), some (0, 0, c), none, none, none, none, none, none] (rv.toList ++ []) σ2)) : G 0 [some (2, 93, 0), some (0, 0, n), some (0, 0, c), none, none, none, none, none, none] [] σ := fw_on hG [12, 20, 35, 55, 58, 78] 200 h
theorem fs_m_ablest_12 {G : fw_K} {R : fw_KR} (hG : fw_cls st_m_ablest R G) {a1 a2 b0 : Int} {o3 o4 o6 o7 o8 : Option ab_AV} {σ : ab_SG} (h : (fw_c b0 = 0 → R (some (0, 0, (-1))) σ) ∧ (fw_c b0 ≠ 0 → sp_m_isClue [(2, 93, 0), (0, 0, a2)] σ (fun rv σ2 => G 20 [some (2, 93, 0), some (0, 0, a1), some (0, 0, a2), o3, o4, none, o6, o7, o8] (rv.toList ++ []) σ2))) : G 12 [some (2, 93, 0), some (0, 0, a1), some (0, 0, a2), o3, o4, none, o6, o7, o8] [(0, 0, b0)] σ := fw_on hG [12, 20, 35, 55, 58, 78] 200 h
theorem fs_m_ablest_20 {G : fw_K} {R : fw_KR} (hG : fw_cls st_m_ablest R G) {a1 a2 b0 : Int} {o3 o4 o6 o7 o8 : Option ab_AV} {σ : ab_SG} (h : (fw_c b0 ≠ 0 → G 35 [some (2, 93, 0), some (0, 0, a1), some (0, 0, a2), some (0, 0, (-1)), some (1, 0, (-1)), none, some (0, 0, 0), o7, o8] [] σ) ∧ (fw_c b0 = 0 → R (some (0, 0, (-1))) σ)) : G 20 [some (2, 93, 0), some (0, 0, a1), some (0, 0, a2), o3, o4, none, o6, o7, o8] [(0, 0, b0)] σ := fw_on hG [12, 20, 35, 55, 58, 78] 200 h
theorem fs_m_ablest_35 {G : fw_K} {R : fw_KR} (hG : fw_cls st_m_ablest R G) {a1 a2 a3 a4 a6 : Int} {o7 o8 : Option ab_AV} {σ : ab_SG} (h : (0 ≤ fw_c 2 ∧ fw_c 2 < ((474 : Nat) : Int)) ∧ ((fw_c (σ 95 (fw_c 2).toNat) ≤ fw_c a6 → R (some (0, 0, a3)) σ) ∧ (fw_c a6 < fw_c (σ 95 (fw_c 2).toNat) → sp_m_left [(2, 93, 0), (0, 0, a2)] σ (fun rv σ2 => G 55 [some (2, 93, 0), some (0, 0, a1), some (0, 0, a2), some (0, 0, a3), some (1, 0, a4), none, some (0, 0, a6), o7, o8] (rv.toList ++ [(0, 0, a1), (0, 0, a6), (2, 93, 0)]) σ2)))) : G 35 [some (2, 93, 0), some (0, 0, a1), some (0, 0, a2), some (0, 0, a3), some (1, 0, a4), none, some (0, 0, a6), o7, o8] [] σ := fw_on hG [12, 20, 35, 55, 58, 78] 200 h
theorem fs_m_ablest_55 {G : fw_K} {R : fw_KR} (hG : fw_cls st_m_ablest R G) {a1 a2 a3 a4 a6 b0 b1 b2 : Int} {o7 o8 : Option ab_AV} {σ : ab_SG} (h : sp_m_oddsOf [(2, 93, 0), (0, 0, b2), (0, 0, b1), (0, 0, b0)] σ (fun rv σ2 => G 58 [some (2, 93, 0), some (0, 0, a1), some (0, 0, a2), some (0, 0, a3), some (1, 0, a4), none, some (0, 0, a6), o7, o8] (rv.toList ++ []) σ2)) : G 55 [some (2, 93, 0), some (0, 0, a1), some (0, 0, a2), some (0, 0, a3), some (1, 0, a4), none, some (0, 0, a6), o7, o8] [(0, 0, b0), (0, 0, b1), (0, 0, b2), (2, 93, 0)] σ := fw_on hG [12, 20, 35, 55, 58, 78] 200 h
theorem fs_m_ablest_58 {G : fw_K} {R : fw_KR} (hG : fw_cls st_m_ablest R G) {a1 a2 a3 a4 a6 b0 : Int} {o7 o8 : Option ab_AV} {σ : ab_SG} (h : (fw_d a4 < fw_d b0 → G 78 [some (2, 93, 0), some (0, 0, a1), some (0, 0, a2), some (0, 0, a6), some (1, 0, b0), none, some (0, 0, a6), some (1, 0, b0), none] [] σ) ∧ (fw_d b0 ≤ fw_d a4 → G 78 [some (2, 93, 0), some (0, 0, a1), some (0, 0, a2), some (0, 0, a3), some (1, 0, a4), none, some (0, 0, a6), some (1, 0, b0), none] [] σ)) : G 58 [some (2, 93, 0), some (0, 0, a1), some (0, 0, a2), some (0, 0, a3), some (1, 0, a4), none, some (0, 0, a6), o7, o8] [(1, 0, b0)] σ := fw_on hG [12, 20, 35, 55, 58, 78] 200 h
theorem fs_m_ablest_78 {G : fw_K} {R : fw_KR} (hG : fw_cls st_m_ablest R G) {a1 a2 a3 a4 a6 : Int} {o7 o8 : Option ab_AV} {σ : ab_SG} (h : G 35 [some (2, 93, 0), some (0, 0, a1), some (0, 0, a2), some (0, 0, a3), some (1, 0, a4), none, some (0, 0, a6 + 1), o7, o8] [] σ) : G 78 [some (2, 93, 0), some (0, 0, a1), some (0, 0, a2), some (0, 0, a3), some (1, 0, a4), none, some (0, 0, a6), o7, o8] [] σ := fw_on hG [12, 20, 35, 55, 58, 78] 200 h

section
variable {l : Launch} {cy : Nat → ClassId} {ad wr cr : Nat → Nat} {D : va_G}
theorem fm_m_oddsBy (hinj : nn_inj ad) : fw_H l cy ad wr cr D 284 7 sp_m_oddsBy := fw_mk hinj (⟨"NameNotesModel", "oddsBy", "(II)J"⟩, prog_14_method_78_code, 6, (Option.some Jvm.ClassFile.FieldType.long), 2, true, 2) rfl rfl nn_KI20_ok nn_KJ20_ok nn_PF20_ok nn_PS20_ok (by decide +kernel) rfl rfl (List.forall_mem_cons.mpr ⟨fw_row nn_PM20_ok (x := 216) (k := 0) (mn := 230) (np := 2) (ob := false) (ci := 0) (⟨"NameNotesModel", "has", "(II)Z"⟩, prog_14_method_9_code, 2, (Option.some Jvm.ClassFile.FieldType.boolean), 2, false, 1) rfl (by decide +kernel) rfl rfl (by decide) (fun q => by cases q) (fm_m_has hinj), (List.forall_mem_cons.mpr ⟨fw_row nn_PM20_ok (x := 261) (k := 0) (mn := 240) (np := 0) (ob := true) (ci := 11) (⟨"NameNotesModel", "tunes", "()I"⟩, prog_14_method_41_code, 1, (Option.some Jvm.ClassFile.FieldType.int), 0, true, 0) rfl (by decide +kernel) rfl rfl (by decide) (fun _ => ⟨_, _, rfl⟩) (fm_m_tunes hinj), (List.forall_mem_cons.mpr ⟨fw_row nn_PM20_ok (x := 322) (k := 0) (mn := 274) (np := 1) (ob := false) (ci := 0) (⟨"NameNotesModel", "bits", "(I)I"⟩, prog_14_method_10_code, 3, (Option.some Jvm.ClassFile.FieldType.int), 1, false, 0) rfl (by decide +kernel) rfl rfl (by decide) (fun q => by cases q) (fm_m_bits9 hinj), (List.forall_mem_cons.mpr ⟨fw_row nn_PM20_ok (x := 331) (k := 0) (mn := 279) (np := 3) (ob := true) (ci := 11) (⟨"NameNotesModel", "namedBy", "(III)J"⟩, prog_14_method_77_code, 9, (Option.some Jvm.ClassFile.FieldType.long), 3, true, 2) rfl (by decide +kernel) rfl rfl (by decide) (fun _ => ⟨_, _, rfl⟩) (fm_m_namedBy hinj), (fun _ h => absurd h List.not_mem_nil)⟩)⟩)⟩)⟩) (fun as σ K h => by
  obtain ⟨A, n, s, rfl, hN, hn, hs, ht, hk, h⟩ := h
  have nT := (N_n hN.1).1
  obtain ⟨T, eT⟩ := Int.eq_ofNat_of_zero_le nT.1
  have cT : fw_c (T : Int) = (T : Int) := fw_s (by omega) (by omega)
  have cp := oz_cnt_pos hs.1 hs.2
  have cl := oz_cnt_le (oz_P s) 9
  have m106 : ∀ τ : ab_SG, ab_okM [(107, 1000000)] σ τ → τ 106 = σ 106 := fun τ M => funext fun y => M 106 y (fun q hq => by rw [List.mem_singleton] at hq; rw [hq]; exact fun z => absurd z.1 (by decide))
  have m95 : ∀ τ : ab_SG, ab_okM [(107, 1000000)] σ τ → τ 95 0 = (T : Int) := fun τ M => ((M 95 0 (fun q hq => by rw [List.mem_singleton] at hq; rw [hq]; exact fun z => absurd z.1 (by decide))).trans (NM_n hN).1).trans eT
  have fin : oz_sum (fun x => cond (oz_P s x) (oz_nb (σ 106) (v_lk A (x : Int) n 0 s (A 49 11).toNat) x) 0) 9 = oz_sum (fun x => cond (oz_P s x) (oz_nb (σ 106) (v_lk A (x : Int) n 0 s (A 49 11).toNat) x) 0) T := by
    have tail : ∀ d : Nat, T + d ≤ 9 → oz_sum (fun x => cond (oz_P s x) (oz_nb (σ 106) (v_lk A (x : Int) n 0 s (A 49 11).toNat) x) 0) (T + d) = oz_sum (fun x => cond (oz_P s x) (oz_nb (σ 106) (v_lk A (x : Int) n 0 s (A 49 11).toNat) x) 0) T := by
      intro d
      induction d with
      | zero => intro _; rfl
      | succ d ih =>
        intro hd
        have q : oz_P s (T + d) = false := by
          rw [← Bool.not_eq_true]
          intro z
          have := ht (T + d) (by omega) z
          omega
        show oz_sum _ (T + d) + cond (oz_P s (T + d)) _ 0 = _
        rw [q, ih (by omega)]
        exact Int.add_zero _
    have := tail (9 - T) (by omega)
    rw [show T + (9 - T) = 9 by omega] at this
    exact this
  refine ⟨rfl, fun G hG => fs_m_oddsBy_0 hG ?_⟩
  have loop : ∀ (f x : Nat) (τ : ab_SG), x + f = T → ab_okM [(107, 1000000)] σ τ → G 5 [some (2, 93, 0), some (0, 0, n), some (0, 0, s), some (1, 0, oz_sum (fun x => cond (oz_P s x) (oz_nb (σ 106) (v_lk A (x : Int) n 0 s (A 49 11).toNat) x) 0) x), none, some (0, 0, (x : Int))] [] τ := by
    intro f
    induction f with
    | zero =>
      intro x τ hx M
      have e : x = T := by omega
      subst e
      refine fs_m_oddsBy_5 hG ⟨rfl, fs_m_oddsBy_11 hG ?_⟩
      rw [m95 τ M, cT]
      refine ⟨fun _ => ⟨s, rfl, by omega, fs_m_oddsBy_48 hG ?_⟩, fun z => absurd z (by omega)⟩
      have cc : fw_c ((oz_cnt (oz_P s) 9 : Nat) : Int) = ((oz_cnt (oz_P s) 9 : Nat) : Int) := fw_s (by omega) (by omega)
      have ee := oz_each (oz_cnt (oz_P s) 9 - 1) (by omega)
      rw [show ((oz_cnt (oz_P s) 9 - 1 : Nat) : Int) + 1 = ((oz_cnt (oz_P s) 9 : Nat) : Int) by omega, show oz_cnt (oz_P s) 9 - 1 + 1 = oz_cnt (oz_P s) 9 by omega] at ee
      rw [cc, ee, fw_d_id (by omega) (by omega)]
      refine ⟨by omega, ?_⟩
      have hh := h τ M
      unfold oz_ro at hh
      rw [fin] at hh
      exact hh
    | succ f ih =>
      intro x τ hx M
      have cx : fw_c (x : Int) = (x : Int) := fw_s (by omega) (by omega)
      refine fs_m_oddsBy_5 hG ⟨rfl, fs_m_oddsBy_11 hG ?_⟩
      rw [m95 τ M, cT, cx]
      refine ⟨fun z => absurd z (by omega), fun _ => ⟨s, (x : Int), rfl, fs_m_oddsBy_20 hG ⟨fun q => fs_m_oddsBy_34 hG ?_, fun q => ?_⟩⟩⟩
      · have q1 : oz_P s x = false := by
          rw [← Bool.not_eq_true]
          exact fun z => fw_bo_eq q z
        have k := ih (x + 1) τ (by omega) M
        have e : oz_sum (fun x => cond (oz_P s x) (oz_nb (σ 106) (v_lk A (x : Int) n 0 s (A 49 11).toNat) x) 0) (x + 1) = oz_sum (fun x => cond (oz_P s x) (oz_nb (σ 106) (v_lk A (x : Int) n 0 s (A 49 11).toNat) x) 0) x := by
          show oz_sum _ x + cond (oz_P s x) _ 0 = _
          rw [q1]
          exact Int.add_zero _
        rw [e, show ((x + 1 : Nat) : Int) = (x : Int) + 1 from rfl] at k
        exact k
      · have q1 : oz_P s x = true := fw_bo_ne q
        refine ⟨A, x, n, s, rfl, oz_NMM M (by decide +kernel) hN, by omega, hn, by omega, fun y hy => by rw [m106 τ M]; exact hk y hy, fun τ' M' => fs_m_oddsBy_32 hG (fs_m_oddsBy_34 hG ?_)⟩
        have k := ih (x + 1) τ' (by omega) (on_trans M M')
        have e : oz_sum (fun x => cond (oz_P s x) (oz_nb (σ 106) (v_lk A (x : Int) n 0 s (A 49 11).toNat) x) 0) (x + 1) = oz_sum (fun x => cond (oz_P s x) (oz_nb (σ 106) (v_lk A (x : Int) n 0 s (A 49 11).toNat) x) 0) x + oz_nb (σ 106) (v_lk A (x : Int) n 0 s (A 49 11).toNat) x := by
          show oz_sum _ x + cond (oz_P s x) _ 0 = _
          rw [q1]
          rfl
        rw [e, show ((x + 1 : Nat) : Int) = (x : Int) + 1 from rfl] at k
        rw [m106 τ M]
        exact k
  exact loop T 0 σ (Nat.zero_add T) (fw_okM_refl _ _))
theorem fm_m_oddsOf (hinj : nn_inj ad) : fw_H l cy ad wr cr D 283 8 sp_m_oddsOf := fw_mk hinj (⟨"NameNotesModel", "oddsOf", "(III)J"⟩, prog_14_method_79_code, 4, (Option.some Jvm.ClassFile.FieldType.long), 3, true, 2) rfl rfl nn_KI20_ok nn_KJ20_ok nn_PF20_ok nn_PS20_ok (by decide +kernel) rfl rfl (List.forall_mem_cons.mpr ⟨fw_row nn_PM20_ok (x := 335) (k := 0) (mn := 278) (np := 1) (ob := true) (ci := 11) (⟨"NameNotesModel", "layMind", "(I)V"⟩, prog_14_method_76_code, 3, (Option.none : Option Jvm.ClassFile.FieldType), 1, true, 4) rfl (by decide +kernel) rfl rfl (by decide) (fun _ => ⟨_, _, rfl⟩) (fm_m_layMind hinj), (List.forall_mem_cons.mpr ⟨fw_row nn_PM20_ok (x := 338) (k := 0) (mn := 284) (np := 2) (ob := true) (ci := 11) (⟨"NameNotesModel", "oddsBy", "(II)J"⟩, prog_14_method_78_code, 6, (Option.some Jvm.ClassFile.FieldType.long), 2, true, 2) rfl (by decide +kernel) rfl rfl (by decide) (fun _ => ⟨_, _, rfl⟩) (fm_m_oddsBy hinj), (fun _ h => absurd h List.not_mem_nil)⟩)⟩) (fun as σ K h => by
  obtain ⟨A, p, n, s, rfl, hN, hp, hn, hs, ht, h⟩ := h
  refine ⟨rfl, fun G hG => fs_m_oddsOf_0 hG ⟨A, p, rfl, hN, hp, fun σ1 M1 I1 => fs_m_oddsOf_5 hG ⟨A, n, s, rfl, oz_NMM M1 (by decide +kernel) hN, hn, hs, ht, fun y hy => by rw [I1 y hy]; exact on_kn_b hN (by omega), fun σ2 M2 => fs_m_oddsOf_11 hG ?_⟩⟩⟩
  have e : oz_ro (σ1 106) A n s = 2520 * oz_odds A p n s := by
    rw [oz_same hN.1 (σ1 106) hn hs ht]
    unfold oz_odds oz_ch
    rw [oz_sm_congr (κ' := oz_kp A p) (γ' := oz_grp A n s) (fun y hy => I1 y hy) (fun x _ => rfl)]
  rw [e]
  exact h σ2 (on_trans M1 (od_up M2 (by decide))))
theorem fm_m_isNines (hinj : nn_inj ad) : fw_H l cy ad wr cr D 287 0 sp_m_isNines := fw_mk hinj (⟨"NameNotesModel", "isNines", "(JI)Z"⟩, prog_14_method_84_code, 3, (Option.some Jvm.ClassFile.FieldType.boolean), 2, false, 1) rfl rfl nn_KI20_ok nn_KJ20_ok nn_PF20_ok nn_PS20_ok (by decide +kernel) rfl rfl (fun _ h => absurd h List.not_mem_nil) (fun as σ K h => by
  obtain ⟨v, k, rfl, hv, hk, h⟩ := h
  refine ⟨rfl, fun G hG => fs_m_isNines_0 hG ?_⟩
  rw [fw_s (x := k) (by omega) (by omega), fw_d_id (x := 2520 * v) (by omega) (by omega), fw_d_id (x := 273363897038400 * k) (by omega) (by omega)]
  refine ⟨fun q => ⟨fw_01, ?_⟩, fun q => ⟨by rw [fw_c1]; decide, ?_⟩⟩
  · rw [fw_bo_f (by omega)] at h
    exact h
  · rw [fw_bo_t (by omega)] at h
    exact h)
theorem fm_needs (hinj : nn_inj ad) : fw_H l cy ad wr cr D 80 5 sp_needs := fw_mk hinj (⟨"NameNotes", "needs", "(III)I"⟩, prog_1_method_17_code, 5, (Option.some Jvm.ClassFile.FieldType.int), 3, true, 0) rfl rfl nn_KI1_ok nn_KJ1_ok nn_PF1_ok nn_PS1_ok (by decide +kernel) rfl rfl (List.forall_mem_cons.mpr ⟨fw_row nn_PM1_ok (x := 166) (k := 0) (mn := 63) (np := 1) (ob := true) (ci := 6) (⟨"NameNotes$Studio", "isClue", "(I)Z"⟩, prog_8_method_5_code, 2, (Option.some Jvm.ClassFile.FieldType.boolean), 1, true, 1) rfl (by decide +kernel) rfl rfl (by decide) (fun _ => ⟨_, _, rfl⟩) (fm_isClue3 hinj), (List.forall_mem_cons.mpr ⟨fw_row nn_PM1_ok (x := 169) (k := 0) (mn := 64) (np := 1) (ob := true) (ci := 6) (⟨"NameNotes$Studio", "setOf", "(I)I"⟩, prog_8_method_8_code, 2, (Option.some Jvm.ClassFile.FieldType.int), 1, true, 0) rfl (by decide +kernel) rfl rfl (by decide) (fun _ => ⟨_, _, rfl⟩) (fm_setOf3 hinj), (List.forall_mem_cons.mpr ⟨fw_row nn_PM1_ok (x := 173) (k := 0) (mn := 67) (np := 1) (ob := true) (ci := 6) (⟨"NameNotes$Studio", "isPerson", "(I)Z"⟩, prog_8_method_6_code, 2, (Option.some Jvm.ClassFile.FieldType.boolean), 1, true, 1) rfl (by decide +kernel) rfl rfl (by decide) (fun _ => ⟨_, _, rfl⟩) (fm_isPerson3 hinj), (List.forall_mem_cons.mpr ⟨fw_row nn_PM1_ok (x := 228) (k := 0) (mn := 82) (np := 3) (ob := true) (ci := 10) (⟨"NameNotes", "chanceOf", "(III)J"⟩, prog_1_method_65_code, 4, (Option.some Jvm.ClassFile.FieldType.long), 3, true, 2) rfl (by decide +kernel) rfl rfl (by decide) (fun _ => ⟨_, _, rfl⟩) (fm_chanceOf hinj), (List.forall_mem_cons.mpr ⟨fw_row nn_PM1_ok (x := 232) (k := 0) (mn := 81) (np := 1) (ob := false) (ci := 0) (⟨"NameNotes", "isNinth", "(I)Z"⟩, prog_1_method_75_code, 1, (Option.some Jvm.ClassFile.FieldType.boolean), 1, false, 1) rfl (by decide +kernel) rfl rfl (by decide) (fun q => by cases q) (fm_isNinth hinj), (List.forall_mem_cons.mpr ⟨fw_row nn_PM1_ok (x := 235) (k := 0) (mn := 89) (np := 2) (ob := false) (ci := 0) (⟨"NameNotes", "reaches", "(JI)Z"⟩, prog_1_method_78_code, 3, (Option.some Jvm.ClassFile.FieldType.boolean), 2, false, 1) rfl (by decide +kernel) rfl rfl (by decide) (fun q => by cases q) (fm_reaches hinj), (fun _ h => absurd h List.not_mem_nil)⟩)⟩)⟩)⟩)⟩)⟩) (fun as σ K h => by
  obtain ⟨A, p, k, c, rfl, ⟨ep, ek, ec⟩, hN, h⟩ := h
  have nn := N_n hN.1
  have c9 : fw_c 9 = 9 := fw_s (by decide) (by decide)
  refine ⟨rfl, fun G hG => fs_needs_0 hG ⟨p, rfl, fs_needs_8 hG ?_⟩⟩
  unfold v_needs at h
  rw [oz_c_pe hN ep]
  refine ⟨fun q => ?_, fun q1 => ⟨k, rfl, fs_needs_15 hG ?_⟩⟩
  · rw [if_neg (fun z => fw_bo_eq q z.1)] at h
    exact h σ (fw_okM_refl _ _)
  rw [oz_nine ek]
  refine ⟨fun q => ?_, fun q2 => ⟨A, c, rfl, ec, hN, fs_needs_26 hG ⟨fun q3 => ?_, fun q => ?_⟩⟩⟩
  · rw [if_neg (fun z => fw_bo_eq q z.2.1)] at h
    exact h σ (fw_okM_refl _ _)
  · have h1 := fw_bo_ne q1
    have h2 := fw_bo_ne q2
    have h3 := fw_bo_ne q3
    rw [if_pos ⟨h1, h2, h3⟩] at h
    obtain ⟨p', rfl⟩ := Int.eq_ofNat_of_zero_le h1.1
    rw [Int.toNat_natCast] at h
    have cl := oz_clue hN.1 hN.2.1 h3.1 h3.2
    have loop : ∀ (f n : Nat) (τ : ab_SG), n + f = 10 → 1 ≤ n → ab_okM oz_M σ τ → nd_f A p' k (v_set A c) f n = nd_f A p' k (v_set A c) 9 1 → G 34 [some (2, 0, 0), some (0, 0, (p' : Int)), some (0, 0, k), some (0, 0, c), some (0, 0, (n : Int))] [] τ := by
      intro f
      induction f with
      | zero =>
        intro n τ hn h0 M e
        refine fs_needs_34 hG ?_
        rw [c9, fw_s (x := (n : Int)) (by omega) (by omega)]
        refine ⟨fun _ => ?_, fun z => absurd z (by omega)⟩
        rw [← e] at h
        exact h τ M
      | succ f ih =>
        intro n τ hn h0 M e
        have Nt := oz_NCM M (by decide +kernel) hN
        refine fs_needs_34 hG ?_
        rw [c9, fw_s (x := (n : Int)) (by omega) (by omega)]
        refine ⟨fun z => absurd z (by omega), fun _ => ⟨A, c, rfl, Nt, by omega, fs_needs_53 hG ⟨A, p', (n : Int), v_set A c, rfl, Nt, by omega, by omega, cl.1, cl.2, fun τ' M' => fs_needs_56 hG ⟨_, k, rfl, oz_odds_b Nt (by omega) cl.1, h2, fs_needs_60 hG ⟨fun q => ?_, fun q => ?_⟩⟩⟩⟩⟩
        · have z := fw_bo_eq q
          rw [nd_s, if_neg z] at e
          have g := ih (n + 1) τ' (by omega) (by omega) (fun a b q => (M' a b q).trans (M a b q)) e
          rw [show ((n + 1 : Nat) : Int) = (n : Int) + 1 from rfl] at g
          exact g
        · have z := fw_bo_ne q
          rw [nd_s, if_pos z] at e
          rw [← e] at h
          exact h τ' (fun a b q => (M' a b q).trans (M a b q))
    exact loop 9 1 σ rfl (Nat.le_refl 1) (fw_okM_refl _ _) rfl
  · rw [if_neg (fun z => fw_bo_eq q z.2.2)] at h
    exact h σ (fw_okM_refl _ _))
theorem fm_m_needs (hinj : nn_inj ad) : fw_H l cy ad wr cr D 286 9 sp_m_needs := fw_mk hinj (⟨"NameNotesModel", "needs", "(III)I"⟩, prog_14_method_85_code, 5, (Option.some Jvm.ClassFile.FieldType.int), 3, true, 0) rfl rfl nn_KI20_ok nn_KJ20_ok nn_PF20_ok nn_PS20_ok (by decide +kernel) rfl rfl (List.forall_mem_cons.mpr ⟨fw_row nn_PM20_ok (x := 171) (k := 0) (mn := 226) (np := 3) (ob := false) (ci := 0) (⟨"NameNotesModel", "isIn", "(III)Z"⟩, prog_14_method_8_code, 3, (Option.some Jvm.ClassFile.FieldType.boolean), 3, false, 1) rfl (by decide +kernel) rfl rfl (by decide) (fun q => by cases q) (fm_m_isIn hinj), (List.forall_mem_cons.mpr ⟨fw_row nn_PM20_ok (x := 264) (k := 0) (mn := 247) (np := 1) (ob := true) (ci := 11) (⟨"NameNotesModel", "isClue", "(I)Z"⟩, prog_14_method_43_code, 2, (Option.some Jvm.ClassFile.FieldType.boolean), 1, true, 1) rfl (by decide +kernel) rfl rfl (by decide) (fun _ => ⟨_, _, rfl⟩) (fm_m_isClue hinj), (List.forall_mem_cons.mpr ⟨fw_row nn_PM20_ok (x := 281) (k := 0) (mn := 249) (np := 1) (ob := true) (ci := 11) (⟨"NameNotesModel", "isPerson", "(I)Z"⟩, prog_14_method_44_code, 2, (Option.some Jvm.ClassFile.FieldType.boolean), 1, true, 1) rfl (by decide +kernel) rfl rfl (by decide) (fun _ => ⟨_, _, rfl⟩) (fm_m_isPerson hinj), (List.forall_mem_cons.mpr ⟨fw_row nn_PM20_ok (x := 303) (k := 0) (mn := 255) (np := 1) (ob := true) (ci := 11) (⟨"NameNotesModel", "left", "(I)I"⟩, prog_14_method_47_code, 2, (Option.some Jvm.ClassFile.FieldType.int), 1, true, 0) rfl (by decide +kernel) rfl rfl (by decide) (fun _ => ⟨_, _, rfl⟩) (fm_m_left hinj), (List.forall_mem_cons.mpr ⟨fw_row nn_PM20_ok (x := 355) (k := 0) (mn := 283) (np := 3) (ob := true) (ci := 11) (⟨"NameNotesModel", "oddsOf", "(III)J"⟩, prog_14_method_79_code, 4, (Option.some Jvm.ClassFile.FieldType.long), 3, true, 2) rfl (by decide +kernel) rfl rfl (by decide) (fun _ => ⟨_, _, rfl⟩) (fm_m_oddsOf hinj), (List.forall_mem_cons.mpr ⟨fw_row nn_PM20_ok (x := 362) (k := 0) (mn := 287) (np := 2) (ob := false) (ci := 0) (⟨"NameNotesModel", "isNines", "(JI)Z"⟩, prog_14_method_84_code, 3, (Option.some Jvm.ClassFile.FieldType.boolean), 2, false, 1) rfl (by decide +kernel) rfl rfl (by decide) (fun q => by cases q) (fm_m_isNines hinj), (fun _ h => absurd h List.not_mem_nil)⟩)⟩)⟩)⟩)⟩)⟩) (fun as σ0 K h => by
  obtain ⟨A, p, k, c, rfl, ⟨ep, ek, ec⟩, hN0, h⟩ := h
  have nn := N_n hN0.1
  have c9 : fw_c 9 = 9 := fw_s (by decide) (by decide)
  refine ⟨rfl, fun G hG => fs_m_needs_0 hG ?_⟩
  rw [fw_c0]
  have hN : NM (ab_ups σ0 93 0 0) A := oz_NMM (od_93 σ0) (by decide +kernel) hN0
  have h : ∀ σ' : ab_SG, ab_okM od_N (ab_ups σ0 93 0 0) σ' → K (some (0, 0, v_needs A p k c)) σ' := fun σ' M => h σ' (on_trans (od_93 σ0) M)
  generalize ab_ups σ0 93 0 0 = σ at hN h ⊢
  refine ⟨p, rfl, fs_m_needs_10 hG ?_⟩
  unfold v_needs at h
  rw [oz_m_pe hN ep]
  refine ⟨fun q => ?_, fun q1 => ⟨k, 0, 9, rfl, fs_m_needs_20 hG ?_⟩⟩
  · rw [if_neg (fun z => fw_bo_eq q z.1)] at h
    exact h σ (fw_okM_refl _ _)
  rw [ek, fw_c0, c9]
  refine ⟨fun q => ?_, fun q2 => ⟨A, c, rfl, ec, hN, fs_m_needs_28 hG ⟨fun q3 => ?_, fun q => ?_⟩⟩⟩
  · rw [if_neg (fun z => fw_bo_eq q z.2.1)] at h
    exact h σ (fw_okM_refl _ _)
  · have h1 := fw_bo_ne q1
    have h2 := fw_bo_ne q2
    have h3 := fw_bo_ne q3
    rw [if_pos ⟨h1, h2, h3⟩] at h
    obtain ⟨p', rfl⟩ := Int.eq_ofNat_of_zero_le h1.1
    rw [Int.toNat_natCast] at h
    have cl := oz_clue hN.1 hN.2.1 h3.1 h3.2
    have ob : ∀ n : Int, 0 ≤ oz_odds A p' n (v_set A c) ∧ oz_odds A p' n (v_set A c) ≤ 976299632280 := fun n => oz_odds_bm hN (by omega) cl.1
    have loop : ∀ (f n : Nat) (τ : ab_SG), n + f = 10 → 1 ≤ n → ab_okM od_N σ τ → nd_f A p' k (v_set A c) f n = nd_f A p' k (v_set A c) 9 1 → G 36 [some (2, 93, 0), some (0, 0, (p' : Int)), some (0, 0, k), some (0, 0, c), some (0, 0, (n : Int))] [] τ := by
      intro f
      induction f with
      | zero =>
        intro n τ hn h0 M e
        refine fs_m_needs_36 hG ?_
        rw [c9, fw_s (x := (n : Int)) (by omega) (by omega)]
        refine ⟨fun _ => ?_, fun z => absurd z (by omega)⟩
        rw [← e] at h
        exact h τ M
      | succ f ih =>
        intro n τ hn h0 M e
        have Nt := oz_NMM M (by decide +kernel) hN
        refine fs_m_needs_36 hG ?_
        rw [c9, fw_s (x := (n : Int)) (by omega) (by omega)]
        refine ⟨fun z => absurd z (by omega), fun _ => ⟨A, c, rfl, Nt, by omega, fs_m_needs_52 hG ⟨A, p', (n : Int), v_set A c, rfl, Nt, by omega, by omega, cl.1, cl.2, fun τ' M' => fs_m_needs_55 hG ⟨_, k, rfl, ob n, h2, fs_m_needs_59 hG ⟨fun q => ?_, fun q => ?_⟩⟩⟩⟩⟩
        · have z := fw_bo_eq q
          rw [nd_s, if_neg z] at e
          have g := ih (n + 1) τ' (by omega) (by omega) (on_trans M (od_up M' (by decide))) e
          rw [show ((n + 1 : Nat) : Int) = (n : Int) + 1 from rfl] at g
          exact g
        · have z := fw_bo_ne q
          rw [nd_s, if_pos z] at e
          rw [← e] at h
          exact h τ' (on_trans M (od_up M' (by decide)))
    exact loop 9 1 σ rfl (Nat.le_refl 1) (fw_okM_refl _ _) rfl
  · rw [if_neg (fun z => fw_bo_eq q z.2.2)] at h
    exact h σ (fw_okM_refl _ _))
theorem fm_ablest (hinj : nn_inj ad) : fw_H l cy ad wr cr D 126 5 sp_ablest := fw_mk hinj (⟨"NameNotes", "ablest", "(II)I"⟩, prog_1_method_29_code, 9, (Option.some Jvm.ClassFile.FieldType.int), 2, true, 0) rfl rfl nn_KI1_ok nn_KJ1_ok nn_PF1_ok nn_PS1_ok (by decide +kernel) rfl rfl (List.forall_mem_cons.mpr ⟨fw_row nn_PM1_ok (x := 166) (k := 0) (mn := 63) (np := 1) (ob := true) (ci := 6) (⟨"NameNotes$Studio", "isClue", "(I)Z"⟩, prog_8_method_5_code, 2, (Option.some Jvm.ClassFile.FieldType.boolean), 1, true, 1) rfl (by decide +kernel) rfl rfl (by decide) (fun _ => ⟨_, _, rfl⟩) (fm_isClue3 hinj), (List.forall_mem_cons.mpr ⟨fw_row nn_PM1_ok (x := 169) (k := 0) (mn := 64) (np := 1) (ob := true) (ci := 6) (⟨"NameNotes$Studio", "setOf", "(I)I"⟩, prog_8_method_8_code, 2, (Option.some Jvm.ClassFile.FieldType.int), 1, true, 0) rfl (by decide +kernel) rfl rfl (by decide) (fun _ => ⟨_, _, rfl⟩) (fm_setOf3 hinj), (List.forall_mem_cons.mpr ⟨fw_row nn_PM1_ok (x := 184) (k := 0) (mn := 71) (np := 1) (ob := false) (ci := 0) (⟨"NameNotes", "isBid", "(I)Z"⟩, prog_1_method_72_code, 1, (Option.some Jvm.ClassFile.FieldType.boolean), 1, false, 1) rfl (by decide +kernel) rfl rfl (by decide) (fun q => by cases q) (fm_isBid hinj), (List.forall_mem_cons.mpr ⟨fw_row nn_PM1_ok (x := 228) (k := 0) (mn := 82) (np := 3) (ob := true) (ci := 10) (⟨"NameNotes", "chanceOf", "(III)J"⟩, prog_1_method_65_code, 4, (Option.some Jvm.ClassFile.FieldType.long), 3, true, 2) rfl (by decide +kernel) rfl rfl (by decide) (fun _ => ⟨_, _, rfl⟩) (fm_chanceOf hinj), (fun _ h => absurd h List.not_mem_nil)⟩)⟩)⟩)⟩) (fun as σ K h => by
  obtain ⟨A, n, c, rfl, ⟨en, ec⟩, hN, h⟩ := h
  have nn := N_n hN.1
  obtain ⟨T, eT⟩ := Int.eq_ofNat_of_zero_le nn.2.2.1
  have cT : fw_c (T : Int) = (T : Int) := fw_s (by omega) (by omega)
  refine ⟨rfl, fun G hG => fs_ablest_0 hG ⟨n, rfl, en, fs_ablest_4 hG ⟨fun q => ?_, fun q1 => ⟨A, c, rfl, ec, hN, fs_ablest_15 hG ⟨fun q2 => ?_, fun q => ?_⟩⟩⟩⟩⟩
  · unfold v_ablest at h
    rw [if_neg (fun z => fw_bo_eq q z.1)] at h
    exact h σ (fw_okM_refl _ _)
  · have h1 := fw_bo_ne q1
    have h2 := fw_bo_ne q2
    unfold v_ablest at h
    rw [if_pos ⟨h1, h2⟩, eT, Int.toNat_natCast] at h
    have cl := oz_clue hN.1 hN.2.1 h2.1 h2.2
    have loop : ∀ (f p : Nat) (τ : ab_SG) (o7 o8 : Option ab_AV), p + f = T → ab_okM oz_M σ τ → G 30 [some (2, 0, 0), some (0, 0, n), some (0, 0, c), some (0, 0, (ol_f A n (v_set A c) p).1), some (1, 0, (ol_f A n (v_set A c) p).2), none, some (0, 0, (p : Int)), o7, o8] [] τ := by
      intro f
      induction f with
      | zero =>
        intro p τ o7 o8 hp M
        have e : p = T := by omega
        subst e
        have Nt := oz_NCM M (by decide +kernel) hN
        refine fs_ablest_30 hG ?_
        rw [(NC_n Nt).2.2, eT, cT]
        exact ⟨fun _ => h τ M, fun z => absurd z (by omega)⟩
      | succ f ih =>
        intro p τ o7 o8 hp M
        have Nt := oz_NCM M (by decide +kernel) hN
        have b1 := ol_b Nt (n := n) cl.1 p (by omega)
        have b2 := oz_odds_b Nt (p := p) (by omega) (n := n) cl.1
        refine fs_ablest_30 hG ?_
        rw [(NC_n Nt).2.2, eT, cT, fw_s (x := (p : Int)) (by omega) (by omega)]
        refine ⟨fun z => absurd z (by omega), fun _ => ⟨A, c, rfl, Nt, by omega, fs_ablest_54 hG ⟨A, p, n, v_set A c, rfl, Nt, by omega, h1, cl.1, cl.2, fun τ' M' => fs_ablest_57 hG ?_⟩⟩⟩
        rw [fw_d_id (x := oz_odds A p n (v_set A c)) (by omega) (by omega), fw_d_id (x := (ol_f A n (v_set A c) p).2) (by omega) (by omega)]
        refine ⟨fun q => fs_ablest_74 hG ?_, fun q => fs_ablest_74 hG ?_⟩
        · have g := ih (p + 1) τ' (some (1, 0, oz_odds A p n (v_set A c))) none (by omega) (fun a b q => (M' a b q).trans (M a b q))
          rw [ol_s, if_neg (by omega), show ((p + 1 : Nat) : Int) = (p : Int) + 1 from rfl] at g
          exact g
        · have g := ih (p + 1) τ' (some (1, 0, oz_odds A p n (v_set A c))) none (by omega) (fun a b q => (M' a b q).trans (M a b q))
          rw [ol_s, if_pos q, show ((p + 1 : Nat) : Int) = (p : Int) + 1 from rfl] at g
          exact g
    exact loop T 0 σ _ _ (Nat.zero_add T) (fw_okM_refl _ _)
  · unfold v_ablest at h
    rw [if_neg (fun z => fw_bo_eq q z.2)] at h
    exact h σ (fw_okM_refl _ _))
theorem fm_m_ablest (hinj : nn_inj ad) : fw_H l cy ad wr cr D 288 9 sp_m_ablest := fw_mk hinj (⟨"NameNotesModel", "ablest", "(II)I"⟩, prog_14_method_86_code, 9, (Option.some Jvm.ClassFile.FieldType.int), 2, true, 0) rfl rfl nn_KI20_ok nn_KJ20_ok nn_PF20_ok nn_PS20_ok (by decide +kernel) rfl rfl (List.forall_mem_cons.mpr ⟨fw_row nn_PM20_ok (x := 171) (k := 0) (mn := 226) (np := 3) (ob := false) (ci := 0) (⟨"NameNotesModel", "isIn", "(III)Z"⟩, prog_14_method_8_code, 3, (Option.some Jvm.ClassFile.FieldType.boolean), 3, false, 1) rfl (by decide +kernel) rfl rfl (by decide) (fun q => by cases q) (fm_m_isIn hinj), (List.forall_mem_cons.mpr ⟨fw_row nn_PM20_ok (x := 264) (k := 0) (mn := 247) (np := 1) (ob := true) (ci := 11) (⟨"NameNotesModel", "isClue", "(I)Z"⟩, prog_14_method_43_code, 2, (Option.some Jvm.ClassFile.FieldType.boolean), 1, true, 1) rfl (by decide +kernel) rfl rfl (by decide) (fun _ => ⟨_, _, rfl⟩) (fm_m_isClue hinj), (List.forall_mem_cons.mpr ⟨fw_row nn_PM20_ok (x := 303) (k := 0) (mn := 255) (np := 1) (ob := true) (ci := 11) (⟨"NameNotesModel", "left", "(I)I"⟩, prog_14_method_47_code, 2, (Option.some Jvm.ClassFile.FieldType.int), 1, true, 0) rfl (by decide +kernel) rfl rfl (by decide) (fun _ => ⟨_, _, rfl⟩) (fm_m_left hinj), (List.forall_mem_cons.mpr ⟨fw_row nn_PM20_ok (x := 355) (k := 0) (mn := 283) (np := 3) (ob := true) (ci := 11) (⟨"NameNotesModel", "oddsOf", "(III)J"⟩, prog_14_method_79_code, 4, (Option.some Jvm.ClassFile.FieldType.long), 3, true, 2) rfl (by decide +kernel) rfl rfl (by decide) (fun _ => ⟨_, _, rfl⟩) (fm_m_oddsOf hinj), (fun _ h => absurd h List.not_mem_nil)⟩)⟩)⟩)⟩) (fun as σ0 K h => by
  obtain ⟨A, n, c, rfl, ⟨en, ec⟩, hN0, h⟩ := h
  have nn := N_n hN0.1
  have c9 : fw_c 9 = 9 := fw_s (by decide) (by decide)
  have c2 : fw_c 2 = 2 := fw_s (by decide) (by decide)
  obtain ⟨T, eT⟩ := Int.eq_ofNat_of_zero_le nn.2.2.1
  have cT : fw_c (T : Int) = (T : Int) := fw_s (by omega) (by omega)
  refine ⟨rfl, fun G hG => fs_m_ablest_0 hG ?_⟩
  rw [fw_c0]
  have hN : NM (ab_ups σ0 93 0 0) A := oz_NMM (od_93 σ0) (by decide +kernel) hN0
  have h : ∀ σ' : ab_SG, ab_okM od_N (ab_ups σ0 93 0 0) σ' → K (some (0, 0, v_ablest A n c)) σ' := fun σ' M => h σ' (on_trans (od_93 σ0) M)
  generalize ab_ups σ0 93 0 0 = σ at hN h ⊢
  refine ⟨n, 1, 9, rfl, fs_m_ablest_12 hG ?_⟩
  rw [en, fw_c1, c9]
  refine ⟨fun q => ?_, fun q1 => ⟨A, c, rfl, ec, hN, fs_m_ablest_20 hG ⟨fun q2 => ?_, fun q => ?_⟩⟩⟩
  · unfold v_ablest at h
    rw [if_neg (fun z => fw_bo_eq q z.1)] at h
    exact h σ (fw_okM_refl _ _)
  · have h1 := fw_bo_ne q1
    have h2 := fw_bo_ne q2
    unfold v_ablest at h
    rw [if_pos ⟨h1, h2⟩, eT, Int.toNat_natCast] at h
    have cl := oz_clue hN.1 hN.2.1 h2.1 h2.2
    have ob : ∀ p : Nat, p < 5 → 0 ≤ oz_odds A p n (v_set A c) ∧ oz_odds A p n (v_set A c) ≤ 976299632280 := fun p hp => oz_odds_bm hN hp cl.1
    have bl : ∀ p : Nat, p ≤ 5 → (p = 0 → (ol_f A n (v_set A c) p).2 = -1) ∧ (0 < p → 0 ≤ (ol_f A n (v_set A c) p).2 ∧ (ol_f A n (v_set A c) p).2 ≤ 976299632280) := by
      intro p
      induction p with
      | zero => intro _; exact ⟨fun _ => rfl, fun z => absurd z (Nat.lt_irrefl 0)⟩
      | succ p ih =>
        intro hp
        have o := ob p (by omega)
        have i := ih (by omega)
        refine ⟨fun z => absurd z (Nat.succ_ne_zero p), fun _ => ?_⟩
        rw [ol_s]
        split
        · exact o
        · by_cases z : p = 0
          · have := i.1 z
            omega
          · exact i.2 (by omega)
    have loop : ∀ (f p : Nat) (τ : ab_SG) (m : Int) (o7 o8 : Option ab_AV), p + f = T → ab_okM od_N σ τ → (p = 0 → m = -1) → (0 < p → m = 2520 * (ol_f A n (v_set A c) p).2) → G 35 [some (2, 93, 0), some (0, 0, n), some (0, 0, c), some (0, 0, (ol_f A n (v_set A c) p).1), some (1, 0, m), none, some (0, 0, (p : Int)), o7, o8] [] τ := by
      intro f
      induction f with
      | zero =>
        intro p τ m o7 o8 hp M _ _
        have e : p = T := by omega
        subst e
        have Nt := oz_NMM M (by decide +kernel) hN
        refine fs_m_ablest_35 hG ⟨by rw [c2]; decide, ?_⟩
        rw [c2, show ((2 : Int)).toNat = 2 from rfl, (NM_n Nt).2.2, eT, cT]
        exact ⟨fun _ => h τ M, fun z => absurd z (by omega)⟩
      | succ f ih =>
        intro p τ m o7 o8 hp M m0 m1
        have Nt := oz_NMM M (by decide +kernel) hN
        have b1 := bl p (by omega)
        have b2 := ob p (by omega)
        have bm : -1 ≤ m ∧ m ≤ 2520 * 976299632280 := by
          by_cases z : p = 0
          · rw [m0 z]; omega
          · have := b1.2 (by omega)
            rw [m1 (by omega)]; omega
        refine fs_m_ablest_35 hG ⟨by rw [c2]; decide, ?_⟩
        rw [c2, show ((2 : Int)).toNat = 2 from rfl, (NM_n Nt).2.2, eT, cT, fw_s (x := (p : Int)) (by omega) (by omega)]
        refine ⟨fun z => absurd z (by omega), fun _ => ⟨A, c, rfl, Nt, by omega, fs_m_ablest_55 hG ⟨A, p, n, v_set A c, rfl, Nt, by omega, h1, cl.1, cl.2, fun τ' M' => fs_m_ablest_58 hG ?_⟩⟩⟩
        rw [fw_d_id (x := 2520 * oz_odds A p n (v_set A c)) (by omega) (by omega), fw_d_id (x := m) (by omega) (by omega)]
        have M2 : ab_okM od_N σ τ' := on_trans M (od_up M' (by decide))
        refine ⟨fun q => fs_m_ablest_78 hG ?_, fun q => fs_m_ablest_78 hG ?_⟩
        · have lt : (ol_f A n (v_set A c) p).2 < oz_odds A p n (v_set A c) := by
            by_cases z : p = 0
            · have := b1.1 z
              omega
            · have := m1 (by omega)
              omega
          have g := ih (p + 1) τ' (2520 * oz_odds A p n (v_set A c)) (some (1, 0, 2520 * oz_odds A p n (v_set A c))) none (by omega) M2 (fun z => absurd z (Nat.succ_ne_zero p)) (fun _ => by rw [ol_s, if_pos lt])
          rw [ol_s, if_pos lt, show ((p + 1 : Nat) : Int) = (p : Int) + 1 from rfl] at g
          exact g
        · have ge : ¬ (ol_f A n (v_set A c) p).2 < oz_odds A p n (v_set A c) := by
            by_cases z : p = 0
            · have := m0 z
              omega
            · have := m1 (by omega)
              omega
          have g := ih (p + 1) τ' m (some (1, 0, 2520 * oz_odds A p n (v_set A c))) none (by omega) M2 (fun z => absurd z (Nat.succ_ne_zero p)) (fun _ => by
            rw [ol_s, if_neg ge]
            by_cases z : p = 0
            · have := m0 z
              omega
            · exact m1 (by omega))
          rw [ol_s, if_neg ge, show ((p + 1 : Nat) : Int) = (p : Int) + 1 from rfl] at g
          exact g
    exact loop T 0 σ (-1) _ _ (Nat.zero_add T) (fw_okM_refl _ _) (fun _ => rfl) (fun z => absurd z (Nat.lt_irrefl 0))
  · unfold v_ablest at h
    rw [if_neg (fun z => fw_bo_eq q z.2)] at h
    exact h σ (fw_okM_refl _ _))
end
end
section
/-! the duel: values in row 79, moves in row 80, ten of either side -/
def atl_k (k n : Nat) : fw_SP := fun as σ K => ∃ x : Int, as = [(2, k, 0), (0, 0, x)] ∧ (0 ≤ fw_c x ∧ fw_c x < (n : Int) → K (some (1, 0, σ k (fw_c x).toNat)) σ) ∧ (¬ (0 ≤ fw_c x ∧ fw_c x < (n : Int)) → K (some (1, 0, 0)) σ)
theorem atl_gen {k n : Nat} (hn : n ≤ 1000) {K : fw_KR} {σ : ab_SG} {x : Int} {P : Prop}
    (s0 : (fw_c x < 0 → K (some (1, 0, ((0 : Nat) : Int))) σ) ∧ (0 ≤ fw_c x → (fw_c ((n : Nat) : Int) ≤ fw_c x → K (some (1, 0, ((0 : Nat) : Int))) σ) ∧ (fw_c x < fw_c ((n : Nat) : Int) → (0 ≤ fw_c x ∧ fw_c x < ((n : Nat) : Int)) ∧ (K (some (1, 0, σ k (fw_c x).toNat)) σ))) → P)
    (h1 : 0 ≤ fw_c x ∧ fw_c x < (n : Int) → K (some (1, 0, σ k (fw_c x).toNat)) σ) (h2 : ¬ (0 ≤ fw_c x ∧ fw_c x < (n : Int)) → K (some (1, 0, 0)) σ) : P := by
  have en : fw_c ((n : Nat) : Int) = ((n : Nat) : Int) := fw_c_id (by omega) (by omega)
  rw [en] at s0
  exact s0 ⟨fun q => h2 (by omega), fun q => ⟨fun q2 => h2 (by omega), fun q2 => ⟨⟨q, q2⟩, h1 ⟨q, q2⟩⟩⟩⟩
def dj_T : List (Nat × Nat) := [(78, 20), (79, 20), (76, 9)]
def sp_atj : fw_SP := sp_of atl_k dj_T
def sp_put78 : fw_SP := putl_k 78 20
def sp_put79 : fw_SP := putl_k 79 20
def sp_put80 : fw_SP := put_k 80 20
def sp_at80 : fw_SP := at_k 80 20
def dl_s (W : Int) (V : Nat → Int) : Nat → Int × Int → Int × Int
  | 0, st => st
  | b + 1, st => dl_s W V b (if st.1 < W - V (b + 1) then (W - V (b + 1), ((b + 1 : Nat) : Int)) else st)
theorem dl_ss (W : Int) (V : Nat → Int) (b : Nat) (v mv : Int) : dl_s W V (b + 1) (v, mv) = if v < W - V (b + 1) then dl_s W V b (W - V (b + 1), ((b + 1 : Nat) : Int)) else dl_s W V b (v, mv) := by
  show dl_s W V b (if v < W - V (b + 1) then (W - V (b + 1), ((b + 1 : Nat) : Int)) else (v, mv)) = _
  by_cases q : v < W - V (b + 1)
  · rw [if_pos q, if_pos q]
  · rw [if_neg q, if_neg q]
theorem dl_sc (W : Int) {V V' : Nat → Int} : ∀ (m : Nat) (v mv : Int), (∀ b : Nat, 1 ≤ b → b ≤ m → V b = V' b) → dl_s W V m (v, mv) = dl_s W V' m (v, mv)
  | 0, _, _, _ => rfl
  | m + 1, v, mv, h => by
    rw [dl_ss, dl_ss, h (m + 1) (by omega) (by omega), dl_sc W m (W - V' (m + 1)) ((m + 1 : Nat) : Int) (fun b h1 h2 => h b h1 (by omega)), dl_sc W m v mv (fun b h1 h2 => h b h1 (by omega))]
theorem dl_sz {V V' : Nat → Int} : ∀ (m : Nat) (v mv : Int), (∀ b : Nat, 1 ≤ b → b ≤ m → V' b = 2520 * V b) → dl_s 2460275073345600 V' m (2520 * v, mv) = (2520 * (dl_s 976299632280 V m (v, mv)).1, (dl_s 976299632280 V m (v, mv)).2)
  | 0, _, _, _ => rfl
  | m + 1, v, mv, h => by
    have e := h (m + 1) (by omega) (by omega)
    rw [dl_ss, dl_ss]
    by_cases q : v < 976299632280 - V (m + 1)
    · rw [if_pos q, if_pos (show 2520 * v < 2460275073345600 - V' (m + 1) by omega), show 2460275073345600 - V' (m + 1) = 2520 * (976299632280 - V (m + 1)) by omega]
      exact dl_sz m _ _ (fun b h1 h2 => h b h1 (by omega))
    · rw [if_neg q, if_neg (show ¬ 2520 * v < 2460275073345600 - V' (m + 1) by omega)]
      exact dl_sz m _ _ (fun b h1 h2 => h b h1 (by omega))
theorem dl_sb {V : Nat → Int} {lo : Int} (hl : lo ≤ 0) {T : Nat} : ∀ (m : Nat) (v mv : Int), (∀ b : Nat, 1 ≤ b → b ≤ m → 0 ≤ V b ∧ V b ≤ 976299632280) → (lo ≤ v ∧ v ≤ 976299632280) → (0 ≤ mv ∧ mv ≤ (T : Int)) → m ≤ T → (lo ≤ (dl_s 976299632280 V m (v, mv)).1 ∧ (dl_s 976299632280 V m (v, mv)).1 ≤ 976299632280) ∧ (0 ≤ (dl_s 976299632280 V m (v, mv)).2 ∧ (dl_s 976299632280 V m (v, mv)).2 ≤ (T : Int))
  | 0, _, _, _, h1, h2, _ => ⟨h1, h2⟩
  | m + 1, v, mv, h, h1, h2, h3 => by
    have e := h (m + 1) (by omega) (by omega)
    rw [dl_ss]
    by_cases q : v < 976299632280 - V (m + 1)
    · rw [if_pos q]
      exact dl_sb hl m _ _ (fun b g1 g2 => h b g1 (by omega)) ⟨by omega, by omega⟩ ⟨by omega, by omega⟩ (by omega)
    · rw [if_neg q]
      exact dl_sb hl m _ _ (fun b g1 g2 => h b g1 (by omega)) h1 h2 (by omega)
def dl_st (W : Int) (C : Nat → Int) (o n : Nat) : Int := if n = 0 then -1 else W - C (o + n)
/-- a side's value and move behind a bid of n, a bid of m at most open to her -/
def dl_r (W : Int) (C V : Nat → Int) (side n m : Nat) : Int × Int := dl_s W (fun b => V (10 - 10 * side + b)) m (dl_st W C (10 - 10 * side) n, 0)
def dl_put (f : Nat → Int) (i : Nat) (v : Int) : Nat → Int := fun j => if j = i then v else f j
theorem dl_put_eq (f : Nat → Int) (i : Nat) (v : Int) : dl_put f i v i = v := if_pos rfl
theorem dl_put_ne (f : Nat → Int) {i j : Nat} (v : Int) (h : j ≠ i) : dl_put f i v j = f j := if_neg h
def dl_1 (C : Nat → Int) (side n m : Nat) (st : (Nat → Int) × (Nat → Int)) : (Nat → Int) × (Nat → Int) := (dl_put st.1 (10 * side + n) (dl_r 976299632280 C st.1 side n m).1, dl_put st.2 (10 * side + n) (dl_r 976299632280 C st.1 side n m).2)
def dl_m (f : Nat) : Nat → Nat
  | 0 => f
  | n + 1 => n
def dl_n (C : Nat → Int) (f : Nat) : Nat → (Nat → Int) × (Nat → Int)
  | 0 => (fun _ => 0, fun _ => 0)
  | k + 1 => dl_1 C 1 ((k + 1) % 10) (dl_m f ((k + 1) % 10)) (dl_1 C 0 ((k + 1) % 10) (dl_m f ((k + 1) % 10)) (dl_n C f k))
theorem dl_nn (C : Nat → Int) (f : Nat) {k : Nat} (h : k < 9) : dl_n C f (k + 1) = dl_1 C 1 (k + 1) k (dl_1 C 0 (k + 1) k (dl_n C f k)) := by
  show dl_1 C 1 ((k + 1) % 10) (dl_m f ((k + 1) % 10)) (dl_1 C 0 ((k + 1) % 10) (dl_m f ((k + 1) % 10)) (dl_n C f k)) = _
  rw [Nat.mod_eq_of_lt (show k + 1 < 10 by omega)]
  rfl
theorem dl_nt (C : Nat → Int) (f : Nat) : dl_n C f (9 + 1) = dl_1 C 1 0 f (dl_1 C 0 0 f (dl_n C f 9)) := rfl
def dl_B (st : (Nat → Int) × (Nat → Int)) : Prop := ∀ i : Nat, (0 ≤ st.1 i ∧ st.1 i ≤ 976299632280) ∧ (0 ≤ st.2 i ∧ st.2 i ≤ 9) ∧ (1 ≤ i % 10 → st.2 i ≤ ((i % 10 : Nat) : Int) - 1)
def dl_C (C : Nat → Int) : Prop := ∀ i : Nat, i < 20 → 1 ≤ i % 10 → 0 ≤ C i ∧ C i ≤ 976299632280
theorem dl_rb {C V : Nat → Int} {side n m : Nat} (hs : side < 2) (hn : n < 10) (hz : n = 0 → 1 ≤ m) (hC : dl_C C) (hV : ∀ b : Nat, 1 ≤ b → b ≤ m → 0 ≤ V (10 - 10 * side + b) ∧ V (10 - 10 * side + b) ≤ 976299632280) : (0 ≤ (dl_r 976299632280 C V side n m).1 ∧ (dl_r 976299632280 C V side n m).1 ≤ 976299632280) ∧ (0 ≤ (dl_r 976299632280 C V side n m).2 ∧ (dl_r 976299632280 C V side n m).2 ≤ (m : Int)) := by
  unfold dl_r dl_st
  by_cases c : n = 0
  · rw [if_pos c]
    obtain ⟨m, rfl⟩ : ∃ k : Nat, m = k + 1 := ⟨m - 1, by have := hz c; omega⟩
    have e := hV (m + 1) (by omega) (by omega)
    rw [dl_ss, if_pos (show (-1 : Int) < 976299632280 - V (10 - 10 * side + (m + 1)) by omega)]
    exact dl_sb (Int.le_refl 0) m _ _ (fun b h1 h2 => hV b h1 (by omega)) ⟨by omega, by omega⟩ ⟨by omega, by omega⟩ (by omega)
  · rw [if_neg c]
    have e := hC (10 - 10 * side + n) (by omega) (by omega)
    exact dl_sb (Int.le_refl 0) m _ _ hV ⟨by omega, by omega⟩ ⟨Int.le_refl 0, by omega⟩ (Nat.le_refl m)
theorem dl_1b {C : Nat → Int} {st : (Nat → Int) × (Nat → Int)} {side n m : Nat} (hB : dl_B st) (hC : dl_C C) (hs : side < 2) (hn : n < 10) (hm : m < 10) (hz : n = 0 → 1 ≤ m) (hk : n ≠ 0 → m + 1 ≤ n) : dl_B (dl_1 C side n m st) := by
  have r := dl_rb (V := st.1) hs hn hz hC (fun b _ _ => (hB _).1)
  intro i
  show (0 ≤ dl_put _ _ _ i ∧ dl_put _ _ _ i ≤ 976299632280) ∧ (0 ≤ dl_put _ _ _ i ∧ dl_put _ _ _ i ≤ 9) ∧ (_ → dl_put _ _ _ i ≤ _)
  by_cases c : i = 10 * side + n
  · subst c
    rw [dl_put_eq, dl_put_eq]
    refine ⟨r.1, ⟨r.2.1, by omega⟩, fun q => ?_⟩
    have e : (10 * side + n) % 10 = n := by omega
    rw [e] at q ⊢
    have := hk (by omega)
    omega
  · rw [dl_put_ne _ _ c, dl_put_ne _ _ c]
    exact hB i
theorem dl_nb {C : Nat → Int} {f : Nat} (hC : dl_C C) (hf : 1 ≤ f ∧ f ≤ 9) : ∀ k : Nat, dl_B (dl_n C f k)
  | 0 => fun i => ⟨⟨Int.le_refl 0, show (0 : Int) ≤ 976299632280 by decide⟩, ⟨Int.le_refl 0, show (0 : Int) ≤ 9 by decide⟩, fun q => by show (0 : Int) ≤ _; omega⟩
  | k + 1 => by
    have b := dl_nb hC hf k
    have m : dl_m f ((k + 1) % 10) < 10 ∧ ((k + 1) % 10 = 0 → 1 ≤ dl_m f ((k + 1) % 10)) ∧ ((k + 1) % 10 ≠ 0 → dl_m f ((k + 1) % 10) + 1 ≤ (k + 1) % 10) := by
      have lt : (k + 1) % 10 < 10 := Nat.mod_lt _ (by decide)
      generalize (k + 1) % 10 = n at lt ⊢
      cases n with
      | zero => exact ⟨by show f < 10; omega, fun _ => hf.1, fun z => absurd rfl z⟩
      | succ n => exact ⟨by show n < 10; omega, fun z => absurd z (Nat.succ_ne_zero n), fun _ => Nat.le_refl _⟩
    have lt : (k + 1) % 10 < 10 := Nat.mod_lt _ (by decide)
    exact dl_1b (dl_1b b hC (by decide) lt m.1 m.2.1 m.2.2) hC (by decide) lt m.1 m.2.1 m.2.2
theorem dl_rc (W : Int) {C C' V V' : Nat → Int} {side n m : Nat} (hC : n ≠ 0 → C (10 - 10 * side + n) = C' (10 - 10 * side + n)) (hV : ∀ b : Nat, 1 ≤ b → b ≤ m → V (10 - 10 * side + b) = V' (10 - 10 * side + b)) : dl_r W C V side n m = dl_r W C' V' side n m := by
  unfold dl_r dl_st
  by_cases c : n = 0
  · rw [if_pos c, if_pos c]
    exact dl_sc W m _ _ hV
  · rw [if_neg c, if_neg c, hC c]
    exact dl_sc W m _ _ hV
theorem dl_rz {C C' V V' : Nat → Int} {side n m : Nat} (hz : n = 0 → 1 ≤ m) (hC : n ≠ 0 → C' (10 - 10 * side + n) = 2520 * C (10 - 10 * side + n)) (hV : ∀ b : Nat, 1 ≤ b → b ≤ m → V' (10 - 10 * side + b) = 2520 * V (10 - 10 * side + b)) (hb : ∀ b : Nat, 1 ≤ b → b ≤ m → 0 ≤ V (10 - 10 * side + b) ∧ V (10 - 10 * side + b) ≤ 976299632280) : dl_r 2460275073345600 C' V' side n m = (2520 * (dl_r 976299632280 C V side n m).1, (dl_r 976299632280 C V side n m).2) := by
  unfold dl_r dl_st
  by_cases c : n = 0
  · rw [if_pos c, if_pos c]
    obtain ⟨m, rfl⟩ : ∃ k : Nat, m = k + 1 := ⟨m - 1, by have := hz c; omega⟩
    have e := hV (m + 1) (by omega) (by omega)
    have e2 := hb (m + 1) (by omega) (by omega)
    rw [dl_ss, dl_ss, if_pos (show (-1 : Int) < 2460275073345600 - V' (10 - 10 * side + (m + 1)) by omega), if_pos (show (-1 : Int) < 976299632280 - V (10 - 10 * side + (m + 1)) by omega), show 2460275073345600 - V' (10 - 10 * side + (m + 1)) = 2520 * (976299632280 - V (10 - 10 * side + (m + 1))) by omega]
    exact dl_sz (V := fun b => V (10 - 10 * side + b)) m _ _ (fun b h1 h2 => hV b h1 (by omega))
  · rw [if_neg c, if_neg c, hC c, show 2460275073345600 - 2520 * C (10 - 10 * side + n) = 2520 * (976299632280 - C (10 - 10 * side + n)) by omega]
    exact dl_sz (V := fun b => V (10 - 10 * side + b)) m _ _ hV
theorem dl_nc {C C' : Nat → Int} {f : Nat} (h : ∀ i : Nat, i < 20 → 1 ≤ i % 10 → C i = C' i) : ∀ k : Nat, dl_n C f k = dl_n C' f k
  | 0 => rfl
  | k + 1 => by
    have one : ∀ (side n m : Nat) (st : (Nat → Int) × (Nat → Int)), side < 2 → n < 10 → dl_1 C side n m st = dl_1 C' side n m st := by
      intro side n m st hs hn
      unfold dl_1
      rw [dl_rc 976299632280 (C' := C') (V' := st.1) (fun c => h _ (by omega) (by omega)) (fun _ _ _ => rfl)]
    have lt : (k + 1) % 10 < 10 := Nat.mod_lt _ (by decide)
    show dl_1 C 1 _ _ (dl_1 C 0 _ _ (dl_n C f k)) = dl_1 C' 1 _ _ (dl_1 C' 0 _ _ (dl_n C' f k))
    rw [dl_nc h k, one 0 _ _ _ (by decide) lt, one 1 _ _ _ (by decide) lt]
/-- one side speaks: what it writes -/
def du_u (σ : ab_SG) (side n m : Nat) : ab_SG := ab_ups (ab_ups σ 79 (10 * side + n) (dl_r 976299632280 (σ 78) (σ 79) side n m).1) 80 (10 * side + n) (dl_r 976299632280 (σ 78) (σ 79) side n m).2
def du_B : ab_ML := [(79, 1000000), (80, 1000000)]
theorem du_uM {σ τ : ab_SG} (h : ab_okM du_B σ τ) (side n m : Nat) : ab_okM du_B σ (du_u τ side n m) := fw_okM_upa (fw_okM_upa h (by decide)) (by decide)
theorem du_B78 {σ τ : ab_SG} (h : ab_okM du_B σ τ) : τ 78 = σ 78 := funext fun j => h 78 j (fun q hq hh => by
  have : ∀ q ∈ du_B, q.1 ≠ 78 := by decide
  exact this q hq hh.1)
def du_A (S : Nat → Prop) (τ : ab_SG) (st : (Nat → Int) × (Nat → Int)) : Prop := ∀ i : Nat, S i → τ 79 i = st.1 i ∧ τ 80 i = st.2 i
theorem du_uA {S : Nat → Prop} {τ : ab_SG} {st : (Nat → Int) × (Nat → Int)} {C : Nat → Int} {side n m : Nat} (hA : du_A S τ st) (eC : τ 78 = C) (hr : ∀ b : Nat, 1 ≤ b → b ≤ m → S (10 - 10 * side + b)) : du_A (fun i => S i ∨ i = 10 * side + n) (du_u τ side n m) (dl_1 C side n m st) := by
  have e : dl_r 976299632280 (τ 78) (τ 79) side n m = dl_r 976299632280 C st.1 side n m := dl_rc _ (fun _ => by rw [eC]) (fun b h1 h2 => (hA _ (hr b h1 h2)).1)
  intro i hi
  unfold du_u
  rw [e]
  show _ = dl_put _ _ _ i ∧ _ = dl_put _ _ _ i
  rw [ab_ups_ne (fun z => absurd z.1 (by decide))]
  by_cases c : i = 10 * side + n
  · subst c
    rw [ab_ups_eq, ab_ups_eq, dl_put_eq, dl_put_eq]
    exact ⟨rfl, rfl⟩
  · have s := hA i (hi.resolve_right c)
    rw [ab_ups_ne (fun z => c z.2), ab_ups_ne (fun z => c z.2), ab_ups_ne (fun z => absurd z.1 (by decide)), dl_put_ne _ _ c, dl_put_ne _ _ c]
    exact s
def sp_speakBest : fw_SP := fun as σ K => ∃ (side n m : Nat) (a b c : Int), as = [(2, 77, 0), (0, 0, a), (0, 0, b), (0, 0, c)] ∧ (a = (side : Int) ∧ b = (n : Int) ∧ c = (m : Int)) ∧ (side < 2 ∧ n < 10 ∧ m < 10) ∧ (n ≠ 0 → 0 ≤ σ 78 (10 - 10 * side + n) ∧ σ 78 (10 - 10 * side + n) ≤ 976299632280) ∧ (∀ b : Nat, 1 ≤ b → b ≤ m → 0 ≤ σ 79 (10 - 10 * side + b) ∧ σ 79 (10 - 10 * side + b) ≤ 976299632280) ∧ K none (du_u σ side n m)
def sp_doBest : fw_SP := fun as σ K => ∃ f : Nat, as = [(2, 77, 0), (0, 0, (f : Int))] ∧ (1 ≤ f ∧ f ≤ 9) ∧ dl_C (σ 78) ∧ ∀ σ' : ab_SG, ab_okM du_B σ σ' → (∀ i : Nat, i < 20 → σ' 79 i = (dl_n (σ 78) f 10).1 i ∧ σ' 80 i = (dl_n (σ 78) f 10).2 i) → K none σ'
def sp_dvalue : fw_SP := fun as σ K => ∃ (side n : Nat) (a b : Int), as = [(2, 77, 0), (0, 0, a), (0, 0, b)] ∧ (a = (side : Int) ∧ b = (n : Int)) ∧ (side < 2 ∧ n < 10) ∧ K (some (1, 0, σ 79 (10 * side + n))) σ
def sp_dmove : fw_SP := fun as σ K => ∃ (side n : Nat) (a b : Int), as = [(2, 77, 0), (0, 0, a), (0, 0, b)] ∧ (a = (side : Int) ∧ b = (n : Int)) ∧ (side < 2 ∧ n < 10) ∧ K (some (0, 0, σ 80 (10 * side + n))) σ
/-- the odds of p and q, in the duel's order -/
def v_ch (A : ab_SG) (p q : Nat) (s : Int) : Nat → Int := fun i => if i < 10 then oz_odds A p (i : Int) s else oz_odds A q ((i - 10 : Nat) : Int) s
def du_H : ab_ML := [(73, 3), (74, 1000000), (75, 1000000), (78, 1000000)]
def du_M : ab_ML := [(73, 3), (74, 1000000), (75, 1000000), (78, 1000000), (79, 1000000), (80, 1000000)]
def sp_hear : fw_SP := fun as σ K => ∃ (A : ab_SG) (p q : Nat) (s : Int), as = [(2, 77, 0), (2, 3, 0), (2, 73, 0), (0, 0, (p : Int)), (0, 0, (q : Int)), (0, 0, s)] ∧ NC σ A ∧ p < 5 ∧ q < 5 ∧ (1 ≤ s ∧ s < 512) ∧ (∀ z : Nat, z < 9 → pr_hs s (z : Int) = true → (z : Int) < A 49 11) ∧ ∀ σ' : ab_SG, ab_okM du_H σ σ' → (∀ i : Nat, i < 20 → 1 ≤ i % 10 → σ' 78 i = v_ch A p q s i) → K none σ'
/-- a round is possible, and a bid of n behind it -/
abbrev v_bd (A : ab_SG) (p q n c : Int) : Prop := (0 ≤ p ∧ p < A 49 13) ∧ (0 ≤ q ∧ q < A 49 13) ∧ p ≠ q ∧ (0 ≤ n ∧ n ≤ 9) ∧ (0 ≤ c ∧ c < A 49 12)
def sp_canBid : fw_SP := fun as σ K => ∃ (A : ab_SG) (p q n c : Int), as = [(2, 0, 0), (0, 0, p), (0, 0, q), (0, 0, n), (0, 0, c)] ∧ (fw_c p = p ∧ fw_c q = q ∧ fw_c n = n ∧ fw_c c = c) ∧ NC σ A ∧ K (some (0, 0, fw_bo (v_bd A p q n c))) σ
def sp_m_isRound : fw_SP := fun as σ K => ∃ (A : ab_SG) (p q c : Int), as = [(2, 93, 0), (0, 0, p), (0, 0, q), (0, 0, c)] ∧ (fw_c p = p ∧ fw_c q = q ∧ fw_c c = c) ∧ NM σ A ∧ K (some (0, 0, fw_bo (v_bd A p q 0 c))) σ
def sp_m_isSpeech : fw_SP := fun as σ K => ∃ (A : ab_SG) (p q n c : Int), as = [(2, 93, 0), (0, 0, p), (0, 0, q), (0, 0, n), (0, 0, c)] ∧ (fw_c p = p ∧ fw_c q = q ∧ fw_c n = n ∧ fw_c c = c) ∧ NM σ A ∧ K (some (0, 0, fw_bo (v_bd A p q n c))) σ
/-- the duel of p and q at a clue: values, moves -/
def v_du (A : ab_SG) (p q c : Int) : (Nat → Int) × (Nat → Int) := dl_n (v_ch A p.toNat q.toNat (v_set A c)) (A 49 14).toNat 10
def sp_weigh : fw_SP := fun as σ K => ∃ (A : ab_SG) (p q c : Int), as = [(2, 0, 0), (0, 0, p), (0, 0, q), (0, 0, c)] ∧ NC σ A ∧ v_bd A p q 0 c ∧ ∀ σ' : ab_SG, ab_okM du_M σ σ' → (∀ i : Nat, i < 20 → σ' 79 i = (v_du A p q c).1 i ∧ σ' 80 i = (v_du A p q c).2 i) → K none σ'
def v_best (A : ab_SG) (p q n c : Int) : Int := if v_bd A p q n c then (v_du A p q c).2 n.toNat else -1
def v_fairV (a b : Int) : Int := if 976299632280 < 2 * a ∧ 976299632280 < 2 * (976299632280 - b) then 1 else if 2 * a < 976299632280 ∧ 2 * (976299632280 - b) < 976299632280 then -1 else 0
def v_fair (A : ab_SG) (p q c : Int) : Int := if v_bd A p q 0 c then v_fairV ((v_du A p q c).1 0) ((v_du A p q c).1 10) else -1
/-- the last bid of a round in which both do best -/
def lo_f (M : Nat → Int) : Nat → Nat → Nat → Int
  | 0, _, last => (last : Int)
  | f + 1, side, last => if M (10 * side + last) = 0 then (last : Int) else lo_f M f (1 - side) (M (10 * side + last)).toNat
theorem lo_s (M : Nat → Int) (f side last : Nat) : lo_f M (f + 1) side last = if M (10 * side + last) = 0 then (last : Int) else lo_f M f (1 - side) (M (10 * side + last)).toNat := rfl
def v_low (A : ab_SG) (p q c : Int) : Int := if v_bd A p q 0 c then lo_f (v_du A p q c).2 10 0 0 else -1
def sp_lastBid : fw_SP := fun as σ K => as = [(2, 77, 0)] ∧ (∀ i : Nat, i < 20 → (0 ≤ σ 80 i ∧ σ 80 i ≤ 9) ∧ (1 ≤ i % 10 → σ 80 i ≤ ((i % 10 : Nat) : Int) - 1)) ∧ K (some (0, 0, lo_f (σ 80) 10 0 0)) σ
def sp_best : fw_SP := fun as σ K => ∃ (A : ab_SG) (p q n c : Int), as = [(2, 0, 0), (0, 0, p), (0, 0, q), (0, 0, n), (0, 0, c)] ∧ (fw_c p = p ∧ fw_c q = q ∧ fw_c n = n ∧ fw_c c = c) ∧ NC σ A ∧ ∀ σ' : ab_SG, ab_okM du_M σ σ' → K (some (0, 0, v_best A p q n c)) σ'
def sp_fair : fw_SP := fun as σ K => ∃ (A : ab_SG) (p q c : Int), as = [(2, 0, 0), (0, 0, p), (0, 0, q), (0, 0, c)] ∧ (fw_c p = p ∧ fw_c q = q ∧ fw_c c = c) ∧ NC σ A ∧ ∀ σ' : ab_SG, ab_okM du_M σ σ' → K (some (0, 0, v_fair A p q c)) σ'
def sp_low : fw_SP := fun as σ K => ∃ (A : ab_SG) (p q c : Int), as = [(2, 0, 0), (0, 0, p), (0, 0, q), (0, 0, c)] ∧ (fw_c p = p ∧ fw_c q = q ∧ fw_c c = c) ∧ NC σ A ∧ ∀ σ' : ab_SG, ab_okM du_M σ σ' → K (some (0, 0, v_low A p q c)) σ'
theorem du_ch {A τ : ab_SG} {p : Nat} {n s : Int} (h4 : ∀ y : Nat, y < 9 → τ 74 y = if pr_hs 0 (y : Int) = true then 9 else A 55 (9 * p + y)) (h5 : ∀ x : Nat, x < 9 → τ 75 x = oz_grp A n s x) : oz_ch (τ 74) (τ 75) s = oz_odds A p n s := by
  unfold oz_odds oz_ch
  rw [oz_sm_congr (κ' := oz_kp A p) (γ' := oz_grp A n s) (fun y hy => by rw [h4 y hy, if_neg (by rw [hs_0 y hy]; exact Bool.false_ne_true)]; rfl) h5]
theorem du_78 {σ τ : ab_SG} (h : ab_okM oz_M σ τ) (j : Nat) : τ 78 j = σ 78 j := h 78 j (fun q hq hh => by
  have : ∀ q ∈ oz_M, q.1 ≠ 78 := by decide
  exact this q hq hh.1)
theorem v_chb {σ A : ab_SG} (hN : NC σ A) {p q : Nat} (hp : p < 5) (hq : q < 5) {s : Int} (hs : 1 ≤ s ∧ s < 512) : dl_C (v_ch A p q s) := fun i _ _ => by
  unfold v_ch
  split
  · exact oz_odds_b hN hp hs
  · exact oz_odds_b hN hq hs
abbrev fk_at78 : List fw_CR := []
abbrev st_at78 : fw_K → fw_KR → fw_K := fw_st vwCl nn_sh nn_kd fw_kv fw_wc (nn_KI1.map (fun x => x.1)) (nn_KJ1.map (fun x => x.1)) (nn_PF1.map (fun x => x.1)) (nn_PS1.map (fun x => x.1)) fk_at78 0 nn_dt87 2 2
theorem fs_at78_0 {G : fw_K} {R : fw_KR} (hG : fw_cls st_at78 R G) {x : Int} {σ : ab_SG} (h : (fw_c x < 0 → R (some (1, 0, ((0 : Nat) : Int))) σ) ∧ (0 ≤ fw_c x → (fw_c ((20 : Nat) : Int) ≤ fw_c x → R (some (1, 0, ((0 : Nat) : Int))) σ) ∧ (fw_c x < fw_c ((20 : Nat) : Int) → (0 ≤ fw_c x ∧ fw_c x < ((20 : Nat) : Int)) ∧ (R (some (1, 0, σ 78 (fw_c x).toNat)) σ)))) : G 0 [some (2, 78, 0), some (0, 0, x)] [] σ := fw_on hG [] 200 h
abbrev fk_at79 : List fw_CR := []
abbrev st_at79 : fw_K → fw_KR → fw_K := fw_st vwCl nn_sh nn_kd fw_kv fw_wc (nn_KI1.map (fun x => x.1)) (nn_KJ1.map (fun x => x.1)) (nn_PF1.map (fun x => x.1)) (nn_PS1.map (fun x => x.1)) fk_at79 0 nn_dt87 2 2
theorem fs_at79_0 {G : fw_K} {R : fw_KR} (hG : fw_cls st_at79 R G) {x : Int} {σ : ab_SG} (h : (fw_c x < 0 → R (some (1, 0, ((0 : Nat) : Int))) σ) ∧ (0 ≤ fw_c x → (fw_c ((20 : Nat) : Int) ≤ fw_c x → R (some (1, 0, ((0 : Nat) : Int))) σ) ∧ (fw_c x < fw_c ((20 : Nat) : Int) → (0 ≤ fw_c x ∧ fw_c x < ((20 : Nat) : Int)) ∧ (R (some (1, 0, σ 79 (fw_c x).toNat)) σ)))) : G 0 [some (2, 79, 0), some (0, 0, x)] [] σ := fw_on hG [] 200 h
abbrev fk_at76 : List fw_CR := []
abbrev st_at76 : fw_K → fw_KR → fw_K := fw_st vwCl nn_sh nn_kd fw_kv fw_wc (nn_KI1.map (fun x => x.1)) (nn_KJ1.map (fun x => x.1)) (nn_PF1.map (fun x => x.1)) (nn_PS1.map (fun x => x.1)) fk_at76 0 nn_dt87 2 2
theorem fs_at76_0 {G : fw_K} {R : fw_KR} (hG : fw_cls st_at76 R G) {x : Int} {σ : ab_SG} (h : (fw_c x < 0 → R (some (1, 0, ((0 : Nat) : Int))) σ) ∧ (0 ≤ fw_c x → (fw_c ((9 : Nat) : Int) ≤ fw_c x → R (some (1, 0, ((0 : Nat) : Int))) σ) ∧ (fw_c x < fw_c ((9 : Nat) : Int) → (0 ≤ fw_c x ∧ fw_c x < ((9 : Nat) : Int)) ∧ (R (some (1, 0, σ 76 (fw_c x).toNat)) σ)))) : G 0 [some (2, 76, 0), some (0, 0, x)] [] σ := fw_on hG [] 200 h
abbrev fk_put78 : List fw_CR := []
abbrev st_put78 : fw_K → fw_KR → fw_K := fw_st vwCl nn_sh nn_kd fw_kv fw_wc (nn_KI1.map (fun x => x.1)) (nn_KJ1.map (fun x => x.1)) (nn_PF1.map (fun x => x.1)) (nn_PS1.map (fun x => x.1)) fk_put78 0 nn_dt26 4 4
theorem fs_put78_0 {G : fw_K} {R : fw_KR} (hG : fw_cls st_put78 R G) {x v : Int} {σ : ab_SG} (h : (fw_c x < 0 → R none σ) ∧ (0 ≤ fw_c x → (fw_c ((20 : Nat) : Int) ≤ fw_c x → R none σ) ∧ (fw_c x < fw_c ((20 : Nat) : Int) → (0 ≤ fw_c x ∧ fw_c x < ((20 : Nat) : Int)) ∧ True ∧ (R none (ab_ups σ 78 (fw_c x).toNat (fw_d v)))))) : G 0 [some (2, 78, 0), some (0, 0, x), some (1, 0, v), none] [] σ := fw_on hG [] 200 h
abbrev fk_put79 : List fw_CR := []
abbrev st_put79 : fw_K → fw_KR → fw_K := fw_st vwCl nn_sh nn_kd fw_kv fw_wc (nn_KI1.map (fun x => x.1)) (nn_KJ1.map (fun x => x.1)) (nn_PF1.map (fun x => x.1)) (nn_PS1.map (fun x => x.1)) fk_put79 0 nn_dt26 4 4
theorem fs_put79_0 {G : fw_K} {R : fw_KR} (hG : fw_cls st_put79 R G) {x v : Int} {σ : ab_SG} (h : (fw_c x < 0 → R none σ) ∧ (0 ≤ fw_c x → (fw_c ((20 : Nat) : Int) ≤ fw_c x → R none σ) ∧ (fw_c x < fw_c ((20 : Nat) : Int) → (0 ≤ fw_c x ∧ fw_c x < ((20 : Nat) : Int)) ∧ True ∧ (R none (ab_ups σ 79 (fw_c x).toNat (fw_d v)))))) : G 0 [some (2, 79, 0), some (0, 0, x), some (1, 0, v), none] [] σ := fw_on hG [] 200 h
abbrev fk_put80 : List fw_CR := []
abbrev st_put80 : fw_K → fw_KR → fw_K := fw_st vwCl nn_sh nn_kd fw_kv fw_wc (nn_KI1.map (fun x => x.1)) (nn_KJ1.map (fun x => x.1)) (nn_PF1.map (fun x => x.1)) (nn_PS1.map (fun x => x.1)) fk_put80 0 nn_dt27 3 4
theorem fs_put80_0 {G : fw_K} {R : fw_KR} (hG : fw_cls st_put80 R G) {x v : Int} {σ : ab_SG} (h : (fw_c x < 0 → R none σ) ∧ (0 ≤ fw_c x → (fw_c ((20 : Nat) : Int) ≤ fw_c x → R none σ) ∧ (fw_c x < fw_c ((20 : Nat) : Int) → (0 ≤ fw_c x ∧ fw_c x < ((20 : Nat) : Int)) ∧ True ∧ (R none (ab_ups σ 80 (fw_c x).toNat (fw_c v)))))) : G 0 [some (2, 80, 0), some (0, 0, x), some (0, 0, v)] [] σ := fw_on hG [] 200 h
abbrev fk_at80 : List fw_CR := []
abbrev st_at80 : fw_K → fw_KR → fw_K := fw_st vwCl nn_sh nn_kd fw_kv fw_wc (nn_KI1.map (fun x => x.1)) (nn_KJ1.map (fun x => x.1)) (nn_PF1.map (fun x => x.1)) (nn_PS1.map (fun x => x.1)) fk_at80 0 nn_dt29 2 0
theorem fs_at80_0 {G : fw_K} {R : fw_KR} (hG : fw_cls st_at80 R G) {x : Int} {σ : ab_SG} (h : (fw_c x < 0 → R (some (0, 0, 0)) σ) ∧ (0 ≤ fw_c x → (fw_c ((20 : Nat) : Int) ≤ fw_c x → R (some (0, 0, 0)) σ) ∧ (fw_c x < fw_c ((20 : Nat) : Int) → (0 ≤ fw_c x ∧ fw_c x < ((20 : Nat) : Int)) ∧ (R (some (0, 0, σ 80 (fw_c x).toNat)) σ)))) : G 0 [some (2, 80, 0), some (0, 0, x)] [] σ := fw_on hG [] 200 h
abbrev fk_speakBest : List fw_CR := [(35, 3, false, 0, 0, sp_put79), (45, 2, false, 0, 0, sp_atj), (51, 3, false, 0, 0, sp_put80)]
abbrev st_speakBest : fw_K → fw_KR → fw_K := fw_st vwCl nn_sh nn_kd fw_kv fw_wc (nn_KI10.map (fun x => x.1)) (nn_KJ10.map (fun x => x.1)) (nn_PF10.map (fun x => x.1)) (nn_PS10.map (fun x => x.1)) fk_speakBest 1 nn_dt95 11 4
theorem fs_speakBest_0 {G : fw_K} {R : fw_KR} (hG : fw_cls st_speakBest R G) {side n m : Int} {σ : ab_SG} (h : (fw_c n ≤ 0 → G 33 [some (2, 77, 0), some (0, 0, side), some (0, 0, n), some (0, 0, m), some (0, 0, (1 - side) * 10), none, none, none, none, none, none] [(1, 0, (-1))] σ) ∧ (0 < fw_c n → sp_atj [(2, 78, 0), (0, 0, ((1 - side) * 10) + n)] σ (fun rv σ2 => G 26 [some (2, 77, 0), some (0, 0, side), some (0, 0, n), some (0, 0, m), some (0, 0, (1 - side) * 10), none, none, none, none, none, none] (rv.toList ++ [(1, 0, 976299632280)]) σ2))) : G 0 [some (2, 77, 0), some (0, 0, side), some (0, 0, n), some (0, 0, m), none, none, none, none, none, none, none] [] σ := fw_on hG [26, 33, 41, 61, 80, 101, 116] 200 h
theorem fs_speakBest_33 {G : fw_K} {R : fw_KR} (hG : fw_cls st_speakBest R G) {a1 a2 a3 a4 b0 : Int} {o5 o6 o7 o8 o9 o10 : Option ab_AV} {σ : ab_SG} (h : G 41 [some (2, 77, 0), some (0, 0, a1), some (0, 0, a2), some (0, 0, a3), some (0, 0, a4), some (1, 0, b0), none, some (0, 0, 0), some (0, 0, a3), o9, o10] [] σ) : G 33 [some (2, 77, 0), some (0, 0, a1), some (0, 0, a2), some (0, 0, a3), some (0, 0, a4), o5, o6, o7, o8, o9, o10] [(1, 0, b0)] σ := fw_on hG [26, 33, 41, 61, 80, 101, 116] 200 h
theorem fs_speakBest_26 {G : fw_K} {R : fw_KR} (hG : fw_cls st_speakBest R G) {a1 a2 a3 a4 b0 b1 : Int} {o5 o6 o7 o8 o9 o10 : Option ab_AV} {σ : ab_SG} (h : G 33 [some (2, 77, 0), some (0, 0, a1), some (0, 0, a2), some (0, 0, a3), some (0, 0, a4), o5, o6, o7, o8, o9, o10] [(1, 0, b1 - b0)] σ) : G 26 [some (2, 77, 0), some (0, 0, a1), some (0, 0, a2), some (0, 0, a3), some (0, 0, a4), o5, o6, o7, o8, o9, o10] [(1, 0, b0), (1, 0, b1)] σ := fw_on hG [26, 33, 41, 61, 80, 101, 116] 200 h
theorem fs_speakBest_41 {G : fw_K} {R : fw_KR} (hG : fw_cls st_speakBest R G) {a1 a2 a4 a5 a7 a8 : Int} {o3 o6 o9 o10 : Option ab_AV} {σ : ab_SG} (h : (fw_c a8 ≤ 0 → sp_put79 [(2, 79, 0), (0, 0, (a1 * 10) + a2), (1, 0, a5)] σ (fun rv σ2 => G 101 [some (2, 77, 0), some (0, 0, a1), some (0, 0, a2), o3, some (0, 0, a4), some (1, 0, a5), o6, some (0, 0, a7), some (0, 0, a8), o9, o10] (rv.toList ++ []) σ2)) ∧ (0 < fw_c a8 → sp_atj [(2, 79, 0), (0, 0, a4 + a8)] σ (fun rv σ2 => G 61 [some (2, 77, 0), some (0, 0, a1), some (0, 0, a2), o3, some (0, 0, a4), some (1, 0, a5), o6, some (0, 0, a7), some (0, 0, a8), o9, o10] (rv.toList ++ [(1, 0, 976299632280)]) σ2))) : G 41 [some (2, 77, 0), some (0, 0, a1), some (0, 0, a2), o3, some (0, 0, a4), some (1, 0, a5), o6, some (0, 0, a7), some (0, 0, a8), o9, o10] [] σ := fw_on hG [26, 33, 41, 61, 80, 101, 116] 200 h
theorem fs_speakBest_101 {G : fw_K} {R : fw_KR} (hG : fw_cls st_speakBest R G) {a1 a2 a7 : Int} {o3 o4 o5 o6 o8 o9 o10 : Option ab_AV} {σ : ab_SG} (h : sp_put80 [(2, 80, 0), (0, 0, (a1 * 10) + a2), (0, 0, a7)] σ (fun rv σ2 => G 116 [some (2, 77, 0), some (0, 0, a1), some (0, 0, a2), o3, o4, o5, o6, some (0, 0, a7), o8, o9, o10] (rv.toList ++ []) σ2)) : G 101 [some (2, 77, 0), some (0, 0, a1), some (0, 0, a2), o3, o4, o5, o6, some (0, 0, a7), o8, o9, o10] [] σ := fw_on hG [26, 33, 41, 61, 80, 101, 116] 200 h
theorem fs_speakBest_61 {G : fw_K} {R : fw_KR} (hG : fw_cls st_speakBest R G) {a1 a2 a4 a5 a7 a8 b0 b1 : Int} {o3 o6 o9 o10 : Option ab_AV} {σ : ab_SG} (h : (fw_d (b1 - b0) ≤ fw_d a5 → G 80 [some (2, 77, 0), some (0, 0, a1), some (0, 0, a2), o3, some (0, 0, a4), some (1, 0, a5), o6, some (0, 0, a7), some (0, 0, a8), some (1, 0, b1 - b0), none] [] σ) ∧ (fw_d a5 < fw_d (b1 - b0) → G 80 [some (2, 77, 0), some (0, 0, a1), some (0, 0, a2), o3, some (0, 0, a4), some (1, 0, b1 - b0), none, some (0, 0, a8), some (0, 0, a8), some (1, 0, b1 - b0), none] [] σ)) : G 61 [some (2, 77, 0), some (0, 0, a1), some (0, 0, a2), o3, some (0, 0, a4), some (1, 0, a5), o6, some (0, 0, a7), some (0, 0, a8), o9, o10] [(1, 0, b0), (1, 0, b1)] σ := fw_on hG [26, 33, 41, 61, 80, 101, 116] 200 h
theorem fs_speakBest_116 {G : fw_K} {R : fw_KR} (hG : fw_cls st_speakBest R G) {o1 o2 o3 o4 o5 o6 o7 o8 o9 o10 : Option ab_AV} {σ : ab_SG} (h : R none σ) : G 116 [some (2, 77, 0), o1, o2, o3, o4, o5, o6, o7, o8, o9, o10] [] σ := fw_on hG [26, 33, 41, 61, 80, 101, 116] 200 h
theorem fs_speakBest_80 {G : fw_K} {R : fw_KR} (hG : fw_cls st_speakBest R G) {a1 a2 a4 a5 a7 a8 : Int} {o3 o6 o9 o10 : Option ab_AV} {σ : ab_SG} (h : G 41 [some (2, 77, 0), some (0, 0, a1), some (0, 0, a2), o3, some (0, 0, a4), some (1, 0, a5), o6, some (0, 0, a7), some (0, 0, a8 + (-1)), o9, o10] [] σ) : G 80 [some (2, 77, 0), some (0, 0, a1), some (0, 0, a2), o3, some (0, 0, a4), some (1, 0, a5), o6, some (0, 0, a7), some (0, 0, a8), o9, o10] [] σ := fw_on hG [26, 33, 41, 61, 80, 101, 116] 200 h
abbrev fk_doBest : List fw_CR := [(39, 3, true, 0, 1, sp_speakBest)]
abbrev st_doBest : fw_K → fw_KR → fw_K := fw_st vwCl nn_sh nn_kd fw_kv fw_wc (nn_KI10.map (fun x => x.1)) (nn_KJ10.map (fun x => x.1)) (nn_PF10.map (fun x => x.1)) (nn_PS10.map (fun x => x.1)) fk_doBest 2 nn_dt94 3 4
theorem fs_doBest_0 {G : fw_K} {R : fw_KR} (hG : fw_cls st_doBest R G) {f : Int} {σ : ab_SG} (h : G 2 [some (2, 77, 0), some (0, 0, f), some (0, 0, 1)] [] σ) : G 0 [some (2, 77, 0), some (0, 0, f), none] [] σ := fw_on hG [2, 17, 26, 39, 46] 200 h
theorem fs_doBest_2 {G : fw_K} {R : fw_KR} (hG : fw_cls st_doBest R G) {a1 a2 : Int} {σ : ab_SG} (h : (fw_c 9 < fw_c a2 → sp_speakBest [(2, 77, 0), (0, 0, 0), (0, 0, 0), (0, 0, a1)] σ (fun rv σ2 => G 39 [some (2, 77, 0), some (0, 0, a1), some (0, 0, a2)] (rv.toList ++ []) σ2)) ∧ (fw_c a2 ≤ fw_c 9 → sp_speakBest [(2, 77, 0), (0, 0, 0), (0, 0, a2), (0, 0, a2 - 1)] σ (fun rv σ2 => G 17 [some (2, 77, 0), some (0, 0, a1), some (0, 0, a2)] (rv.toList ++ []) σ2))) : G 2 [some (2, 77, 0), some (0, 0, a1), some (0, 0, a2)] [] σ := fw_on hG [2, 17, 26, 39, 46] 200 h
theorem fs_doBest_39 {G : fw_K} {R : fw_KR} (hG : fw_cls st_doBest R G) {a1 a2 : Int} {σ : ab_SG} (h : sp_speakBest [(2, 77, 0), (0, 0, 1), (0, 0, 0), (0, 0, a1)] σ (fun rv σ2 => G 46 [some (2, 77, 0), some (0, 0, a1), some (0, 0, a2)] (rv.toList ++ []) σ2)) : G 39 [some (2, 77, 0), some (0, 0, a1), some (0, 0, a2)] [] σ := fw_on hG [2, 17, 26, 39, 46] 200 h
theorem fs_doBest_17 {G : fw_K} {R : fw_KR} (hG : fw_cls st_doBest R G) {a1 a2 : Int} {σ : ab_SG} (h : sp_speakBest [(2, 77, 0), (0, 0, 1), (0, 0, a2), (0, 0, a2 - 1)] σ (fun rv σ2 => G 26 [some (2, 77, 0), some (0, 0, a1), some (0, 0, a2)] (rv.toList ++ []) σ2)) : G 17 [some (2, 77, 0), some (0, 0, a1), some (0, 0, a2)] [] σ := fw_on hG [2, 17, 26, 39, 46] 200 h
theorem fs_doBest_46 {G : fw_K} {R : fw_KR} (hG : fw_cls st_doBest R G) {a1 a2 : Int} {σ : ab_SG} (h : R none σ) : G 46 [some (2, 77, 0), some (0, 0, a1), some (0, 0, a2)] [] σ := fw_on hG [2, 17, 26, 39, 46] 200 h
theorem fs_doBest_26 {G : fw_K} {R : fw_KR} (hG : fw_cls st_doBest R G) {a1 a2 : Int} {σ : ab_SG} (h : G 2 [some (2, 77, 0), some (0, 0, a1), some (0, 0, a2 + 1)] [] σ) : G 26 [some (2, 77, 0), some (0, 0, a1), some (0, 0, a2)] [] σ := fw_on hG [2, 17, 26, 39, 46] 200 h
abbrev fk_dvalue : List fw_CR := [(45, 2, false, 0, 0, sp_atj)]
abbrev st_dvalue : fw_K → fw_KR → fw_K := fw_st vwCl nn_sh nn_kd fw_kv fw_wc (nn_KI10.map (fun x => x.1)) (nn_KJ10.map (fun x => x.1)) (nn_PF10.map (fun x => x.1)) (nn_PS10.map (fun x => x.1)) fk_dvalue 1 nn_dt102 3 2
theorem fs_dvalue_0 {G : fw_K} {R : fw_KR} (hG : fw_cls st_dvalue R G) {side n : Int} {σ : ab_SG} (h : sp_atj [(2, 79, 0), (0, 0, (side * 10) + n)] σ (fun rv σ2 => G 13 [some (2, 77, 0), some (0, 0, side), some (0, 0, n)] (rv.toList ++ []) σ2)) : G 0 [some (2, 77, 0), some (0, 0, side), some (0, 0, n)] [] σ := fw_on hG [13] 200 h
theorem fs_dvalue_13 {G : fw_K} {R : fw_KR} (hG : fw_cls st_dvalue R G) {a1 a2 b0 : Int} {σ : ab_SG} (h : R (some (1, 0, b0)) σ) : G 13 [some (2, 77, 0), some (0, 0, a1), some (0, 0, a2)] [(1, 0, b0)] σ := fw_on hG [13] 200 h
abbrev fk_dmove : List fw_CR := [(61, 2, false, 0, 0, sp_at80)]
abbrev st_dmove : fw_K → fw_KR → fw_K := fw_st vwCl nn_sh nn_kd fw_kv fw_wc (nn_KI10.map (fun x => x.1)) (nn_KJ10.map (fun x => x.1)) (nn_PF10.map (fun x => x.1)) (nn_PS10.map (fun x => x.1)) fk_dmove 1 nn_dt96 3 0
theorem fs_dmove_0 {G : fw_K} {R : fw_KR} (hG : fw_cls st_dmove R G) {side n : Int} {σ : ab_SG} (h : sp_at80 [(2, 80, 0), (0, 0, (side * 10) + n)] σ (fun rv σ2 => G 13 [some (2, 77, 0), some (0, 0, side), some (0, 0, n)] (rv.toList ++ []) σ2)) : G 0 [some (2, 77, 0), some (0, 0, side), some (0, 0, n)] [] σ := fw_on hG [13] 200 h
theorem fs_dmove_13 {G : fw_K} {R : fw_KR} (hG : fw_cls st_dmove R G) {a1 a2 b0 : Int} {σ : ab_SG} (h : R (some (0, 0, b0)) σ) : G 13 [some (2, 77, 0), some (0, 0, a1), some (0, 0, a2)] [(0, 0, b0)] σ := fw_on hG [13] 200 h
abbrev fk_hear : List fw_CR := [(22, 3, true, 1, 3, sp_group), (28, 3, true, 1, 3, sp_listen), (31, 0, true, 1, 3, sp_chance), (35, 3, false, 0, 0, sp_put78)]
abbrev st_hear : fw_K → fw_KR → fw_K := fw_st vwCl nn_sh nn_kd fw_kv fw_wc (nn_KI10.map (fun x => x.1)) (nn_KJ10.map (fun x => x.1)) (nn_PF10.map (fun x => x.1)) (nn_PS10.map (fun x => x.1)) fk_hear 4 nn_dt93 7 4
theorem fs_hear_0 {G : fw_K} {R : fw_KR} (hG : fw_cls st_hear R G) {p q s : Int} {σ : ab_SG} (h : G 3 [some (2, 77, 0), some (2, 3, 0), some (2, 73, 0), some (0, 0, p), some (0, 0, q), some (0, 0, s), some (0, 0, 1)] [] σ) : G 0 [some (2, 77, 0), some (2, 3, 0), some (2, 73, 0), some (0, 0, p), some (0, 0, q), some (0, 0, s), none] [] σ := fw_on hG [3, 19, 26, 36, 39, 47, 60, 63] 200 h
theorem fs_hear_3 {G : fw_K} {R : fw_KR} (hG : fw_cls st_hear R G) {a3 a4 a5 a6 : Int} {σ : ab_SG} (h : (fw_c 9 < fw_c a6 → R none σ) ∧ (fw_c a6 ≤ fw_c 9 → sp_group [(2, 73, 0), (2, 3, 0), (0, 0, a6), (0, 0, a5)] σ (fun rv σ2 => G 19 [some (2, 77, 0), some (2, 3, 0), some (2, 73, 0), some (0, 0, a3), some (0, 0, a4), some (0, 0, a5), some (0, 0, a6)] (rv.toList ++ []) σ2))) : G 3 [some (2, 77, 0), some (2, 3, 0), some (2, 73, 0), some (0, 0, a3), some (0, 0, a4), some (0, 0, a5), some (0, 0, a6)] [] σ := fw_on hG [3, 19, 26, 36, 39, 47, 60, 63] 200 h
theorem fs_hear_19 {G : fw_K} {R : fw_KR} (hG : fw_cls st_hear R G) {a3 a4 a5 a6 : Int} {σ : ab_SG} (h : sp_listen [(2, 73, 0), (2, 3, 0), (0, 0, a3), (0, 0, 0)] σ (fun rv σ2 => G 26 [some (2, 77, 0), some (2, 3, 0), some (2, 73, 0), some (0, 0, a3), some (0, 0, a4), some (0, 0, a5), some (0, 0, a6)] (rv.toList ++ []) σ2)) : G 19 [some (2, 77, 0), some (2, 3, 0), some (2, 73, 0), some (0, 0, a3), some (0, 0, a4), some (0, 0, a5), some (0, 0, a6)] [] σ := fw_on hG [3, 19, 26, 36, 39, 47, 60, 63] 200 h
theorem fs_hear_26 {G : fw_K} {R : fw_KR} (hG : fw_cls st_hear R G) {a3 a4 a5 a6 : Int} {σ : ab_SG} (h : sp_chance [(2, 73, 0)] σ (fun rv σ2 => G 36 [some (2, 77, 0), some (2, 3, 0), some (2, 73, 0), some (0, 0, a3), some (0, 0, a4), some (0, 0, a5), some (0, 0, a6)] (rv.toList ++ [(0, 0, a6), (2, 78, 0)]) σ2)) : G 26 [some (2, 77, 0), some (2, 3, 0), some (2, 73, 0), some (0, 0, a3), some (0, 0, a4), some (0, 0, a5), some (0, 0, a6)] [] σ := fw_on hG [3, 19, 26, 36, 39, 47, 60, 63] 200 h
theorem fs_hear_36 {G : fw_K} {R : fw_KR} (hG : fw_cls st_hear R G) {a3 a4 a5 a6 b0 b1 : Int} {σ : ab_SG} (h : sp_put78 [(2, 78, 0), (0, 0, b1), (1, 0, b0)] σ (fun rv σ2 => G 39 [some (2, 77, 0), some (2, 3, 0), some (2, 73, 0), some (0, 0, a3), some (0, 0, a4), some (0, 0, a5), some (0, 0, a6)] (rv.toList ++ []) σ2)) : G 36 [some (2, 77, 0), some (2, 3, 0), some (2, 73, 0), some (0, 0, a3), some (0, 0, a4), some (0, 0, a5), some (0, 0, a6)] [(1, 0, b0), (0, 0, b1), (2, 78, 0)] σ := fw_on hG [3, 19, 26, 36, 39, 47, 60, 63] 200 h
theorem fs_hear_39 {G : fw_K} {R : fw_KR} (hG : fw_cls st_hear R G) {a3 a4 a5 a6 : Int} {σ : ab_SG} (h : sp_listen [(2, 73, 0), (2, 3, 0), (0, 0, a4), (0, 0, 0)] σ (fun rv σ2 => G 47 [some (2, 77, 0), some (2, 3, 0), some (2, 73, 0), some (0, 0, a3), some (0, 0, a4), some (0, 0, a5), some (0, 0, a6)] (rv.toList ++ []) σ2)) : G 39 [some (2, 77, 0), some (2, 3, 0), some (2, 73, 0), some (0, 0, a3), some (0, 0, a4), some (0, 0, a5), some (0, 0, a6)] [] σ := fw_on hG [3, 19, 26, 36, 39, 47, 60, 63] 200 h
theorem fs_hear_47 {G : fw_K} {R : fw_KR} (hG : fw_cls st_hear R G) {a3 a4 a5 a6 : Int} {σ : ab_SG} (h : sp_chance [(2, 73, 0)] σ (fun rv σ2 => G 60 [some (2, 77, 0), some (2, 3, 0), some (2, 73, 0), some (0, 0, a3), some (0, 0, a4), some (0, 0, a5), some (0, 0, a6)] (rv.toList ++ [(0, 0, 10 + a6), (2, 78, 0)]) σ2)) : G 47 [some (2, 77, 0), some (2, 3, 0), some (2, 73, 0), some (0, 0, a3), some (0, 0, a4), some (0, 0, a5), some (0, 0, a6)] [] σ := fw_on hG [3, 19, 26, 36, 39, 47, 60, 63] 200 h
theorem fs_hear_60 {G : fw_K} {R : fw_KR} (hG : fw_cls st_hear R G) {a3 a4 a5 a6 b0 b1 : Int} {σ : ab_SG} (h : sp_put78 [(2, 78, 0), (0, 0, b1), (1, 0, b0)] σ (fun rv σ2 => G 63 [some (2, 77, 0), some (2, 3, 0), some (2, 73, 0), some (0, 0, a3), some (0, 0, a4), some (0, 0, a5), some (0, 0, a6)] (rv.toList ++ []) σ2)) : G 60 [some (2, 77, 0), some (2, 3, 0), some (2, 73, 0), some (0, 0, a3), some (0, 0, a4), some (0, 0, a5), some (0, 0, a6)] [(1, 0, b0), (0, 0, b1), (2, 78, 0)] σ := fw_on hG [3, 19, 26, 36, 39, 47, 60, 63] 200 h
theorem fs_hear_63 {G : fw_K} {R : fw_KR} (hG : fw_cls st_hear R G) {a3 a4 a5 a6 : Int} {σ : ab_SG} (h : G 3 [some (2, 77, 0), some (2, 3, 0), some (2, 73, 0), some (0, 0, a3), some (0, 0, a4), some (0, 0, a5), some (0, 0, a6 + 1)] [] σ) : G 63 [some (2, 77, 0), some (2, 3, 0), some (2, 73, 0), some (0, 0, a3), some (0, 0, a4), some (0, 0, a5), some (0, 0, a6)] [] σ := fw_on hG [3, 19, 26, 36, 39, 47, 60, 63] 200 h
abbrev fk_canBid : List fw_CR := [(166, 1, true, 6, 0, sp_isClue3), (173, 1, true, 6, 0, sp_isPerson3), (184, 1, false, 0, 0, sp_isBid)]
abbrev st_canBid : fw_K → fw_KR → fw_K := fw_st vwCl nn_sh nn_kd fw_kv fw_wc (nn_KI1.map (fun x => x.1)) (nn_KJ1.map (fun x => x.1)) (nn_PF1.map (fun x => x.1)) (nn_PS1.map (fun x => x.1)) fk_canBid 2 nn_dt91 5 1
theorem fs_canBid_0 {G : fw_K} {R : fw_KR} (hG : fw_cls st_canBid R G) {p q n c : Int} {σ : ab_SG} (h : sp_isPerson3 [(2, 3, 0), (0, 0, p)] σ (fun rv σ2 => G 8 [some (2, 0, 0), some (0, 0, p), some (0, 0, q), some (0, 0, n), some (0, 0, c)] (rv.toList ++ []) σ2)) : G 0 [some (2, 0, 0), some (0, 0, p), some (0, 0, q), some (0, 0, n), some (0, 0, c)] [] σ := fw_on hG [8, 19, 35, 38, 47] 200 h
theorem fs_canBid_8 {G : fw_K} {R : fw_KR} (hG : fw_cls st_canBid R G) {a1 a2 a3 a4 b0 : Int} {σ : ab_SG} (h : (fw_c b0 = 0 → (0 ≤ fw_c 0 ∧ fw_c 0 ≤ 1) ∧ R (some (0, 0, 0)) σ) ∧ (fw_c b0 ≠ 0 → sp_isPerson3 [(2, 3, 0), (0, 0, a2)] σ (fun rv σ2 => G 19 [some (2, 0, 0), some (0, 0, a1), some (0, 0, a2), some (0, 0, a3), some (0, 0, a4)] (rv.toList ++ []) σ2))) : G 8 [some (2, 0, 0), some (0, 0, a1), some (0, 0, a2), some (0, 0, a3), some (0, 0, a4)] [(0, 0, b0)] σ := fw_on hG [8, 19, 35, 38, 47] 200 h
theorem fs_canBid_19 {G : fw_K} {R : fw_KR} (hG : fw_cls st_canBid R G) {a1 a2 a3 a4 b0 : Int} {σ : ab_SG} (h : (fw_c b0 = 0 → (0 ≤ fw_c 0 ∧ fw_c 0 ≤ 1) ∧ R (some (0, 0, 0)) σ) ∧ (fw_c b0 ≠ 0 → (fw_c a1 = fw_c a2 → (0 ≤ fw_c 0 ∧ fw_c 0 ≤ 1) ∧ R (some (0, 0, 0)) σ) ∧ (fw_c a1 ≠ fw_c a2 → (fw_c a3 = 0 → G 38 [some (2, 0, 0), some (0, 0, a1), some (0, 0, a2), some (0, 0, a3), some (0, 0, a4)] [] σ) ∧ (fw_c a3 ≠ 0 → sp_isBid [(0, 0, a3)] σ (fun rv σ2 => G 35 [some (2, 0, 0), some (0, 0, a1), some (0, 0, a2), some (0, 0, a3), some (0, 0, a4)] (rv.toList ++ []) σ2))))) : G 19 [some (2, 0, 0), some (0, 0, a1), some (0, 0, a2), some (0, 0, a3), some (0, 0, a4)] [(0, 0, b0)] σ := fw_on hG [8, 19, 35, 38, 47] 200 h
theorem fs_canBid_38 {G : fw_K} {R : fw_KR} (hG : fw_cls st_canBid R G) {a1 a2 a3 a4 : Int} {σ : ab_SG} (h : sp_isClue3 [(2, 3, 0), (0, 0, a4)] σ (fun rv σ2 => G 47 [some (2, 0, 0), some (0, 0, a1), some (0, 0, a2), some (0, 0, a3), some (0, 0, a4)] (rv.toList ++ []) σ2)) : G 38 [some (2, 0, 0), some (0, 0, a1), some (0, 0, a2), some (0, 0, a3), some (0, 0, a4)] [] σ := fw_on hG [8, 19, 35, 38, 47] 200 h
theorem fs_canBid_35 {G : fw_K} {R : fw_KR} (hG : fw_cls st_canBid R G) {a1 a2 a3 a4 b0 : Int} {σ : ab_SG} (h : (fw_c b0 = 0 → (0 ≤ fw_c 0 ∧ fw_c 0 ≤ 1) ∧ R (some (0, 0, 0)) σ) ∧ (fw_c b0 ≠ 0 → G 38 [some (2, 0, 0), some (0, 0, a1), some (0, 0, a2), some (0, 0, a3), some (0, 0, a4)] [] σ)) : G 35 [some (2, 0, 0), some (0, 0, a1), some (0, 0, a2), some (0, 0, a3), some (0, 0, a4)] [(0, 0, b0)] σ := fw_on hG [8, 19, 35, 38, 47] 200 h
theorem fs_canBid_47 {G : fw_K} {R : fw_KR} (hG : fw_cls st_canBid R G) {a1 a2 a3 a4 b0 : Int} {σ : ab_SG} (h : (fw_c b0 = 0 → (0 ≤ fw_c 0 ∧ fw_c 0 ≤ 1) ∧ R (some (0, 0, 0)) σ) ∧ (fw_c b0 ≠ 0 → (0 ≤ fw_c 1 ∧ fw_c 1 ≤ 1) ∧ R (some (0, 0, 1)) σ)) : G 47 [some (2, 0, 0), some (0, 0, a1), some (0, 0, a2), some (0, 0, a3), some (0, 0, a4)] [(0, 0, b0)] σ := fw_on hG [8, 19, 35, 38, 47] 200 h
abbrev fk_weigh : List fw_CR := [(169, 1, true, 6, 1, sp_setOf3), (463, 5, true, 0, 4, sp_hear), (467, 1, true, 0, 2, sp_doBest)]
abbrev st_weigh : fw_K → fw_KR → fw_K := fw_st vwCl nn_sh nn_kd fw_kv fw_wc (nn_KI1.map (fun x => x.1)) (nn_KJ1.map (fun x => x.1)) (nn_PF1.map (fun x => x.1)) (nn_PS1.map (fun x => x.1)) fk_weigh 5 nn_dt92 4 4
theorem fs_weigh_0 {G : fw_K} {R : fw_KR} (hG : fw_cls st_weigh R G) {p q c : Int} {σ : ab_SG} (h : sp_setOf3 [(2, 3, 0), (0, 0, c)] σ (fun rv σ2 => G 22 [some (2, 0, 0), some (0, 0, p), some (0, 0, q), some (0, 0, c)] (rv.toList ++ [(0, 0, q), (0, 0, p), (2, 73, 0), (2, 3, 0), (2, 77, 0)]) σ2)) : G 0 [some (2, 0, 0), some (0, 0, p), some (0, 0, q), some (0, 0, c)] [] σ := fw_on hG [22, 25, 39] 200 h
theorem fs_weigh_22 {G : fw_K} {R : fw_KR} (hG : fw_cls st_weigh R G) {a1 a2 a3 b0 b1 b2 : Int} {σ : ab_SG} (h : sp_hear [(2, 77, 0), (2, 3, 0), (2, 73, 0), (0, 0, b2), (0, 0, b1), (0, 0, b0)] σ (fun rv σ2 => G 25 [some (2, 0, 0), some (0, 0, a1), some (0, 0, a2), some (0, 0, a3)] (rv.toList ++ []) σ2)) : G 22 [some (2, 0, 0), some (0, 0, a1), some (0, 0, a2), some (0, 0, a3)] [(0, 0, b0), (0, 0, b1), (0, 0, b2), (2, 73, 0), (2, 3, 0), (2, 77, 0)] σ := fw_on hG [22, 25, 39] 200 h
theorem fs_weigh_25 {G : fw_K} {R : fw_KR} (hG : fw_cls st_weigh R G) {a1 a2 a3 : Int} {σ : ab_SG} (h : sp_doBest [(2, 77, 0), (0, 0, σ 3 14)] σ (fun rv σ2 => G 39 [some (2, 0, 0), some (0, 0, a1), some (0, 0, a2), some (0, 0, a3)] (rv.toList ++ []) σ2)) : G 25 [some (2, 0, 0), some (0, 0, a1), some (0, 0, a2), some (0, 0, a3)] [] σ := fw_on hG [22, 25, 39] 200 h
theorem fs_weigh_39 {G : fw_K} {R : fw_KR} (hG : fw_cls st_weigh R G) {a1 a2 a3 : Int} {σ : ab_SG} (h : R none σ) : G 39 [some (2, 0, 0), some (0, 0, a1), some (0, 0, a2), some (0, 0, a3)] [] σ := fw_on hG [22, 25, 39] 200 h
abbrev fk_lastBid : List fw_CR := [(64, 2, true, 0, 1, sp_dmove)]
abbrev st_lastBid : fw_K → fw_KR → fw_K := fw_st vwCl nn_sh nn_kd fw_kv fw_wc (nn_KI10.map (fun x => x.1)) (nn_KJ10.map (fun x => x.1)) (nn_PF10.map (fun x => x.1)) (nn_PS10.map (fun x => x.1)) fk_lastBid 2 nn_dt104 5 0
theorem fs_lastBid_0 {G : fw_K} {R : fw_KR} (hG : fw_cls st_lastBid R G) {σ : ab_SG} (h : sp_dmove [(2, 77, 0), (0, 0, 0), (0, 0, 0)] σ (fun rv σ2 => G 10 [some (2, 77, 0), some (0, 0, 0), some (0, 0, 0), none, none] (rv.toList ++ []) σ2)) : G 0 [some (2, 77, 0), none, none, none, none] [] σ := fw_on hG [10, 14, 37] 200 h
theorem fs_lastBid_10 {G : fw_K} {R : fw_KR} (hG : fw_cls st_lastBid R G) {a1 a2 b0 : Int} {σ : ab_SG} (h : G 14 [some (2, 77, 0), some (0, 0, a1), some (0, 0, a2), some (0, 0, b0), some (0, 0, 0)] [] σ) : G 10 [some (2, 77, 0), some (0, 0, a1), some (0, 0, a2), none, none] [(0, 0, b0)] σ := fw_on hG [10, 14, 37] 200 h
theorem fs_lastBid_14 {G : fw_K} {R : fw_KR} (hG : fw_cls st_lastBid R G) {a1 a2 a3 a4 : Int} {σ : ab_SG} (h : (fw_c 9 ≤ fw_c a4 → R (some (0, 0, a2)) σ) ∧ (fw_c a4 < fw_c 9 → (fw_c a3 ≤ 0 → R (some (0, 0, a2)) σ) ∧ (0 < fw_c a3 → sp_dmove [(2, 77, 0), (0, 0, 1 - a1), (0, 0, a3)] σ (fun rv σ2 => G 37 [some (2, 77, 0), some (0, 0, 1 - a1), some (0, 0, a3), some (0, 0, a3), some (0, 0, a4)] (rv.toList ++ []) σ2)))) : G 14 [some (2, 77, 0), some (0, 0, a1), some (0, 0, a2), some (0, 0, a3), some (0, 0, a4)] [] σ := fw_on hG [10, 14, 37] 200 h
theorem fs_lastBid_37 {G : fw_K} {R : fw_KR} (hG : fw_cls st_lastBid R G) {a1 a2 a3 a4 b0 : Int} {σ : ab_SG} (h : G 14 [some (2, 77, 0), some (0, 0, a1), some (0, 0, a2), some (0, 0, b0), some (0, 0, a4 + 1)] [] σ) : G 37 [some (2, 77, 0), some (0, 0, a1), some (0, 0, a2), some (0, 0, a3), some (0, 0, a4)] [(0, 0, b0)] σ := fw_on hG [10, 14, 37] 200 h
abbrev fk_best : List fw_CR := [(239, 4, true, 10, 2, sp_canBid), (242, 3, true, 10, 5, sp_weigh), (246, 2, true, 0, 1, sp_dmove)]
abbrev st_best : fw_K → fw_KR → fw_K := fw_st vwCl nn_sh nn_kd fw_kv fw_wc (nn_KI1.map (fun x => x.1)) (nn_KJ1.map (fun x => x.1)) (nn_PF1.map (fun x => x.1)) (nn_PS1.map (fun x => x.1)) fk_best 6 nn_dt90 5 0
theorem fs_best_0 {G : fw_K} {R : fw_KR} (hG : fw_cls st_best R G) {p q n c : Int} {σ : ab_SG} (h : sp_canBid [(2, 0, 0), (0, 0, p), (0, 0, q), (0, 0, n), (0, 0, c)] σ (fun rv σ2 => G 9 [some (2, 0, 0), some (0, 0, p), some (0, 0, q), some (0, 0, n), some (0, 0, c)] (rv.toList ++ []) σ2)) : G 0 [some (2, 0, 0), some (0, 0, p), some (0, 0, q), some (0, 0, n), some (0, 0, c)] [] σ := fw_on hG [9, 22, 31] 200 h
theorem fs_best_9 {G : fw_K} {R : fw_KR} (hG : fw_cls st_best R G) {a1 a2 a3 a4 b0 : Int} {σ : ab_SG} (h : (fw_c b0 ≠ 0 → sp_weigh [(2, 0, 0), (0, 0, a1), (0, 0, a2), (0, 0, a4)] σ (fun rv σ2 => G 22 [some (2, 0, 0), some (0, 0, a1), some (0, 0, a2), some (0, 0, a3), some (0, 0, a4)] (rv.toList ++ []) σ2)) ∧ (fw_c b0 = 0 → R (some (0, 0, (-1))) σ)) : G 9 [some (2, 0, 0), some (0, 0, a1), some (0, 0, a2), some (0, 0, a3), some (0, 0, a4)] [(0, 0, b0)] σ := fw_on hG [9, 22, 31] 200 h
theorem fs_best_22 {G : fw_K} {R : fw_KR} (hG : fw_cls st_best R G) {a1 a2 a3 a4 : Int} {σ : ab_SG} (h : sp_dmove [(2, 77, 0), (0, 0, 0), (0, 0, a3)] σ (fun rv σ2 => G 31 [some (2, 0, 0), some (0, 0, a1), some (0, 0, a2), some (0, 0, a3), some (0, 0, a4)] (rv.toList ++ []) σ2)) : G 22 [some (2, 0, 0), some (0, 0, a1), some (0, 0, a2), some (0, 0, a3), some (0, 0, a4)] [] σ := fw_on hG [9, 22, 31] 200 h
theorem fs_best_31 {G : fw_K} {R : fw_KR} (hG : fw_cls st_best R G) {a1 a2 a3 a4 b0 : Int} {σ : ab_SG} (h : R (some (0, 0, b0)) σ) : G 31 [some (2, 0, 0), some (0, 0, a1), some (0, 0, a2), some (0, 0, a3), some (0, 0, a4)] [(0, 0, b0)] σ := fw_on hG [9, 22, 31] 200 h
abbrev fk_fair : List fw_CR := [(239, 4, true, 10, 2, sp_canBid), (242, 3, true, 10, 5, sp_weigh), (249, 2, true, 0, 1, sp_dvalue)]
abbrev st_fair : fw_K → fw_KR → fw_K := fw_st vwCl nn_sh nn_kd fw_kv fw_wc (nn_KI1.map (fun x => x.1)) (nn_KJ1.map (fun x => x.1)) (nn_PF1.map (fun x => x.1)) (nn_PS1.map (fun x => x.1)) fk_fair 6 nn_dt101 8 0
theorem fs_fair_0 {G : fw_K} {R : fw_KR} (hG : fw_cls st_fair R G) {p q c : Int} {σ : ab_SG} (h : sp_canBid [(2, 0, 0), (0, 0, p), (0, 0, q), (0, 0, 0), (0, 0, c)] σ (fun rv σ2 => G 8 [some (2, 0, 0), some (0, 0, p), some (0, 0, q), some (0, 0, c), none, none, none, none] (rv.toList ++ []) σ2)) : G 0 [some (2, 0, 0), some (0, 0, p), some (0, 0, q), some (0, 0, c), none, none, none, none] [] σ := fw_on hG [8, 20, 32, 50, 74] 200 h
theorem fs_fair_8 {G : fw_K} {R : fw_KR} (hG : fw_cls st_fair R G) {a1 a2 a3 b0 : Int} {σ : ab_SG} (h : (fw_c b0 ≠ 0 → sp_weigh [(2, 0, 0), (0, 0, a1), (0, 0, a2), (0, 0, a3)] σ (fun rv σ2 => G 20 [some (2, 0, 0), some (0, 0, a1), some (0, 0, a2), some (0, 0, a3), none, none, none, none] (rv.toList ++ []) σ2)) ∧ (fw_c b0 = 0 → R (some (0, 0, (-1))) σ)) : G 8 [some (2, 0, 0), some (0, 0, a1), some (0, 0, a2), some (0, 0, a3), none, none, none, none] [(0, 0, b0)] σ := fw_on hG [8, 20, 32, 50, 74] 200 h
theorem fs_fair_20 {G : fw_K} {R : fw_KR} (hG : fw_cls st_fair R G) {a1 a2 a3 : Int} {σ : ab_SG} (h : sp_dvalue [(2, 77, 0), (0, 0, 0), (0, 0, 0)] σ (fun rv σ2 => G 32 [some (2, 0, 0), some (0, 0, a1), some (0, 0, a2), some (0, 0, a3), none, none, none, none] (rv.toList ++ [(1, 0, 2)]) σ2)) : G 20 [some (2, 0, 0), some (0, 0, a1), some (0, 0, a2), some (0, 0, a3), none, none, none, none] [] σ := fw_on hG [8, 20, 32, 50, 74] 200 h
theorem fs_fair_32 {G : fw_K} {R : fw_KR} (hG : fw_cls st_fair R G) {a1 a2 a3 b0 b1 : Int} {σ : ab_SG} (h : sp_dvalue [(2, 77, 0), (0, 0, 1), (0, 0, 0)] σ (fun rv σ2 => G 50 [some (2, 0, 0), some (0, 0, a1), some (0, 0, a2), some (0, 0, a3), some (1, 0, b1 * b0), none, none, none] (rv.toList ++ [(1, 0, 976299632280), (1, 0, 2)]) σ2)) : G 32 [some (2, 0, 0), some (0, 0, a1), some (0, 0, a2), some (0, 0, a3), none, none, none, none] [(1, 0, b0), (1, 0, b1)] σ := fw_on hG [8, 20, 32, 50, 74] 200 h
theorem fs_fair_50 {G : fw_K} {R : fw_KR} (hG : fw_cls st_fair R G) {a1 a2 a3 a4 b0 b1 b2 : Int} {σ : ab_SG} (h : (fw_d a4 ≤ fw_d 976299632280 → G 74 [some (2, 0, 0), some (0, 0, a1), some (0, 0, a2), some (0, 0, a3), some (1, 0, a4), none, some (1, 0, b2 * (b1 - b0)), none] [] σ) ∧ (fw_d 976299632280 < fw_d a4 → (fw_d (b2 * (b1 - b0)) ≤ fw_d 976299632280 → G 74 [some (2, 0, 0), some (0, 0, a1), some (0, 0, a2), some (0, 0, a3), some (1, 0, a4), none, some (1, 0, b2 * (b1 - b0)), none] [] σ) ∧ (fw_d 976299632280 < fw_d (b2 * (b1 - b0)) → R (some (0, 0, 1)) σ))) : G 50 [some (2, 0, 0), some (0, 0, a1), some (0, 0, a2), some (0, 0, a3), some (1, 0, a4), none, none, none] [(1, 0, b0), (1, 0, b1), (1, 0, b2)] σ := fw_on hG [8, 20, 32, 50, 74] 200 h
theorem fs_fair_74 {G : fw_K} {R : fw_KR} (hG : fw_cls st_fair R G) {a1 a2 a3 a4 a6 : Int} {σ : ab_SG} (h : (fw_d 976299632280 ≤ fw_d a4 → R (some (0, 0, 0)) σ) ∧ (fw_d a4 < fw_d 976299632280 → (fw_d 976299632280 ≤ fw_d a6 → R (some (0, 0, 0)) σ) ∧ (fw_d a6 < fw_d 976299632280 → R (some (0, 0, (-1))) σ))) : G 74 [some (2, 0, 0), some (0, 0, a1), some (0, 0, a2), some (0, 0, a3), some (1, 0, a4), none, some (1, 0, a6), none] [] σ := fw_on hG [8, 20, 32, 50, 74] 200 h
abbrev fk_low : List fw_CR := [(239, 4, true, 10, 2, sp_canBid), (242, 3, true, 10, 5, sp_weigh), (266, 0, true, 0, 2, sp_lastBid)]
abbrev st_low : fw_K → fw_KR → fw_K := fw_st vwCl nn_sh nn_kd fw_kv fw_wc (nn_KI1.map (fun x => x.1)) (nn_KJ1.map (fun x => x.1)) (nn_PF1.map (fun x => x.1)) (nn_PS1.map (fun x => x.1)) fk_low 6 nn_dt103 4 0
theorem fs_low_0 {G : fw_K} {R : fw_KR} (hG : fw_cls st_low R G) {p q c : Int} {σ : ab_SG} (h : sp_canBid [(2, 0, 0), (0, 0, p), (0, 0, q), (0, 0, 0), (0, 0, c)] σ (fun rv σ2 => G 8 [some (2, 0, 0), some (0, 0, p), some (0, 0, q), some (0, 0, c)] (rv.toList ++ []) σ2)) : G 0 [some (2, 0, 0), some (0, 0, p), some (0, 0, q), some (0, 0, c)] [] σ := fw_on hG [8, 20, 27] 200 h
theorem fs_low_8 {G : fw_K} {R : fw_KR} (hG : fw_cls st_low R G) {a1 a2 a3 b0 : Int} {σ : ab_SG} (h : (fw_c b0 ≠ 0 → sp_weigh [(2, 0, 0), (0, 0, a1), (0, 0, a2), (0, 0, a3)] σ (fun rv σ2 => G 20 [some (2, 0, 0), some (0, 0, a1), some (0, 0, a2), some (0, 0, a3)] (rv.toList ++ []) σ2)) ∧ (fw_c b0 = 0 → R (some (0, 0, (-1))) σ)) : G 8 [some (2, 0, 0), some (0, 0, a1), some (0, 0, a2), some (0, 0, a3)] [(0, 0, b0)] σ := fw_on hG [8, 20, 27] 200 h
theorem fs_low_20 {G : fw_K} {R : fw_KR} (hG : fw_cls st_low R G) {a1 a2 a3 : Int} {σ : ab_SG} (h : sp_lastBid [(2, 77, 0)] σ (fun rv σ2 => G 27 [some (2, 0, 0), some (0, 0, a1), some (0, 0, a2), some (0, 0, a3)] (rv.toList ++ []) σ2)) : G 20 [some (2, 0, 0), some (0, 0, a1), some (0, 0, a2), some (0, 0, a3)] [] σ := fw_on hG [8, 20, 27] 200 h
theorem fs_low_27 {G : fw_K} {R : fw_KR} (hG : fw_cls st_low R G) {a1 a2 a3 b0 : Int} {σ : ab_SG} (h : R (some (0, 0, b0)) σ) : G 27 [some (2, 0, 0), some (0, 0, a1), some (0, 0, a2), some (0, 0, a3)] [(0, 0, b0)] σ := fw_on hG [8, 20, 27] 200 h

section
variable {l : Launch} {cy : Nat → ClassId} {ad wr cr : Nat → Nat} {D : va_G}
theorem fm_at78 (hinj : nn_inj ad) : fw_H l cy ad wr cr D 87 0 (atl_k 78 20) := fw_mk hinj (⟨"NameNotes", "at", "([JI)J"⟩, prog_1_method_85_code, 2, (Option.some Jvm.ClassFile.FieldType.long), 2, false, 2) rfl rfl nn_KI1_ok nn_KJ1_ok nn_PF1_ok nn_PS1_ok (by decide +kernel) rfl rfl (fun _ h => absurd h List.not_mem_nil) (fun as σ K h => by
  obtain ⟨x, rfl, h1, h2⟩ := h
  exact ⟨rfl, fun G hG => atl_gen (k := 78) (n := 20) (K := K) (σ := σ) (x := x) (by decide) (fs_at78_0 hG) h1 h2⟩)
theorem fm_at79 (hinj : nn_inj ad) : fw_H l cy ad wr cr D 87 0 (atl_k 79 20) := fw_mk hinj (⟨"NameNotes", "at", "([JI)J"⟩, prog_1_method_85_code, 2, (Option.some Jvm.ClassFile.FieldType.long), 2, false, 2) rfl rfl nn_KI1_ok nn_KJ1_ok nn_PF1_ok nn_PS1_ok (by decide +kernel) rfl rfl (fun _ h => absurd h List.not_mem_nil) (fun as σ K h => by
  obtain ⟨x, rfl, h1, h2⟩ := h
  exact ⟨rfl, fun G hG => atl_gen (k := 79) (n := 20) (K := K) (σ := σ) (x := x) (by decide) (fs_at79_0 hG) h1 h2⟩)
theorem fm_at76 (hinj : nn_inj ad) : fw_H l cy ad wr cr D 87 0 (atl_k 76 9) := fw_mk hinj (⟨"NameNotes", "at", "([JI)J"⟩, prog_1_method_85_code, 2, (Option.some Jvm.ClassFile.FieldType.long), 2, false, 2) rfl rfl nn_KI1_ok nn_KJ1_ok nn_PF1_ok nn_PS1_ok (by decide +kernel) rfl rfl (fun _ h => absurd h List.not_mem_nil) (fun as σ K h => by
  obtain ⟨x, rfl, h1, h2⟩ := h
  exact ⟨rfl, fun G hG => atl_gen (k := 76) (n := 9) (K := K) (σ := σ) (x := x) (by decide) (fs_at76_0 hG) h1 h2⟩)
theorem fm_atj (hinj : nn_inj ad) : fw_H l cy ad wr cr D 87 0 sp_atj := fw_H_of (List.forall_mem_cons.mpr ⟨fm_at78 hinj, List.forall_mem_cons.mpr ⟨fm_at79 hinj, List.forall_mem_cons.mpr ⟨fm_at76 hinj, (fun _ h => absurd h List.not_mem_nil)⟩⟩⟩)
theorem fm_put78 (hinj : nn_inj ad) : fw_H l cy ad wr cr D 26 0 (putl_k 78 20) := fw_mk hinj (⟨"NameNotes", "put", "([JIJ)V"⟩, prog_1_method_87_code, 4, (Option.none : Option Jvm.ClassFile.FieldType), 3, false, 4) rfl rfl nn_KI1_ok nn_KJ1_ok nn_PF1_ok nn_PS1_ok (by decide +kernel) rfl rfl (fun _ h => absurd h List.not_mem_nil) (fun as σ K h => by
  obtain ⟨x, v, rfl, h1, h2⟩ := h
  exact ⟨rfl, fun G hG => put_gen (k := 78) (n := 20) (K := K) (σ := σ) (x := x) (c := fw_d v) (by decide) (fs_put78_0 hG) h1 h2⟩)
theorem fm_put79 (hinj : nn_inj ad) : fw_H l cy ad wr cr D 26 0 (putl_k 79 20) := fw_mk hinj (⟨"NameNotes", "put", "([JIJ)V"⟩, prog_1_method_87_code, 4, (Option.none : Option Jvm.ClassFile.FieldType), 3, false, 4) rfl rfl nn_KI1_ok nn_KJ1_ok nn_PF1_ok nn_PS1_ok (by decide +kernel) rfl rfl (fun _ h => absurd h List.not_mem_nil) (fun as σ K h => by
  obtain ⟨x, v, rfl, h1, h2⟩ := h
  exact ⟨rfl, fun G hG => put_gen (k := 79) (n := 20) (K := K) (σ := σ) (x := x) (c := fw_d v) (by decide) (fs_put79_0 hG) h1 h2⟩)
theorem fm_put80 (hinj : nn_inj ad) : fw_H l cy ad wr cr D 27 0 (put_k 80 20) := fw_mk hinj (⟨"NameNotes", "put", "([III)V"⟩, prog_1_method_86_code, 3, (Option.none : Option Jvm.ClassFile.FieldType), 3, false, 4) rfl rfl nn_KI1_ok nn_KJ1_ok nn_PF1_ok nn_PS1_ok (by decide +kernel) rfl rfl (fun _ h => absurd h List.not_mem_nil) (fun as σ K h => by
  obtain ⟨x, v, rfl, h1, h2⟩ := h
  exact ⟨rfl, fun G hG => put_gen (k := 80) (n := 20) (K := K) (σ := σ) (x := x) (c := fw_c v) (by decide) (fs_put80_0 hG) h1 h2⟩)
theorem fm_at80 (hinj : nn_inj ad) : fw_H l cy ad wr cr D 29 0 (at_k 80 20) := fw_mk hinj (⟨"NameNotes", "at", "([II)I"⟩, prog_1_method_84_code, 2, (Option.some Jvm.ClassFile.FieldType.int), 2, false, 0) rfl rfl nn_KI1_ok nn_KJ1_ok nn_PF1_ok nn_PS1_ok (by decide +kernel) rfl rfl (fun _ h => absurd h List.not_mem_nil) (fun as σ K h => by
  obtain ⟨x, rfl, h1, h2⟩ := h
  exact ⟨rfl, fun G hG => at_gen (k := 80) (n := 20) (K := K) (σ := σ) (x := x) (by decide) (fs_at80_0 hG) h1 h2⟩)
theorem fm_speakBest (hinj : nn_inj ad) : fw_H l cy ad wr cr D 95 1 sp_speakBest := fw_mk hinj (⟨"NameNotes$Duel", "speakBest", "(III)V"⟩, prog_2_method_4_code, 11, (Option.none : Option Jvm.ClassFile.FieldType), 3, true, 4) rfl rfl nn_KI10_ok nn_KJ10_ok nn_PF10_ok nn_PS10_ok (by decide +kernel) rfl rfl (List.forall_mem_cons.mpr ⟨fw_row nn_PM10_ok (x := 35) (k := 2) (mn := 26) (np := 3) (ob := false) (ci := 0) (⟨"NameNotes", "put", "([JIJ)V"⟩, prog_1_method_87_code, 4, (Option.none : Option Jvm.ClassFile.FieldType), 3, false, 4) rfl (by decide +kernel) rfl rfl (by decide) (fun q => by cases q) (fm_put79 hinj), (List.forall_mem_cons.mpr ⟨fw_row nn_PM10_ok (x := 45) (k := 2) (mn := 87) (np := 2) (ob := false) (ci := 0) (⟨"NameNotes", "at", "([JI)J"⟩, prog_1_method_85_code, 2, (Option.some Jvm.ClassFile.FieldType.long), 2, false, 2) rfl (by decide +kernel) rfl rfl (by decide) (fun q => by cases q) (fm_atj hinj), (List.forall_mem_cons.mpr ⟨fw_row nn_PM10_ok (x := 51) (k := 2) (mn := 27) (np := 3) (ob := false) (ci := 0) (⟨"NameNotes", "put", "([III)V"⟩, prog_1_method_86_code, 3, (Option.none : Option Jvm.ClassFile.FieldType), 3, false, 4) rfl (by decide +kernel) rfl rfl (by decide) (fun q => by cases q) (fm_put80 hinj), (fun _ h => absurd h List.not_mem_nil)⟩)⟩)⟩) (fun as σ K h => by
  obtain ⟨side, n, m, a, b, c, rfl, ⟨rfl, rfl, rfl⟩, ⟨hs, hn, hm⟩, hC, hV, h⟩ := h
  unfold du_u dl_r dl_st at h
  obtain ⟨i, ei⟩ : ∃ i : Nat, i = 10 * side + n := ⟨_, rfl⟩
  obtain ⟨o, eo⟩ : ∃ o : Nat, o = 10 - 10 * side := ⟨_, rfl⟩
  rw [← ei, ← eo] at h
  rw [← eo] at hC hV
  obtain ⟨V, eV⟩ : ∃ V : Nat → Int, V = fun b => σ 79 (o + b) := ⟨_, rfl⟩
  have hVb : ∀ b : Nat, σ 79 (o + b) = V b := fun b => by rw [eV]
  rw [← eV] at h
  generalize hR : dl_s 976299632280 V m (if n = 0 then -1 else 976299632280 - σ 78 (o + n), 0) = R at h
  have ci : fw_c ((side : Int) * 10 + (n : Int)) = (i : Int) := by
    rw [show (side : Int) * 10 + (n : Int) = (i : Int) by omega]
    exact fw_s (by omega) (by omega)
  have cj : ∀ b : Nat, b < 10 → fw_c ((1 - (side : Int)) * 10 + (b : Int)) = ((o + b : Nat) : Int) := fun b hb => by
    rw [show (1 - (side : Int)) * 10 + (b : Int) = ((o + b : Nat) : Int) by omega]
    exact fw_s (by omega) (by omega)
  refine ⟨rfl, fun G hG => ?_⟩
  have loop : ∀ (f b : Nat) (v mv : Int) (o3 o6 o9 o10 : Option ab_AV), b = f → b ≤ m → (-1 ≤ v ∧ v ≤ 976299632280) → (0 ≤ mv ∧ mv ≤ 9) → dl_s 976299632280 V b (v, mv) = R → G 41 [some (2, 77, 0), some (0, 0, (side : Int)), some (0, 0, (n : Int)), o3, some (0, 0, (1 - (side : Int)) * 10), some (1, 0, v), o6, some (0, 0, mv), some (0, 0, (b : Int)), o9, o10] [] σ := by
    intro f
    induction f with
    | zero =>
      intro b v mv o3 o6 o9 o10 hb hbm hv hmv e
      have cb : fw_c (b : Int) = (b : Int) := oz_c9 b (by omega)
      have e2 : (v, mv) = R := by rw [← e, hb]; rfl
      refine fs_speakBest_41 hG ?_
      rw [cb]
      refine ⟨fun _ => ⟨_, _, rfl, fun _ => ?_, fun z => absurd (by rw [ci]; omega) z⟩, fun z => absurd z (by omega)⟩
      rw [ci, Int.toNat_natCast, fw_d_id (x := v) (by omega) (by omega)]
      refine fs_speakBest_101 hG ⟨_, _, rfl, fun _ => ?_, fun z => absurd (by rw [ci]; omega) z⟩
      rw [ci, Int.toNat_natCast, fw_s (x := mv) (by omega) (by omega)]
      refine fs_speakBest_116 hG ?_
      rw [← e2] at h
      exact h
    | succ f ih =>
      intro b v mv o3 o6 o9 o10 hb hbm hv hmv e
      subst hb
      have cb : fw_c ((f + 1 : Nat) : Int) = ((f + 1 : Nat) : Int) := oz_c9 (f + 1) (by omega)
      have vb := hV (f + 1) (by omega) hbm
      rw [hVb (f + 1)] at vb
      refine fs_speakBest_41 hG ?_
      rw [cb]
      refine ⟨fun z => absurd z (by omega), fun _ => ⟨(79, 20), by decide, _, rfl, fun _ => ?_, fun z => absurd (by rw [cj (f + 1) (by omega)]; show _ ∧ _ < (20 : Int); omega) z⟩⟩
      rw [cj (f + 1) (by omega), Int.toNat_natCast]
      refine fs_speakBest_61 hG ?_
      rw [hVb (f + 1), fw_d_id (x := 976299632280 - V (f + 1)) (by omega) (by omega), fw_d_id (x := v) (by omega) (by omega)]
      rw [dl_ss] at e
      refine ⟨fun z => fs_speakBest_80 hG ?_, fun z => fs_speakBest_80 hG ?_⟩
      · rw [if_neg (by omega)] at e
        have g := ih f v mv o3 o6 (some (1, 0, 976299632280 - V (f + 1))) none rfl (by omega) hv hmv e
        rw [show ((f : Nat) : Int) = ((f + 1 : Nat) : Int) + (-1) by omega] at g
        exact g
      · rw [if_pos z] at e
        have g := ih f (976299632280 - V (f + 1)) ((f + 1 : Nat) : Int) o3 none (some (1, 0, 976299632280 - V (f + 1))) none rfl (by omega) (by omega) (by omega) e
        rw [show ((f : Nat) : Int) = ((f + 1 : Nat) : Int) + (-1) by omega] at g
        exact g
  refine fs_speakBest_0 hG ?_
  rw [oz_c9 n hn]
  refine ⟨fun z => fs_speakBest_33 hG ?_, fun z => ⟨(78, 20), by decide, _, rfl, fun _ => ?_, fun y => absurd (by rw [cj n hn]; show _ ∧ _ < (20 : Int); omega) y⟩⟩
  · rw [if_pos (show n = 0 by omega)] at hR
    exact loop m m (-1) 0 _ _ _ _ rfl (Nat.le_refl m) (by decide) (by decide) hR
  · rw [cj n hn, Int.toNat_natCast]
    rw [if_neg (show ¬ n = 0 by omega)] at hR
    have b := hC (by omega)
    exact fs_speakBest_26 hG (fs_speakBest_33 hG (loop m m (976299632280 - σ 78 (o + n)) 0 _ _ _ _ rfl (Nat.le_refl m) (by omega) (by decide) hR)))
theorem fm_doBest (hinj : nn_inj ad) : fw_H l cy ad wr cr D 94 2 sp_doBest := fw_mk hinj (⟨"NameNotes$Duel", "doBest", "(I)V"⟩, prog_2_method_3_code, 3, (Option.none : Option Jvm.ClassFile.FieldType), 1, true, 4) rfl rfl nn_KI10_ok nn_KJ10_ok nn_PF10_ok nn_PS10_ok (by decide +kernel) rfl rfl (List.forall_mem_cons.mpr ⟨fw_row nn_PM10_ok (x := 39) (k := 0) (mn := 95) (np := 3) (ob := true) (ci := 0) (⟨"NameNotes$Duel", "speakBest", "(III)V"⟩, prog_2_method_4_code, 11, (Option.none : Option Jvm.ClassFile.FieldType), 3, true, 4) rfl (by decide +kernel) rfl rfl (by decide) (fun _ => ⟨_, _, rfl⟩) (fm_speakBest hinj), (fun _ h => absurd h List.not_mem_nil)⟩) (fun as σ K h => by
  obtain ⟨f, rfl, hf, hC, h⟩ := h
  have c9 : fw_c 9 = 9 := fw_s (by decide) (by decide)
  refine ⟨rfl, fun G hG => fs_doBest_0 hG ?_⟩
  have rd : ∀ {S : Nat → Prop} {τ : ab_SG} {st : (Nat → Int) × (Nat → Int)} {side m : Nat}, du_A S τ st → dl_B st → (∀ b : Nat, 1 ≤ b → b ≤ m → S (10 - 10 * side + b)) → ∀ b : Nat, 1 ≤ b → b ≤ m → 0 ≤ τ 79 (10 - 10 * side + b) ∧ τ 79 (10 - 10 * side + b) ≤ 976299632280 := by
    intro S τ st side m hA hB hS b h1 h2
    rw [(hA _ (hS b h1 h2)).1]
    exact (hB _).1
  have loop : ∀ (g k : Nat) (τ : ab_SG), k + g = 9 → ab_okM du_B σ τ → du_A (fun i => i < 20 ∧ 1 ≤ i % 10 ∧ i % 10 ≤ k) τ (dl_n (σ 78) f k) → G 2 [some (2, 77, 0), some (0, 0, (f : Int)), some (0, 0, ((k + 1 : Nat) : Int))] [] τ := by
    intro g
    induction g with
    | zero =>
      intro k τ hk M I
      have ek : k = 9 := by omega
      subst ek
      have B := dl_nb hC hf 9
      have e78 := du_B78 M
      have S0 : ∀ b : Nat, 1 ≤ b → b ≤ f → (fun i => i < 20 ∧ 1 ≤ i % 10 ∧ i % 10 ≤ 9) (10 - 10 * 0 + b) := fun b h1 h2 => by show _ ∧ _ ∧ _; omega
      have A1 := du_uA (n := 0) (C := σ 78) I e78 S0
      have B1 := dl_1b (n := 0) (m := f) B hC (show 0 < 2 by decide) (by decide) (by omega) (fun _ => hf.1) (fun z => absurd rfl z)
      have M1 := du_uM M 0 0 f
      have S1 : ∀ b : Nat, 1 ≤ b → b ≤ f → (fun i => (i < 20 ∧ 1 ≤ i % 10 ∧ i % 10 ≤ 9) ∨ i = 10 * 0 + 0) (10 - 10 * 1 + b) := fun b h1 h2 => Or.inl (by omega)
      have A2 := du_uA (n := 0) (C := σ 78) A1 (du_B78 M1) S1
      refine fs_doBest_2 hG ?_
      rw [c9, fw_s (x := ((9 + 1 : Nat) : Int)) (by decide) (by decide)]
      refine ⟨fun _ => ⟨0, 0, f, _, _, _, rfl, ⟨rfl, rfl, rfl⟩, ⟨by decide, by decide, by omega⟩, fun z => absurd rfl z, rd I B S0, fs_doBest_39 hG ⟨1, 0, f, _, _, _, rfl, ⟨rfl, rfl, rfl⟩, ⟨by decide, by decide, by omega⟩, fun z => absurd rfl z, rd A1 B1 S1, fs_doBest_46 hG (h _ (du_uM M1 1 0 f) (fun i hi => ?_))⟩⟩, fun z => absurd z (by decide)⟩
      have g := A2 i (by show (_ ∨ _) ∨ _; omega)
      rw [show (10 : Nat) = 9 + 1 from rfl, dl_nt]
      exact g
    | succ g ih =>
      intro k τ hk M I
      have B := dl_nb hC hf k
      have S0 : ∀ b : Nat, 1 ≤ b → b ≤ k → (fun i => i < 20 ∧ 1 ≤ i % 10 ∧ i % 10 ≤ k) (10 - 10 * 0 + b) := fun b h1 h2 => by show _ ∧ _ ∧ _; omega
      have A1 := du_uA (n := k + 1) (C := σ 78) I (du_B78 M) S0
      have B1 := dl_1b (n := k + 1) (m := k) B hC (show 0 < 2 by decide) (by omega) (by omega) (fun z => absurd z (Nat.succ_ne_zero k)) (fun _ => Nat.le_refl _)
      have M1 := du_uM M 0 (k + 1) k
      have S1 : ∀ b : Nat, 1 ≤ b → b ≤ k → (fun i => (i < 20 ∧ 1 ≤ i % 10 ∧ i % 10 ≤ k) ∨ i = 10 * 0 + (k + 1)) (10 - 10 * 1 + b) := fun b h1 h2 => Or.inl (by omega)
      have A2 := du_uA (n := k + 1) (C := σ 78) A1 (du_B78 M1) S1
      refine fs_doBest_2 hG ?_
      rw [c9, oz_c9 (k + 1) (by omega)]
      refine ⟨fun z => absurd z (by omega), fun _ => ⟨0, k + 1, k, _, _, _, rfl, ⟨rfl, rfl, by omega⟩, ⟨by decide, by omega, by omega⟩, fun _ => ?_, rd I B S0, fs_doBest_17 hG ⟨1, k + 1, k, _, _, _, rfl, ⟨rfl, rfl, by omega⟩, ⟨by decide, by omega, by omega⟩, fun _ => ?_, rd A1 B1 S1, fs_doBest_26 hG ?_⟩⟩⟩
      · rw [du_B78 M]
        exact hC _ (by omega) (by omega)
      · rw [du_B78 M1]
        exact hC _ (by omega) (by omega)
      · have w := ih (k + 1) _ (by omega) (du_uM M1 1 (k + 1) k) (fun i hi => by
          rw [dl_nn _ _ (by omega)]
          exact A2 i (by have := hi.1; have := hi.2.1; have := hi.2.2; show (_ ∨ _) ∨ _; omega))
        rw [show ((k + 1 + 1 : Nat) : Int) = ((k + 1 : Nat) : Int) + 1 from rfl] at w
        exact w
  exact loop 9 0 σ rfl (fw_okM_refl _ _) (fun i hi => absurd hi.2.1 (by have := hi.2.2; omega)))
theorem fm_dvalue (hinj : nn_inj ad) : fw_H l cy ad wr cr D 102 1 sp_dvalue := fw_mk hinj (⟨"NameNotes$Duel", "value", "(II)J"⟩, prog_2_method_7_code, 3, (Option.some Jvm.ClassFile.FieldType.long), 2, true, 2) rfl rfl nn_KI10_ok nn_KJ10_ok nn_PF10_ok nn_PS10_ok (by decide +kernel) rfl rfl (List.forall_mem_cons.mpr ⟨fw_row nn_PM10_ok (x := 45) (k := 2) (mn := 87) (np := 2) (ob := false) (ci := 0) (⟨"NameNotes", "at", "([JI)J"⟩, prog_1_method_85_code, 2, (Option.some Jvm.ClassFile.FieldType.long), 2, false, 2) rfl (by decide +kernel) rfl rfl (by decide) (fun q => by cases q) (fm_atj hinj), (fun _ h => absurd h List.not_mem_nil)⟩) (fun as σ K h => by
  obtain ⟨side, n, a, b, rfl, ⟨rfl, rfl⟩, ⟨hs, hn⟩, h⟩ := h
  have ci : fw_c ((side : Int) * 10 + (n : Int)) = ((10 * side + n : Nat) : Int) := by
    rw [show (side : Int) * 10 + (n : Int) = ((10 * side + n : Nat) : Int) by omega]
    exact fw_s (by omega) (by omega)
  refine ⟨rfl, fun G hG => fs_dvalue_0 hG ⟨(79, 20), by decide, _, rfl, fun _ => ?_, fun z => absurd (by rw [ci]; show _ ∧ _ < (20 : Int); omega) z⟩⟩
  rw [ci, Int.toNat_natCast]
  exact fs_dvalue_13 hG h)
theorem fm_dmove (hinj : nn_inj ad) : fw_H l cy ad wr cr D 96 1 sp_dmove := fw_mk hinj (⟨"NameNotes$Duel", "move", "(II)I"⟩, prog_2_method_8_code, 3, (Option.some Jvm.ClassFile.FieldType.int), 2, true, 0) rfl rfl nn_KI10_ok nn_KJ10_ok nn_PF10_ok nn_PS10_ok (by decide +kernel) rfl rfl (List.forall_mem_cons.mpr ⟨fw_row nn_PM10_ok (x := 61) (k := 2) (mn := 29) (np := 2) (ob := false) (ci := 0) (⟨"NameNotes", "at", "([II)I"⟩, prog_1_method_84_code, 2, (Option.some Jvm.ClassFile.FieldType.int), 2, false, 0) rfl (by decide +kernel) rfl rfl (by decide) (fun q => by cases q) (fm_at80 hinj), (fun _ h => absurd h List.not_mem_nil)⟩) (fun as σ K h => by
  obtain ⟨side, n, a, b, rfl, ⟨rfl, rfl⟩, ⟨hs, hn⟩, h⟩ := h
  have ci : fw_c ((side : Int) * 10 + (n : Int)) = ((10 * side + n : Nat) : Int) := by
    rw [show (side : Int) * 10 + (n : Int) = ((10 * side + n : Nat) : Int) by omega]
    exact fw_s (by omega) (by omega)
  refine ⟨rfl, fun G hG => fs_dmove_0 hG ⟨_, rfl, fun _ => ?_, fun z => absurd (by rw [ci]; omega) z⟩⟩
  rw [ci, Int.toNat_natCast]
  exact fs_dmove_13 hG h)
theorem fm_hear (hinj : nn_inj ad) : fw_H l cy ad wr cr D 93 4 sp_hear := fw_mk hinj (⟨"NameNotes$Duel", "hear", "(LNameNotes$Studio;LNameNotes$Ear;III)V"⟩, prog_2_method_2_code, 7, (Option.none : Option Jvm.ClassFile.FieldType), 5, true, 4) rfl rfl nn_KI10_ok nn_KJ10_ok nn_PF10_ok nn_PS10_ok (by decide +kernel) rfl rfl (List.forall_mem_cons.mpr ⟨fw_row nn_PM10_ok (x := 22) (k := 0) (mn := 83) (np := 3) (ob := true) (ci := 1) (⟨"NameNotes$Ear", "group", "(LNameNotes$Studio;II)V"⟩, prog_3_method_2_code, 5, (Option.none : Option Jvm.ClassFile.FieldType), 3, true, 4) rfl (by decide +kernel) rfl rfl (by decide) (fun _ => ⟨_, _, rfl⟩) (fm_group hinj), (List.forall_mem_cons.mpr ⟨fw_row nn_PM10_ok (x := 28) (k := 0) (mn := 84) (np := 3) (ob := true) (ci := 1) (⟨"NameNotes$Ear", "listen", "(LNameNotes$Studio;II)V"⟩, prog_3_method_3_code, 5, (Option.none : Option Jvm.ClassFile.FieldType), 3, true, 4) rfl (by decide +kernel) rfl rfl (by decide) (fun _ => ⟨_, _, rfl⟩) (fm_listen hinj), (List.forall_mem_cons.mpr ⟨fw_row nn_PM10_ok (x := 31) (k := 0) (mn := 85) (np := 0) (ob := true) (ci := 1) (⟨"NameNotes$Ear", "chance", "()J"⟩, prog_3_method_6_code, 4, (Option.some Jvm.ClassFile.FieldType.long), 0, true, 2) rfl (by decide +kernel) rfl rfl (by decide) (fun _ => ⟨_, _, rfl⟩) (fm_chance hinj), (List.forall_mem_cons.mpr ⟨fw_row nn_PM10_ok (x := 35) (k := 2) (mn := 26) (np := 3) (ob := false) (ci := 0) (⟨"NameNotes", "put", "([JIJ)V"⟩, prog_1_method_87_code, 4, (Option.none : Option Jvm.ClassFile.FieldType), 3, false, 4) rfl (by decide +kernel) rfl rfl (by decide) (fun q => by cases q) (fm_put78 hinj), (fun _ h => absurd h List.not_mem_nil)⟩)⟩)⟩)⟩) (fun as σ K h => by
  obtain ⟨A, p, q, s, rfl, hN, hp, hq, hs, ht, h⟩ := h
  have c9 : fw_c 9 = 9 := fw_s (by decide) (by decide)
  refine ⟨rfl, fun G hG => fs_hear_0 hG ?_⟩
  have loop : ∀ (f n : Nat) (τ : ab_SG), n + f = 10 → 1 ≤ n → ab_okM du_H σ τ → (∀ m : Nat, 1 ≤ m → m < n → τ 78 m = oz_odds A p (m : Int) s ∧ τ 78 (10 + m) = oz_odds A q (m : Int) s) → G 3 [some (2, 77, 0), some (2, 3, 0), some (2, 73, 0), some (0, 0, (p : Int)), some (0, 0, (q : Int)), some (0, 0, s), some (0, 0, (n : Int))] [] τ := by
    intro f
    induction f with
    | zero =>
      intro n τ hn h0 M I
      refine fs_hear_3 hG ?_
      rw [c9, fw_s (x := (n : Int)) (by omega) (by omega)]
      refine ⟨fun _ => h τ M (fun i hi hm => ?_), fun z => absurd z (by omega)⟩
      unfold v_ch
      by_cases c : i < 10
      · rw [if_pos c]
        exact (I i (by omega) (by omega)).1
      · rw [if_neg c]
        have e := (I (i - 10) (by omega) (by omega)).2
        rw [show 10 + (i - 10) = i by omega] at e
        exact e
    | succ f ih =>
      intro n τ hn h0 M I
      have cn : fw_c (n : Int) = (n : Int) := fw_s (by omega) (by omega)
      have c10 : fw_c (10 + (n : Int)) = ((10 + n : Nat) : Int) := by
        rw [show 10 + (n : Int) = ((10 + n : Nat) : Int) by omega]
        exact fw_s (by omega) (by omega)
      have Nt := oz_NCM M (by decide +kernel) hN
      have bp := oz_odds_b Nt hp (n := (n : Int)) hs
      have bq := oz_odds_b Nt hq (n := (n : Int)) hs
      have kb : ∀ {p : Nat}, p < 5 → ∀ y : Nat, y < 9 → 0 ≤ A 55 (9 * p + y) ∧ A 55 (9 * p + y) ≤ 9 := fun hp y hy => oz_kn_b Nt (by omega)
      have gb := fun x : Nat => oz_grp_b Nt.1 (n : Int) s x
      refine fs_hear_3 hG ?_
      rw [c9, cn]
      refine ⟨fun z => absurd z (by omega), fun _ => ⟨A, (n : Int), s, rfl, Nt, by omega, by omega, ht, fun σ1 M1 e1 I1 => fs_hear_19 hG ⟨A, p, 0, rfl, oz_NCM M1 (by decide +kernel) Nt, hp, by decide, fun σ2 M2 e2 I2 J2 => fs_hear_26 hG ⟨s, rfl, e2.trans e1, hs, fun x hx => by rw [I2 x, I1 x hx]; exact gb x, fun y hy => by rw [J2 y hy, if_neg (by rw [hs_0 y hy]; exact Bool.false_ne_true)]; exact kb hp y hy, fs_hear_36 hG ?_⟩⟩⟩⟩
      rw [du_ch J2 (fun x hx => (I2 x).trans (I1 x hx))]
      refine ⟨_, _, rfl, fun _ => ?_, fun z => absurd (by rw [cn]; omega) z⟩
      rw [cn, Int.toNat_natCast, fw_d_id (x := oz_odds A p (n : Int) s) (by omega) (by omega)]
      have Mm : ab_okM du_H τ (ab_ups σ2 78 n (oz_odds A p (n : Int) s)) := fw_okM_upa (on_trans (od_up M1 (by decide)) (od_up M2 (by decide))) (by decide)
      have m73 : (ab_ups σ2 78 n (oz_odds A p (n : Int) s)) 73 3 = s := by rw [ab_ups_ne (fun z => absurd z.1 (by decide))]; exact e2.trans e1
      have m75 : ∀ x : Nat, x < 9 → (ab_ups σ2 78 n (oz_odds A p (n : Int) s)) 75 x = oz_grp A (n : Int) s x := fun x hx => by rw [ab_ups_ne (fun z => absurd z.1 (by decide))]; exact (I2 x).trans (I1 x hx)
      have m78 : ∀ j : Nat, (ab_ups σ2 78 n (oz_odds A p (n : Int) s)) 78 j = if j = n then oz_odds A p (n : Int) s else τ 78 j := fun j => by
        by_cases c : j = n
        · rw [if_pos c, c, ab_ups_eq]
        · rw [if_neg c, ab_ups_ne (fun z => c z.2), du_78 M2, du_78 M1]
      generalize ab_ups σ2 78 n (oz_odds A p (n : Int) s) = ρ at Mm m73 m75 m78 ⊢
      refine fs_hear_39 hG ⟨A, q, 0, rfl, oz_NCM Mm (by decide +kernel) Nt, hq, by decide, fun σ3 M3 e3 I3 J3 => fs_hear_47 hG ⟨s, rfl, e3.trans m73, hs, fun x hx => by rw [I3 x, m75 x hx]; exact gb x, fun y hy => by rw [J3 y hy, if_neg (by rw [hs_0 y hy]; exact Bool.false_ne_true)]; exact kb hq y hy, fs_hear_60 hG ?_⟩⟩
      rw [du_ch J3 (fun x hx => (I3 x).trans (m75 x hx))]
      refine ⟨_, _, rfl, fun _ => ?_, fun z => absurd (by rw [c10]; omega) z⟩
      rw [c10, Int.toNat_natCast, fw_d_id (x := oz_odds A q (n : Int) s) (by omega) (by omega)]
      refine fs_hear_63 hG ?_
      have k := ih (n + 1) (ab_ups σ3 78 (10 + n) (oz_odds A q (n : Int) s)) (by omega) (by omega) (on_trans M (fw_okM_upa (on_trans Mm (od_up M3 (by decide))) (by decide))) (fun m h1 h2 => by
        rw [ab_ups_ne (b := m) (fun z => by have := z.2; omega), du_78 M3, m78 m]
        by_cases c : m = n
        · rw [if_pos c, c, ab_ups_eq]
          exact ⟨rfl, rfl⟩
        · rw [if_neg c, ab_ups_ne (fun z => by have := z.2; omega), du_78 M3, m78, if_neg (by omega)]
          exact I m h1 (by omega))
      rw [show ((n + 1 : Nat) : Int) = (n : Int) + 1 from rfl] at k
      exact k
  exact loop 9 1 σ rfl (Nat.le_refl 1) (fw_okM_refl _ _) (fun m h1 h2 => absurd h1 (by omega)))
theorem fm_canBid (hinj : nn_inj ad) : fw_H l cy ad wr cr D 91 2 sp_canBid := fw_mk hinj (⟨"NameNotes", "canBid", "(IIII)Z"⟩, prog_1_method_62_code, 5, (Option.some Jvm.ClassFile.FieldType.boolean), 4, true, 1) rfl rfl nn_KI1_ok nn_KJ1_ok nn_PF1_ok nn_PS1_ok (by decide +kernel) rfl rfl (List.forall_mem_cons.mpr ⟨fw_row nn_PM1_ok (x := 166) (k := 0) (mn := 63) (np := 1) (ob := true) (ci := 6) (⟨"NameNotes$Studio", "isClue", "(I)Z"⟩, prog_8_method_5_code, 2, (Option.some Jvm.ClassFile.FieldType.boolean), 1, true, 1) rfl (by decide +kernel) rfl rfl (by decide) (fun _ => ⟨_, _, rfl⟩) (fm_isClue3 hinj), (List.forall_mem_cons.mpr ⟨fw_row nn_PM1_ok (x := 173) (k := 0) (mn := 67) (np := 1) (ob := true) (ci := 6) (⟨"NameNotes$Studio", "isPerson", "(I)Z"⟩, prog_8_method_6_code, 2, (Option.some Jvm.ClassFile.FieldType.boolean), 1, true, 1) rfl (by decide +kernel) rfl rfl (by decide) (fun _ => ⟨_, _, rfl⟩) (fm_isPerson3 hinj), (List.forall_mem_cons.mpr ⟨fw_row nn_PM1_ok (x := 184) (k := 0) (mn := 71) (np := 1) (ob := false) (ci := 0) (⟨"NameNotes", "isBid", "(I)Z"⟩, prog_1_method_72_code, 1, (Option.some Jvm.ClassFile.FieldType.boolean), 1, false, 1) rfl (by decide +kernel) rfl rfl (by decide) (fun q => by cases q) (fm_isBid hinj), (fun _ h => absurd h List.not_mem_nil)⟩)⟩)⟩) (fun as σ K h => by
  obtain ⟨A, p, q, n, c, rfl, ⟨ep, eq, en, ec⟩, hN, h⟩ := h
  have no : ¬ v_bd A p q n c → (0 ≤ fw_c 0 ∧ fw_c 0 ≤ 1) ∧ K (some (0, 0, 0)) σ := fun z => ⟨fw_01, by rw [fw_bo_f z] at h; exact h⟩
  refine ⟨rfl, fun G hG => fs_canBid_0 hG ⟨p, rfl, fs_canBid_8 hG ?_⟩⟩
  rw [oz_c_pe hN ep]
  refine ⟨fun z => no (fun w => fw_bo_eq z w.1), fun z1 => ⟨q, rfl, fs_canBid_19 hG ?_⟩⟩
  rw [oz_c_pe hN eq]
  refine ⟨fun z => no (fun w => fw_bo_eq z w.2.1), fun z2 => ⟨fun z => no (fun w => w.2.2.1 (by rw [ep, eq] at z; exact z)), fun z3 => ?_⟩⟩
  rw [ep, eq] at z3
  have clue : (0 ≤ n ∧ n ≤ 9) → G 38 [some (2, 0, 0), some (0, 0, p), some (0, 0, q), some (0, 0, n), some (0, 0, c)] [] σ := fun hn => fs_canBid_38 hG ⟨A, c, rfl, ec, hN, fs_canBid_47 hG ⟨fun z => no (fun w => fw_bo_eq z w.2.2.2.2), fun z4 => ⟨by rw [fw_c1]; decide, by
    rw [fw_bo_t ⟨fw_bo_ne z1, fw_bo_ne z2, z3, hn, fw_bo_ne z4⟩] at h
    exact h⟩⟩⟩
  rw [en]
  refine ⟨fun z => clue (by omega), fun z => ⟨n, rfl, en, fs_canBid_35 hG ⟨fun y => no (fun w => fw_bo_eq y ⟨by have := w.2.2.2.1.1; omega, w.2.2.2.1.2⟩), fun y => clue (by have := fw_bo_ne y; omega)⟩⟩⟩)
theorem fm_weigh (hinj : nn_inj ad) : fw_H l cy ad wr cr D 92 5 sp_weigh := fw_mk hinj (⟨"NameNotes", "weigh", "(III)V"⟩, prog_1_method_66_code, 4, (Option.none : Option Jvm.ClassFile.FieldType), 3, true, 4) rfl rfl nn_KI1_ok nn_KJ1_ok nn_PF1_ok nn_PS1_ok (by decide +kernel) rfl rfl (List.forall_mem_cons.mpr ⟨fw_row nn_PM1_ok (x := 169) (k := 0) (mn := 64) (np := 1) (ob := true) (ci := 6) (⟨"NameNotes$Studio", "setOf", "(I)I"⟩, prog_8_method_8_code, 2, (Option.some Jvm.ClassFile.FieldType.int), 1, true, 0) rfl (by decide +kernel) rfl rfl (by decide) (fun _ => ⟨_, _, rfl⟩) (fm_setOf3 hinj), (List.forall_mem_cons.mpr ⟨fw_row nn_PM1_ok (x := 463) (k := 0) (mn := 93) (np := 5) (ob := true) (ci := 0) (⟨"NameNotes$Duel", "hear", "(LNameNotes$Studio;LNameNotes$Ear;III)V"⟩, prog_2_method_2_code, 7, (Option.none : Option Jvm.ClassFile.FieldType), 5, true, 4) rfl (by decide +kernel) rfl rfl (by decide) (fun _ => ⟨_, _, rfl⟩) (fm_hear hinj), (List.forall_mem_cons.mpr ⟨fw_row nn_PM1_ok (x := 467) (k := 0) (mn := 94) (np := 1) (ob := true) (ci := 0) (⟨"NameNotes$Duel", "doBest", "(I)V"⟩, prog_2_method_3_code, 3, (Option.none : Option Jvm.ClassFile.FieldType), 1, true, 4) rfl (by decide +kernel) rfl rfl (by decide) (fun _ => ⟨_, _, rfl⟩) (fm_doBest hinj), (fun _ h => absurd h List.not_mem_nil)⟩)⟩)⟩) (fun as σ K h => by
  obtain ⟨A, p, q, c, rfl, hN, hb, h⟩ := h
  have nn := N_n hN.1
  obtain ⟨h1, h2, h3, h4, h5⟩ := hb
  obtain ⟨p, rfl⟩ := Int.eq_ofNat_of_zero_le h1.1
  obtain ⟨q, rfl⟩ := Int.eq_ofNat_of_zero_le h2.1
  have fb := hN.2.1.2.2.2.2
  have e14 : ∀ τ : ab_SG, NC τ A → τ 3 14 = A 49 14 := fun τ t => t.2.2.2.2.2.1
  obtain ⟨f, ef⟩ := Int.eq_ofNat_of_zero_le (show 0 ≤ A 49 14 by omega)
  have cl := oz_clue hN.1 hN.2.1 h5.1 h5.2
  unfold v_du at h
  rw [ef] at h fb
  rw [Int.toNat_natCast, Int.toNat_natCast, Int.toNat_natCast] at h
  refine ⟨rfl, fun G hG => fs_weigh_0 hG ⟨A, c, rfl, hN, by omega, fs_weigh_22 hG ⟨A, p, q, v_set A c, rfl, hN, by omega, by omega, cl.1, cl.2, fun σ1 M1 I1 => fs_weigh_25 hG ?_⟩⟩⟩
  have N1 := oz_NCM M1 (by decide +kernel) hN
  have cb := v_chb hN (show p < 5 by omega) (show q < 5 by omega) cl.1
  rw [e14 σ1 N1, ef]
  refine ⟨f, rfl, by omega, fun i hi hm => by rw [I1 i hi hm]; exact cb i hi hm, fun σ2 M2 I2 => fs_weigh_39 hG (h σ2 (on_trans (od_up M1 (by decide)) (od_up M2 (by decide))) (fun i hi => ?_))⟩
  rw [← dl_nc I1 10]
  exact I2 i hi)
theorem fm_lastBid (hinj : nn_inj ad) : fw_H l cy ad wr cr D 104 2 sp_lastBid := fw_mk hinj (⟨"NameNotes$Duel", "lastBid", "()I"⟩, prog_2_method_9_code, 5, (Option.some Jvm.ClassFile.FieldType.int), 0, true, 0) rfl rfl nn_KI10_ok nn_KJ10_ok nn_PF10_ok nn_PS10_ok (by decide +kernel) rfl rfl (List.forall_mem_cons.mpr ⟨fw_row nn_PM10_ok (x := 64) (k := 0) (mn := 96) (np := 2) (ob := true) (ci := 0) (⟨"NameNotes$Duel", "move", "(II)I"⟩, prog_2_method_8_code, 3, (Option.some Jvm.ClassFile.FieldType.int), 2, true, 0) rfl (by decide +kernel) rfl rfl (by decide) (fun _ => ⟨_, _, rfl⟩) (fm_dmove hinj), (fun _ h => absurd h List.not_mem_nil)⟩) (fun as σ K h => by
  obtain ⟨rfl, hB, h⟩ := h
  have c9 : fw_c 9 = 9 := fw_s (by decide) (by decide)
  refine ⟨rfl, fun G hG => fs_lastBid_0 hG ⟨0, 0, _, _, rfl, ⟨rfl, rfl⟩, ⟨by decide, by decide⟩, fs_lastBid_10 hG ?_⟩⟩
  have loop : ∀ (f i side last : Nat), i + f = 9 → side < 2 → last < 10 → σ 80 (10 * side + last) ≤ (f : Int) → lo_f (σ 80) (f + 1) side last = lo_f (σ 80) 10 0 0 → G 14 [some (2, 77, 0), some (0, 0, (side : Int)), some (0, 0, (last : Int)), some (0, 0, σ 80 (10 * side + last)), some (0, 0, (i : Int))] [] σ := by
    intro f
    induction f with
    | zero =>
      intro i side last hi hs hl hm e
      have b := (hB (10 * side + last) (by omega)).1
      refine fs_lastBid_14 hG ?_
      rw [c9, fw_s (x := (i : Int)) (by omega) (by omega)]
      refine ⟨fun _ => ?_, fun z => absurd z (by omega)⟩
      rw [lo_s, if_pos (by omega)] at e
      rw [← e] at h
      exact h
    | succ f ih =>
      intro i side last hi hs hl hm e
      have b := (hB (10 * side + last) (by omega)).1
      refine fs_lastBid_14 hG ?_
      rw [c9, fw_s (x := (i : Int)) (by omega) (by omega), fw_s (x := σ 80 (10 * side + last)) (by omega) (by omega)]
      refine ⟨fun z => absurd z (by omega), fun _ => ⟨fun z => ?_, fun z => ?_⟩⟩
      · rw [lo_s, if_pos (by omega)] at e
        rw [← e] at h
        exact h
      · rw [lo_s, if_neg (by omega)] at e
        obtain ⟨k, ek⟩ := Int.eq_ofNat_of_zero_le b.1
        rw [ek] at z e hm ⊢
        rw [Int.toNat_natCast] at e
        have b2 := hB (10 * (1 - side) + k) (by omega)
        have g := ih (i + 1) (1 - side) k (by omega) (by omega) (by omega) (by have := b2.2 (by omega); omega) e
        rw [show ((1 - side : Nat) : Int) = 1 - (side : Int) by omega, show ((i + 1 : Nat) : Int) = (i : Int) + 1 from rfl] at g
        exact ⟨1 - side, k, _, _, rfl, ⟨by omega, rfl⟩, ⟨by omega, by omega⟩, fs_lastBid_37 hG g⟩
  exact loop 9 0 0 0 rfl (by decide) (by decide) (hB 0 (by decide)).1.2 rfl)
theorem du_B20 {σ A : ab_SG} {p q c : Int} (hN : NC σ A) (hb : v_bd A p q 0 c) : dl_B (v_du A p q c) := by
  have nn := N_n hN.1
  have fb := hN.2.1.2.2.2.2
  exact dl_nb (v_chb hN (by omega) (by omega) (oz_clue hN.1 hN.2.1 hb.2.2.2.2.1 hb.2.2.2.2.2).1) ⟨by omega, by omega⟩ 10
theorem fm_best (hinj : nn_inj ad) : fw_H l cy ad wr cr D 90 6 sp_best := fw_mk hinj (⟨"NameNotes", "best", "(IIII)I"⟩, prog_1_method_18_code, 5, (Option.some Jvm.ClassFile.FieldType.int), 4, true, 0) rfl rfl nn_KI1_ok nn_KJ1_ok nn_PF1_ok nn_PS1_ok (by decide +kernel) rfl rfl (List.forall_mem_cons.mpr ⟨fw_row nn_PM1_ok (x := 239) (k := 0) (mn := 91) (np := 4) (ob := true) (ci := 10) (⟨"NameNotes", "canBid", "(IIII)Z"⟩, prog_1_method_62_code, 5, (Option.some Jvm.ClassFile.FieldType.boolean), 4, true, 1) rfl (by decide +kernel) rfl rfl (by decide) (fun _ => ⟨_, _, rfl⟩) (fm_canBid hinj), (List.forall_mem_cons.mpr ⟨fw_row nn_PM1_ok (x := 242) (k := 0) (mn := 92) (np := 3) (ob := true) (ci := 10) (⟨"NameNotes", "weigh", "(III)V"⟩, prog_1_method_66_code, 4, (Option.none : Option Jvm.ClassFile.FieldType), 3, true, 4) rfl (by decide +kernel) rfl rfl (by decide) (fun _ => ⟨_, _, rfl⟩) (fm_weigh hinj), (List.forall_mem_cons.mpr ⟨fw_row nn_PM1_ok (x := 246) (k := 0) (mn := 96) (np := 2) (ob := true) (ci := 0) (⟨"NameNotes$Duel", "move", "(II)I"⟩, prog_2_method_8_code, 3, (Option.some Jvm.ClassFile.FieldType.int), 2, true, 0) rfl (by decide +kernel) rfl rfl (by decide) (fun _ => ⟨_, _, rfl⟩) (fm_dmove hinj), (fun _ h => absurd h List.not_mem_nil)⟩)⟩)⟩) (fun as σ K h => by
  obtain ⟨A, p, q, n, c, rfl, ee, hN, h⟩ := h
  refine ⟨rfl, fun G hG => fs_best_0 hG ⟨A, p, q, n, c, rfl, ee, hN, fs_best_9 hG ⟨fun z => ?_, fun z => ?_⟩⟩⟩
  · have hb := fw_bo_ne z
    refine ⟨A, p, q, c, rfl, hN, ⟨hb.1, hb.2.1, hb.2.2.1, by decide, hb.2.2.2.2⟩, fun σ1 M1 I1 => fs_best_22 hG ⟨0, n.toNat, _, _, rfl, ⟨rfl, by have := hb.2.2.2.1; omega⟩, ⟨by decide, by have := hb.2.2.2.1; omega⟩, fs_best_31 hG ?_⟩⟩
    rw [show 10 * 0 + n.toNat = n.toNat by omega, (I1 n.toNat (by have := hb.2.2.2.1; omega)).2]
    have k := h σ1 M1
    unfold v_best at k
    rw [if_pos hb] at k
    exact k
  · have k := h σ (fw_okM_refl _ _)
    unfold v_best at k
    rw [if_neg (fw_bo_eq z)] at k
    exact k)
theorem fm_fair (hinj : nn_inj ad) : fw_H l cy ad wr cr D 101 6 sp_fair := fw_mk hinj (⟨"NameNotes", "fair", "(III)I"⟩, prog_1_method_22_code, 8, (Option.some Jvm.ClassFile.FieldType.int), 3, true, 0) rfl rfl nn_KI1_ok nn_KJ1_ok nn_PF1_ok nn_PS1_ok (by decide +kernel) rfl rfl (List.forall_mem_cons.mpr ⟨fw_row nn_PM1_ok (x := 239) (k := 0) (mn := 91) (np := 4) (ob := true) (ci := 10) (⟨"NameNotes", "canBid", "(IIII)Z"⟩, prog_1_method_62_code, 5, (Option.some Jvm.ClassFile.FieldType.boolean), 4, true, 1) rfl (by decide +kernel) rfl rfl (by decide) (fun _ => ⟨_, _, rfl⟩) (fm_canBid hinj), (List.forall_mem_cons.mpr ⟨fw_row nn_PM1_ok (x := 242) (k := 0) (mn := 92) (np := 3) (ob := true) (ci := 10) (⟨"NameNotes", "weigh", "(III)V"⟩, prog_1_method_66_code, 4, (Option.none : Option Jvm.ClassFile.FieldType), 3, true, 4) rfl (by decide +kernel) rfl rfl (by decide) (fun _ => ⟨_, _, rfl⟩) (fm_weigh hinj), (List.forall_mem_cons.mpr ⟨fw_row nn_PM1_ok (x := 249) (k := 0) (mn := 102) (np := 2) (ob := true) (ci := 0) (⟨"NameNotes$Duel", "value", "(II)J"⟩, prog_2_method_7_code, 3, (Option.some Jvm.ClassFile.FieldType.long), 2, true, 2) rfl (by decide +kernel) rfl rfl (by decide) (fun _ => ⟨_, _, rfl⟩) (fm_dvalue hinj), (fun _ h => absurd h List.not_mem_nil)⟩)⟩)⟩) (fun as σ K h => by
  obtain ⟨A, p, q, c, rfl, ⟨ep, eq, ec⟩, hN, h⟩ := h
  have d1 : fw_d 976299632280 = 976299632280 := fw_d_id (by decide) (by decide)
  refine ⟨rfl, fun G hG => fs_fair_0 hG ⟨A, p, q, 0, c, rfl, ⟨ep, eq, fw_c0, ec⟩, hN, fs_fair_8 hG ⟨fun z => ?_, fun z => ?_⟩⟩⟩
  · have hb := fw_bo_ne z
    have B := du_B20 hN hb
    have b0 := (B 0).1
    have b1 := (B 10).1
    refine ⟨A, p, q, c, rfl, hN, hb, fun σ1 M1 I1 => fs_fair_20 hG ⟨0, 0, _, _, rfl, ⟨rfl, rfl⟩, ⟨by decide, by decide⟩, fs_fair_32 hG ⟨1, 0, _, _, rfl, ⟨rfl, rfl⟩, ⟨by decide, by decide⟩, fs_fair_50 hG ?_⟩⟩⟩
    rw [show 10 * 0 + 0 = 0 from rfl, show 10 * 1 + 0 = 10 from rfl, (I1 0 (by decide)).1, (I1 10 (by decide)).1]
    have k := h σ1 M1
    unfold v_fair v_fairV at k
    rw [if_pos hb] at k
    generalize (v_du A p q c).1 0 = a at b0 k ⊢
    generalize (v_du A p q c).1 10 = b at b1 k ⊢
    have f74 : ¬ (976299632280 < 2 * a ∧ 976299632280 < 2 * (976299632280 - b)) → G 74 [some (2, 0, 0), some (0, 0, p), some (0, 0, q), some (0, 0, c), some (1, 0, 2 * a), none, some (1, 0, 2 * (976299632280 - b)), none] [] σ1 := fun no => by
      rw [if_neg no] at k
      refine fs_fair_74 hG ?_
      rw [d1, fw_d_id (x := 2 * a) (by omega) (by omega), fw_d_id (x := 2 * (976299632280 - b)) (by omega) (by omega)]
      refine ⟨fun y => ?_, fun y => ⟨fun y2 => ?_, fun y2 => ?_⟩⟩
      · rw [if_neg (by omega)] at k; exact k
      · rw [if_neg (by omega)] at k; exact k
      · rw [if_pos ⟨y, y2⟩] at k; exact k
    rw [d1, fw_d_id (x := 2 * a) (by omega) (by omega), fw_d_id (x := 2 * (976299632280 - b)) (by omega) (by omega)]
    refine ⟨fun y => f74 (by omega), fun y => ⟨fun y2 => f74 (by omega), fun y2 => ?_⟩⟩
    rw [if_pos ⟨y, y2⟩] at k
    exact k
  · have k := h σ (fw_okM_refl _ _)
    unfold v_fair at k
    rw [if_neg (fw_bo_eq z)] at k
    exact k)
theorem lo_congr {M M' : Nat → Int} (h : ∀ i : Nat, i < 20 → M i = M' i) (hB : ∀ i : Nat, i < 20 → 0 ≤ M i ∧ M i ≤ 9) : ∀ (f side last : Nat), side < 2 → last < 10 → lo_f M f side last = lo_f M' f side last
  | 0, _, _, _, _ => rfl
  | f + 1, side, last, hs, hl => by
    have b := hB (10 * side + last) (by omega)
    rw [lo_s, lo_s, ← h (10 * side + last) (by omega), lo_congr h hB f (1 - side) (M (10 * side + last)).toNat (by omega) (by omega)]
theorem fm_low (hinj : nn_inj ad) : fw_H l cy ad wr cr D 103 6 sp_low := fw_mk hinj (⟨"NameNotes", "low", "(III)I"⟩, prog_1_method_25_code, 4, (Option.some Jvm.ClassFile.FieldType.int), 3, true, 0) rfl rfl nn_KI1_ok nn_KJ1_ok nn_PF1_ok nn_PS1_ok (by decide +kernel) rfl rfl (List.forall_mem_cons.mpr ⟨fw_row nn_PM1_ok (x := 239) (k := 0) (mn := 91) (np := 4) (ob := true) (ci := 10) (⟨"NameNotes", "canBid", "(IIII)Z"⟩, prog_1_method_62_code, 5, (Option.some Jvm.ClassFile.FieldType.boolean), 4, true, 1) rfl (by decide +kernel) rfl rfl (by decide) (fun _ => ⟨_, _, rfl⟩) (fm_canBid hinj), (List.forall_mem_cons.mpr ⟨fw_row nn_PM1_ok (x := 242) (k := 0) (mn := 92) (np := 3) (ob := true) (ci := 10) (⟨"NameNotes", "weigh", "(III)V"⟩, prog_1_method_66_code, 4, (Option.none : Option Jvm.ClassFile.FieldType), 3, true, 4) rfl (by decide +kernel) rfl rfl (by decide) (fun _ => ⟨_, _, rfl⟩) (fm_weigh hinj), (List.forall_mem_cons.mpr ⟨fw_row nn_PM1_ok (x := 266) (k := 0) (mn := 104) (np := 0) (ob := true) (ci := 0) (⟨"NameNotes$Duel", "lastBid", "()I"⟩, prog_2_method_9_code, 5, (Option.some Jvm.ClassFile.FieldType.int), 0, true, 0) rfl (by decide +kernel) rfl rfl (by decide) (fun _ => ⟨_, _, rfl⟩) (fm_lastBid hinj), (fun _ h => absurd h List.not_mem_nil)⟩)⟩)⟩) (fun as σ K h => by
  obtain ⟨A, p, q, c, rfl, ⟨ep, eq, ec⟩, hN, h⟩ := h
  refine ⟨rfl, fun G hG => fs_low_0 hG ⟨A, p, q, 0, c, rfl, ⟨ep, eq, fw_c0, ec⟩, hN, fs_low_8 hG ⟨fun z => ?_, fun z => ?_⟩⟩⟩
  · have hb := fw_bo_ne z
    have B := du_B20 hN hb
    refine ⟨A, p, q, c, rfl, hN, hb, fun σ1 M1 I1 => fs_low_20 hG ⟨rfl, fun i hi => ?_, fs_low_27 hG ?_⟩⟩
    · rw [(I1 i hi).2]
      exact ⟨(B i).2.1, (B i).2.2⟩
    · rw [lo_congr (fun i hi => (I1 i hi).2) (fun i hi => by rw [(I1 i hi).2]; exact (B i).2.1) 10 0 0 (by decide) (by decide)]
      have k := h σ1 M1
      unfold v_low at k
      rw [if_pos hb] at k
      exact k
  · have k := h σ (fw_okM_refl _ _)
    unfold v_low at k
    rw [if_neg (fw_bo_eq z)] at k
    exact k)
end
end
section
/-! the duel as the reference reckons it: odds in row 108, values in row 109, moves in row 111 -/
def dm_H : ab_ML := [(106, 1000000), (107, 1000000), (108, 1000000)]
def dm_B : ab_ML := [(109, 1000000), (111, 1000000)]
def dm_M : ab_ML := [(106, 1000000), (107, 1000000), (108, 1000000), (109, 1000000), (111, 1000000)]
def dm_N : ab_ML := [(93, 0), (106, 1000000), (107, 1000000), (108, 1000000), (109, 1000000), (111, 1000000)]
theorem dm_93 (σ : ab_SG) : ab_okM dm_N σ (ab_ups σ 93 0 0) := fun a b q => ab_ups_ne (fun z => q (93, 0) (by decide) ⟨z.1.symm, Or.inl z.2.symm⟩)
def dm_A (S : Nat → Prop) (τ : ab_SG) (st : (Nat → Int) × (Nat → Int)) : Prop := ∀ i : Nat, S i → τ 109 i = 2520 * st.1 i ∧ τ 111 i = st.2 i
theorem dm_op : ∀ k : Nat, k < 11 → fw_op 4 (k : Int) 10 = ((k % 10 : Nat) : Int) := by decide +kernel
theorem dm_108 {σ τ : ab_SG} (h : ab_okM on_M σ τ) (j : Nat) : τ 108 j = σ 108 j := h 108 j (fun q hq hh => by
  have : ∀ q ∈ on_M, q.1 ≠ 108 := by decide
  exact this q hq hh.1)
theorem dm_k {k : Nat} (hk : k ≠ 109 ∧ k ≠ 111) {σ τ : ab_SG} (h : ab_okM dm_B σ τ) (j : Nat) : τ k j = σ k j := h k j (fun q hq hh => by
  have : ∀ q ∈ dm_B, q.1 = 109 ∨ q.1 = 111 := by decide
  rcases this q hq with e | e
  · exact hk.1 (hh.1.symm.trans e)
  · exact hk.2 (hh.1.symm.trans e))
def sp_m_highest : fw_SP := fun as σ K => ∃ n : Nat, as = [(2, 93, 0), (0, 0, (n : Int))] ∧ n < 10 ∧ (n ≠ 0 → K (some (0, 0, ((n - 1 : Nat) : Int))) σ) ∧ (n = 0 → K (some (0, 0, σ 95 3)) σ)
def sp_m_layOdds : fw_SP := fun as σ K => ∃ (A : ab_SG) (p q : Nat) (c : Int), as = [(2, 93, 0), (0, 0, (p : Int)), (0, 0, (q : Int)), (0, 0, c)] ∧ NM σ A ∧ p < 5 ∧ q < 5 ∧ (0 ≤ c ∧ c < A 49 12) ∧ ∀ σ' : ab_SG, ab_okM dm_H σ σ' → (∀ i : Nat, i < 20 → 1 ≤ i % 10 → σ' 108 i = 2520 * v_ch A p q (v_set A c) i) → K none σ'
def sp_m_layBest : fw_SP := fun as σ K => ∃ (A : ab_SG) (p q c : Int), as = [(2, 93, 0), (0, 0, p), (0, 0, q), (0, 0, c)] ∧ NM σ A ∧ σ 95 3 = A 49 14 ∧ v_bd A p q 0 c ∧ ∀ σ' : ab_SG, ab_okM dm_M σ σ' → (∀ i : Nat, i < 20 → σ' 109 i = 2520 * (v_du A p q c).1 i ∧ σ' 111 i = (v_du A p q c).2 i) → K none σ'
def sp_m_lowOf : fw_SP := fun as σ K => ∃ (A : ab_SG) (p q c : Int), as = [(2, 93, 0), (0, 0, p), (0, 0, q), (0, 0, c)] ∧ NM σ A ∧ σ 95 3 = A 49 14 ∧ v_bd A p q 0 c ∧ ∀ σ' : ab_SG, ab_okM dm_M σ σ' → K (some (0, 0, lo_f (v_du A p q c).2 10 0 0)) σ'
def sp_m_best : fw_SP := fun as σ K => ∃ (A : ab_SG) (p q n c : Int), as = [(2, 93, 0), (0, 0, p), (0, 0, q), (0, 0, n), (0, 0, c)] ∧ (fw_c p = p ∧ fw_c q = q ∧ fw_c n = n ∧ fw_c c = c) ∧ NM σ A ∧ (0 < A 49 13 → σ 95 3 = A 49 14) ∧ ∀ σ' : ab_SG, ab_okM dm_N σ σ' → K (some (0, 0, v_best A p q n c)) σ'
def sp_m_fair : fw_SP := fun as σ K => ∃ (A : ab_SG) (p q c : Int), as = [(2, 93, 0), (0, 0, p), (0, 0, q), (0, 0, c)] ∧ (fw_c p = p ∧ fw_c q = q ∧ fw_c c = c) ∧ NM σ A ∧ (0 < A 49 13 → σ 95 3 = A 49 14) ∧ ∀ σ' : ab_SG, ab_okM dm_N σ σ' → K (some (0, 0, v_fair A p q c)) σ'
def sp_m_low : fw_SP := fun as σ K => ∃ (A : ab_SG) (p q c : Int), as = [(2, 93, 0), (0, 0, p), (0, 0, q), (0, 0, c)] ∧ (fw_c p = p ∧ fw_c q = q ∧ fw_c c = c) ∧ NM σ A ∧ (0 < A 49 13 → σ 95 3 = A 49 14) ∧ ∀ σ' : ab_SG, ab_okM dm_N σ σ' → K (some (0, 0, v_low A p q c)) σ'
theorem v_chm {σ A : ab_SG} (hN : NM σ A) {p q : Nat} (hp : p < 5) (hq : q < 5) {s : Int} (hs : 1 ≤ s ∧ s < 512) : dl_C (v_ch A p q s) := fun i _ _ => by
  unfold v_ch
  split
  · exact oz_odds_bm hN hp hs
  · exact oz_odds_bm hN hq hs
theorem dm_B20 {σ A : ab_SG} {p q c : Int} (hN : NM σ A) (hb : v_bd A p q 0 c) : dl_B (v_du A p q c) := by
  have nn := N_n hN.1
  have fb := hN.2.1.2.2.2.2
  exact dl_nb (v_chm hN (by omega) (by omega) (oz_clue hN.1 hN.2.1 hb.2.2.2.2.1 hb.2.2.2.2.2).1) ⟨by omega, by omega⟩ 10
abbrev fk_m_highest : List fw_CR := []
abbrev st_m_highest : fw_K → fw_KR → fw_K := fw_st vwCl nn_sh nn_kd fw_kv fw_wc (nn_KI20.map (fun x => x.1)) (nn_KJ20.map (fun x => x.1)) (nn_PF20.map (fun x => x.1)) (nn_PS20.map (fun x => x.1)) fk_m_highest 0 nn_dt298 2 0
theorem fs_m_highest_0 {G : fw_K} {R : fw_KR} (hG : fw_cls st_m_highest R G) {n : Int} {σ : ab_SG} (h : (fw_c n ≠ 0 → R (some (0, 0, n - 1)) σ) ∧ (fw_c n = 0 → (0 ≤ fw_c 3 ∧ fw_c 3 < ((474 : Nat) : Int)) ∧ (R (some (0, 0, σ 95 (fw_c 3).toNat)) σ))) : G 0 [some (2, 93, 0), some (0, 0, n)] [] σ := fw_on hG [] 200 h
abbrev fk_m_layOdds : List fw_CR := [(303, 1, true, 11, 1, sp_m_left), (355, 3, true, 11, 8, sp_m_oddsOf)]
abbrev st_m_layOdds : fw_K → fw_KR → fw_K := fw_st vwCl nn_sh nn_kd fw_kv fw_wc (nn_KI20.map (fun x => x.1)) (nn_KJ20.map (fun x => x.1)) (nn_PF20.map (fun x => x.1)) (nn_PS20.map (fun x => x.1)) fk_m_layOdds 9 nn_dt297 5 4
theorem fs_m_layOdds_0 {G : fw_K} {R : fw_KR} (hG : fw_cls st_m_layOdds R G) {p q c : Int} {σ : ab_SG} (h : G 3 [some (2, 93, 0), some (0, 0, p), some (0, 0, q), some (0, 0, c), some (0, 0, 1)] [] σ) : G 0 [some (2, 93, 0), some (0, 0, p), some (0, 0, q), some (0, 0, c), none] [] σ := fw_on hG [3, 25, 28, 47, 50] 200 h
theorem fs_m_layOdds_3 {G : fw_K} {R : fw_KR} (hG : fw_cls st_m_layOdds R G) {a1 a2 a3 a4 : Int} {σ : ab_SG} (h : (fw_c 9 < fw_c a4 → R none σ) ∧ (fw_c a4 ≤ fw_c 9 → sp_m_left [(2, 93, 0), (0, 0, a3)] σ (fun rv σ2 => G 25 [some (2, 93, 0), some (0, 0, a1), some (0, 0, a2), some (0, 0, a3), some (0, 0, a4)] (rv.toList ++ [(0, 0, a4), (0, 0, a1), (2, 93, 0), (0, 0, a4), (2, 108, 0)]) σ2))) : G 3 [some (2, 93, 0), some (0, 0, a1), some (0, 0, a2), some (0, 0, a3), some (0, 0, a4)] [] σ := fw_on hG [3, 25, 28, 47, 50] 200 h
theorem fs_m_layOdds_25 {G : fw_K} {R : fw_KR} (hG : fw_cls st_m_layOdds R G) {a1 a2 a3 a4 b0 b1 b2 b4 : Int} {σ : ab_SG} (h : sp_m_oddsOf [(2, 93, 0), (0, 0, b2), (0, 0, b1), (0, 0, b0)] σ (fun rv σ2 => G 28 [some (2, 93, 0), some (0, 0, a1), some (0, 0, a2), some (0, 0, a3), some (0, 0, a4)] (rv.toList ++ [(0, 0, b4), (2, 108, 0)]) σ2)) : G 25 [some (2, 93, 0), some (0, 0, a1), some (0, 0, a2), some (0, 0, a3), some (0, 0, a4)] [(0, 0, b0), (0, 0, b1), (0, 0, b2), (2, 93, 0), (0, 0, b4), (2, 108, 0)] σ := fw_on hG [3, 25, 28, 47, 50] 200 h
theorem fs_m_layOdds_28 {G : fw_K} {R : fw_KR} (hG : fw_cls st_m_layOdds R G) {a1 a2 a3 a4 b0 b1 : Int} {σ : ab_SG} (h : (0 ≤ fw_c b1 ∧ fw_c b1 < ((20 : Nat) : Int)) ∧ True ∧ (sp_m_left [(2, 93, 0), (0, 0, a3)] (ab_ups σ 108 (fw_c b1).toNat (fw_d b0)) (fun rv σ2 => G 47 [some (2, 93, 0), some (0, 0, a1), some (0, 0, a2), some (0, 0, a3), some (0, 0, a4)] (rv.toList ++ [(0, 0, a4), (0, 0, a2), (2, 93, 0), (0, 0, 10 + a4), (2, 108, 0)]) σ2))) : G 28 [some (2, 93, 0), some (0, 0, a1), some (0, 0, a2), some (0, 0, a3), some (0, 0, a4)] [(1, 0, b0), (0, 0, b1), (2, 108, 0)] σ := fw_on hG [3, 25, 28, 47, 50] 200 h
theorem fs_m_layOdds_47 {G : fw_K} {R : fw_KR} (hG : fw_cls st_m_layOdds R G) {a1 a2 a3 a4 b0 b1 b2 b4 : Int} {σ : ab_SG} (h : sp_m_oddsOf [(2, 93, 0), (0, 0, b2), (0, 0, b1), (0, 0, b0)] σ (fun rv σ2 => G 50 [some (2, 93, 0), some (0, 0, a1), some (0, 0, a2), some (0, 0, a3), some (0, 0, a4)] (rv.toList ++ [(0, 0, b4), (2, 108, 0)]) σ2)) : G 47 [some (2, 93, 0), some (0, 0, a1), some (0, 0, a2), some (0, 0, a3), some (0, 0, a4)] [(0, 0, b0), (0, 0, b1), (0, 0, b2), (2, 93, 0), (0, 0, b4), (2, 108, 0)] σ := fw_on hG [3, 25, 28, 47, 50] 200 h
theorem fs_m_layOdds_50 {G : fw_K} {R : fw_KR} (hG : fw_cls st_m_layOdds R G) {a1 a2 a3 a4 b0 b1 : Int} {σ : ab_SG} (h : (0 ≤ fw_c b1 ∧ fw_c b1 < ((20 : Nat) : Int)) ∧ True ∧ (G 3 [some (2, 93, 0), some (0, 0, a1), some (0, 0, a2), some (0, 0, a3), some (0, 0, a4 + 1)] [] (ab_ups σ 108 (fw_c b1).toNat (fw_d b0)))) : G 50 [some (2, 93, 0), some (0, 0, a1), some (0, 0, a2), some (0, 0, a3), some (0, 0, a4)] [(1, 0, b0), (0, 0, b1), (2, 108, 0)] σ := fw_on hG [3, 25, 28, 47, 50] 200 h
abbrev fk_m_layBest : List fw_CR := [(374, 3, true, 11, 9, sp_m_layOdds), (378, 1, true, 11, 0, sp_m_highest)]
abbrev st_m_layBest : fw_K → fw_KR → fw_K := fw_st vwCl nn_sh nn_kd fw_kv fw_wc (nn_KI20.map (fun x => x.1)) (nn_KJ20.map (fun x => x.1)) (nn_PF20.map (fun x => x.1)) (nn_PS20.map (fun x => x.1)) fk_m_layBest 10 nn_dt296 13 4
theorem fs_m_layBest_0 {G : fw_K} {R : fw_KR} (hG : fw_cls st_m_layBest R G) {p q c : Int} {σ : ab_SG} (h : sp_m_layOdds [(2, 93, 0), (0, 0, p), (0, 0, q), (0, 0, c)] σ (fun rv σ2 => G 7 [some (2, 93, 0), some (0, 0, p), some (0, 0, q), some (0, 0, c), none, none, none, none, none, none, none, none, none] (rv.toList ++ []) σ2)) : G 0 [some (2, 93, 0), some (0, 0, p), some (0, 0, q), some (0, 0, c), none, none, none, none, none, none, none, none, none] [] σ := fw_on hG [7, 10, 27, 74, 90, 92, 144] 200 h
theorem fs_m_layBest_7 {G : fw_K} {R : fw_KR} (hG : fw_cls st_m_layBest R G) {a3 : Int} {o1 o2 o4 o5 o6 o7 o8 o10 o11 o12 : Option ab_AV} {σ : ab_SG} (h : G 10 [some (2, 93, 0), o1, o2, some (0, 0, a3), some (0, 0, 1), o5, o6, o7, o8, none, o10, o11, o12] [] σ) : G 7 [some (2, 93, 0), o1, o2, some (0, 0, a3), o4, o5, o6, o7, o8, none, o10, o11, o12] [] σ := fw_on hG [7, 10, 27, 74, 90, 92, 144] 200 h
theorem fs_m_layBest_10 {G : fw_K} {R : fw_KR} (hG : fw_cls st_m_layBest R G) {a3 a4 : Int} {o1 o2 o5 o6 o7 o8 o10 o11 o12 : Option ab_AV} {σ : ab_SG} (h : (fw_c 10 < fw_c a4 → R none σ) ∧ (fw_c a4 ≤ fw_c 10 → fw_c 10 ≠ 0 ∧ (G 27 [some (2, 93, 0), o1, o2, some (0, 0, a3), some (0, 0, a4), some (0, 0, fw_op 4 a4 10), some (0, 0, 0), o7, o8, none, o10, o11, o12] [] σ))) : G 10 [some (2, 93, 0), o1, o2, some (0, 0, a3), some (0, 0, a4), o5, o6, o7, o8, none, o10, o11, o12] [] σ := fw_on hG [7, 10, 27, 74, 90, 92, 144] 200 h
theorem fs_m_layBest_27 {G : fw_K} {R : fw_KR} (hG : fw_cls st_m_layBest R G) {a3 a4 a5 a6 : Int} {o1 o2 o7 o8 o10 o11 o12 : Option ab_AV} {σ : ab_SG} (h : (fw_c 2 ≤ fw_c a6 → G 10 [some (2, 93, 0), o1, o2, some (0, 0, a3), some (0, 0, a4 + 1), some (0, 0, a5), some (0, 0, a6), o7, o8, none, o10, o11, o12] [] σ) ∧ (fw_c a6 < fw_c 2 → (fw_c a5 ≠ 0 → (0 ≤ fw_c ((10 - (10 * a6)) + a5) ∧ fw_c ((10 - (10 * a6)) + a5) < ((20 : Nat) : Int)) ∧ (G 74 [some (2, 93, 0), o1, o2, some (0, 0, a3), some (0, 0, a4), some (0, 0, a5), some (0, 0, a6), some (0, 0, (10 * a6) + a5), o8, none, o10, o11, o12] [(1, 0, 2460275073345600 - (σ 108 (fw_c ((10 - (10 * a6)) + a5)).toNat))] σ)) ∧ (fw_c a5 = 0 → G 74 [some (2, 93, 0), o1, o2, some (0, 0, a3), some (0, 0, a4), some (0, 0, a5), some (0, 0, a6), some (0, 0, (10 * a6) + a5), o8, none, o10, o11, o12] [(1, 0, (-1))] σ))) : G 27 [some (2, 93, 0), o1, o2, some (0, 0, a3), some (0, 0, a4), some (0, 0, a5), some (0, 0, a6), o7, o8, none, o10, o11, o12] [] σ := fw_on hG [7, 10, 27, 74, 90, 92, 144] 200 h
theorem fs_m_layBest_74 {G : fw_K} {R : fw_KR} (hG : fw_cls st_m_layBest R G) {a3 a4 a5 a6 a7 b0 : Int} {o1 o2 o8 o10 o11 o12 : Option ab_AV} {σ : ab_SG} (h : (0 ≤ fw_c a7 ∧ fw_c a7 < ((20 : Nat) : Int)) ∧ True ∧ (sp_m_highest [(2, 93, 0), (0, 0, a5)] (ab_ups σ 111 (fw_c a7).toNat (fw_c 0)) (fun rv σ2 => G 90 [some (2, 93, 0), o1, o2, some (0, 0, a3), some (0, 0, a4), some (0, 0, a5), some (0, 0, a6), some (0, 0, a7), some (1, 0, b0), none, o10, o11, o12] (rv.toList ++ []) σ2))) : G 74 [some (2, 93, 0), o1, o2, some (0, 0, a3), some (0, 0, a4), some (0, 0, a5), some (0, 0, a6), some (0, 0, a7), o8, none, o10, o11, o12] [(1, 0, b0)] σ := fw_on hG [7, 10, 27, 74, 90, 92, 144] 200 h
theorem fs_m_layBest_90 {G : fw_K} {R : fw_KR} (hG : fw_cls st_m_layBest R G) {a3 a4 a5 a6 a7 a8 b0 : Int} {o1 o2 o10 o11 o12 : Option ab_AV} {σ : ab_SG} (h : G 92 [some (2, 93, 0), o1, o2, some (0, 0, a3), some (0, 0, a4), some (0, 0, a5), some (0, 0, a6), some (0, 0, a7), some (1, 0, a8), none, some (0, 0, b0), o11, o12] [] σ) : G 90 [some (2, 93, 0), o1, o2, some (0, 0, a3), some (0, 0, a4), some (0, 0, a5), some (0, 0, a6), some (0, 0, a7), some (1, 0, a8), none, o10, o11, o12] [(0, 0, b0)] σ := fw_on hG [7, 10, 27, 74, 90, 92, 144] 200 h
theorem fs_m_layBest_92 {G : fw_K} {R : fw_KR} (hG : fw_cls st_m_layBest R G) {a3 a4 a5 a6 a7 a8 a10 : Int} {o1 o2 o11 o12 : Option ab_AV} {σ : ab_SG} (h : (fw_c a10 < fw_c 1 → (0 ≤ fw_c a7 ∧ fw_c a7 < ((20 : Nat) : Int)) ∧ True ∧ (G 27 [some (2, 93, 0), o1, o2, some (0, 0, a3), some (0, 0, a4), some (0, 0, a5), some (0, 0, a6 + 1), some (0, 0, a7), some (1, 0, a8), none, some (0, 0, a10), o11, o12] [] (ab_ups σ 109 (fw_c a7).toNat (fw_d a8)))) ∧ (fw_c 1 ≤ fw_c a10 → (0 ≤ fw_c ((10 - (10 * a6)) + a10) ∧ fw_c ((10 - (10 * a6)) + a10) < ((20 : Nat) : Int)) ∧ ((fw_d a8 < fw_d (2460275073345600 - (σ 109 (fw_c ((10 - (10 * a6)) + a10)).toNat)) → (0 ≤ fw_c a7 ∧ fw_c a7 < ((20 : Nat) : Int)) ∧ True ∧ (G 144 [some (2, 93, 0), o1, o2, some (0, 0, a3), some (0, 0, a4), some (0, 0, a5), some (0, 0, a6), some (0, 0, a7), some (1, 0, 2460275073345600 - (σ 109 (fw_c ((10 - (10 * a6)) + a10)).toNat)), none, some (0, 0, a10), some (1, 0, 2460275073345600 - (σ 109 (fw_c ((10 - (10 * a6)) + a10)).toNat)), none] [] (ab_ups σ 111 (fw_c a7).toNat (fw_c a10)))) ∧ (fw_d (2460275073345600 - (σ 109 (fw_c ((10 - (10 * a6)) + a10)).toNat)) ≤ fw_d a8 → G 144 [some (2, 93, 0), o1, o2, some (0, 0, a3), some (0, 0, a4), some (0, 0, a5), some (0, 0, a6), some (0, 0, a7), some (1, 0, a8), none, some (0, 0, a10), some (1, 0, 2460275073345600 - (σ 109 (fw_c ((10 - (10 * a6)) + a10)).toNat)), none] [] σ)))) : G 92 [some (2, 93, 0), o1, o2, some (0, 0, a3), some (0, 0, a4), some (0, 0, a5), some (0, 0, a6), some (0, 0, a7), some (1, 0, a8), none, some (0, 0, a10), o11, o12] [] σ := fw_on hG [7, 10, 27, 74, 90, 92, 144] 200 h
theorem fs_m_layBest_144 {G : fw_K} {R : fw_KR} (hG : fw_cls st_m_layBest R G) {a3 a4 a5 a6 a7 a8 a10 : Int} {o1 o2 o11 o12 : Option ab_AV} {σ : ab_SG} (h : G 92 [some (2, 93, 0), o1, o2, some (0, 0, a3), some (0, 0, a4), some (0, 0, a5), some (0, 0, a6), some (0, 0, a7), some (1, 0, a8), none, some (0, 0, a10 + (-1)), o11, o12] [] σ) : G 144 [some (2, 93, 0), o1, o2, some (0, 0, a3), some (0, 0, a4), some (0, 0, a5), some (0, 0, a6), some (0, 0, a7), some (1, 0, a8), none, some (0, 0, a10), o11, o12] [] σ := fw_on hG [7, 10, 27, 74, 90, 92, 144] 200 h
abbrev fk_m_isRound : List fw_CR := [(264, 1, true, 11, 0, sp_m_isClue), (281, 1, true, 11, 0, sp_m_isPerson)]
abbrev st_m_isRound : fw_K → fw_KR → fw_K := fw_st vwCl nn_sh nn_kd fw_kv fw_wc (nn_KI20.map (fun x => x.1)) (nn_KJ20.map (fun x => x.1)) (nn_PF20.map (fun x => x.1)) (nn_PS20.map (fun x => x.1)) fk_m_isRound 1 nn_dt295 4 1
theorem fs_m_isRound_0 {G : fw_K} {R : fw_KR} (hG : fw_cls st_m_isRound R G) {p q c : Int} {σ : ab_SG} (h : sp_m_isPerson [(2, 93, 0), (0, 0, p)] σ (fun rv σ2 => G 5 [some (2, 93, 0), some (0, 0, p), some (0, 0, q), some (0, 0, c)] (rv.toList ++ []) σ2)) : G 0 [some (2, 93, 0), some (0, 0, p), some (0, 0, q), some (0, 0, c)] [] σ := fw_on hG [5, 13, 26] 200 h
theorem fs_m_isRound_5 {G : fw_K} {R : fw_KR} (hG : fw_cls st_m_isRound R G) {a1 a2 a3 b0 : Int} {σ : ab_SG} (h : (fw_c b0 = 0 → (0 ≤ fw_c 0 ∧ fw_c 0 ≤ 1) ∧ R (some (0, 0, 0)) σ) ∧ (fw_c b0 ≠ 0 → sp_m_isPerson [(2, 93, 0), (0, 0, a2)] σ (fun rv σ2 => G 13 [some (2, 93, 0), some (0, 0, a1), some (0, 0, a2), some (0, 0, a3)] (rv.toList ++ []) σ2))) : G 5 [some (2, 93, 0), some (0, 0, a1), some (0, 0, a2), some (0, 0, a3)] [(0, 0, b0)] σ := fw_on hG [5, 13, 26] 200 h
theorem fs_m_isRound_13 {G : fw_K} {R : fw_KR} (hG : fw_cls st_m_isRound R G) {a1 a2 a3 b0 : Int} {σ : ab_SG} (h : (fw_c b0 = 0 → (0 ≤ fw_c 0 ∧ fw_c 0 ≤ 1) ∧ R (some (0, 0, 0)) σ) ∧ (fw_c b0 ≠ 0 → (fw_c a1 = fw_c a2 → (0 ≤ fw_c 0 ∧ fw_c 0 ≤ 1) ∧ R (some (0, 0, 0)) σ) ∧ (fw_c a1 ≠ fw_c a2 → sp_m_isClue [(2, 93, 0), (0, 0, a3)] σ (fun rv σ2 => G 26 [some (2, 93, 0), some (0, 0, a1), some (0, 0, a2), some (0, 0, a3)] (rv.toList ++ []) σ2)))) : G 13 [some (2, 93, 0), some (0, 0, a1), some (0, 0, a2), some (0, 0, a3)] [(0, 0, b0)] σ := fw_on hG [5, 13, 26] 200 h
theorem fs_m_isRound_26 {G : fw_K} {R : fw_KR} (hG : fw_cls st_m_isRound R G) {a1 a2 a3 b0 : Int} {σ : ab_SG} (h : (fw_c b0 = 0 → (0 ≤ fw_c 0 ∧ fw_c 0 ≤ 1) ∧ R (some (0, 0, 0)) σ) ∧ (fw_c b0 ≠ 0 → (0 ≤ fw_c 1 ∧ fw_c 1 ≤ 1) ∧ R (some (0, 0, 1)) σ)) : G 26 [some (2, 93, 0), some (0, 0, a1), some (0, 0, a2), some (0, 0, a3)] [(0, 0, b0)] σ := fw_on hG [5, 13, 26] 200 h
abbrev fk_m_isSpeech : List fw_CR := [(171, 3, false, 0, 0, sp_m_isIn), (381, 3, true, 11, 1, sp_m_isRound)]
abbrev st_m_isSpeech : fw_K → fw_KR → fw_K := fw_st vwCl nn_sh nn_kd fw_kv fw_wc (nn_KI20.map (fun x => x.1)) (nn_KJ20.map (fun x => x.1)) (nn_PF20.map (fun x => x.1)) (nn_PS20.map (fun x => x.1)) fk_m_isSpeech 2 nn_dt294 5 1
theorem fs_m_isSpeech_0 {G : fw_K} {R : fw_KR} (hG : fw_cls st_m_isSpeech R G) {p q n c : Int} {σ : ab_SG} (h : sp_m_isRound [(2, 93, 0), (0, 0, p), (0, 0, q), (0, 0, c)] σ (fun rv σ2 => G 8 [some (2, 93, 0), some (0, 0, p), some (0, 0, q), some (0, 0, n), some (0, 0, c)] (rv.toList ++ []) σ2)) : G 0 [some (2, 93, 0), some (0, 0, p), some (0, 0, q), some (0, 0, n), some (0, 0, c)] [] σ := fw_on hG [8, 18] 200 h
theorem fs_m_isSpeech_8 {G : fw_K} {R : fw_KR} (hG : fw_cls st_m_isSpeech R G) {a1 a2 a3 a4 b0 : Int} {σ : ab_SG} (h : (fw_c b0 = 0 → (0 ≤ fw_c 0 ∧ fw_c 0 ≤ 1) ∧ R (some (0, 0, 0)) σ) ∧ (fw_c b0 ≠ 0 → sp_m_isIn [(0, 0, a3), (0, 0, 0), (0, 0, 9)] σ (fun rv σ2 => G 18 [some (2, 93, 0), some (0, 0, a1), some (0, 0, a2), some (0, 0, a3), some (0, 0, a4)] (rv.toList ++ []) σ2))) : G 8 [some (2, 93, 0), some (0, 0, a1), some (0, 0, a2), some (0, 0, a3), some (0, 0, a4)] [(0, 0, b0)] σ := fw_on hG [8, 18] 200 h
theorem fs_m_isSpeech_18 {G : fw_K} {R : fw_KR} (hG : fw_cls st_m_isSpeech R G) {a1 a2 a3 a4 b0 : Int} {σ : ab_SG} (h : (fw_c b0 = 0 → (0 ≤ fw_c 0 ∧ fw_c 0 ≤ 1) ∧ R (some (0, 0, 0)) σ) ∧ (fw_c b0 ≠ 0 → (0 ≤ fw_c 1 ∧ fw_c 1 ≤ 1) ∧ R (some (0, 0, 1)) σ)) : G 18 [some (2, 93, 0), some (0, 0, a1), some (0, 0, a2), some (0, 0, a3), some (0, 0, a4)] [(0, 0, b0)] σ := fw_on hG [8, 18] 200 h
abbrev fk_m_best : List fw_CR := [(384, 4, true, 11, 2, sp_m_isSpeech), (387, 3, true, 11, 10, sp_m_layBest)]
abbrev st_m_best : fw_K → fw_KR → fw_K := fw_st vwCl nn_sh nn_kd fw_kv fw_wc (nn_KI20.map (fun x => x.1)) (nn_KJ20.map (fun x => x.1)) (nn_PF20.map (fun x => x.1)) (nn_PS20.map (fun x => x.1)) fk_m_best 11 nn_dt293 5 0
theorem fs_m_best_0 {G : fw_K} {R : fw_KR} (hG : fw_cls st_m_best R G) {p q n c : Int} {σ : ab_SG} (h : sp_m_isSpeech [(2, 93, 0), (0, 0, p), (0, 0, q), (0, 0, n), (0, 0, c)] (ab_ups σ 93 0 (fw_c 0)) (fun rv σ2 => G 14 [some (2, 93, 0), some (0, 0, p), some (0, 0, q), some (0, 0, n), some (0, 0, c)] (rv.toList ++ []) σ2)) : G 0 [some (2, 93, 0), some (0, 0, p), some (0, 0, q), some (0, 0, n), some (0, 0, c)] [] σ := fw_on hG [14, 27] 200 h
theorem fs_m_best_14 {G : fw_K} {R : fw_KR} (hG : fw_cls st_m_best R G) {a1 a2 a3 a4 b0 : Int} {σ : ab_SG} (h : (fw_c b0 ≠ 0 → sp_m_layBest [(2, 93, 0), (0, 0, a1), (0, 0, a2), (0, 0, a4)] σ (fun rv σ2 => G 27 [some (2, 93, 0), some (0, 0, a1), some (0, 0, a2), some (0, 0, a3), some (0, 0, a4)] (rv.toList ++ []) σ2)) ∧ (fw_c b0 = 0 → R (some (0, 0, (-1))) σ)) : G 14 [some (2, 93, 0), some (0, 0, a1), some (0, 0, a2), some (0, 0, a3), some (0, 0, a4)] [(0, 0, b0)] σ := fw_on hG [14, 27] 200 h
theorem fs_m_best_27 {G : fw_K} {R : fw_KR} (hG : fw_cls st_m_best R G) {a1 a2 a3 a4 : Int} {σ : ab_SG} (h : (0 ≤ fw_c a3 ∧ fw_c a3 < ((20 : Nat) : Int)) ∧ (R (some (0, 0, σ 111 (fw_c a3).toNat)) σ)) : G 27 [some (2, 93, 0), some (0, 0, a1), some (0, 0, a2), some (0, 0, a3), some (0, 0, a4)] [] σ := fw_on hG [14, 27] 200 h
abbrev fk_m_fair : List fw_CR := [(381, 3, true, 11, 1, sp_m_isRound), (387, 3, true, 11, 10, sp_m_layBest)]
abbrev st_m_fair : fw_K → fw_KR → fw_K := fw_st vwCl nn_sh nn_kd fw_kv fw_wc (nn_KI20.map (fun x => x.1)) (nn_KJ20.map (fun x => x.1)) (nn_PF20.map (fun x => x.1)) (nn_PS20.map (fun x => x.1)) fk_m_fair 11 nn_dt304 8 0
theorem fs_m_fair_0 {G : fw_K} {R : fw_KR} (hG : fw_cls st_m_fair R G) {p q c : Int} {σ : ab_SG} (h : sp_m_isRound [(2, 93, 0), (0, 0, p), (0, 0, q), (0, 0, c)] (ab_ups σ 93 0 (fw_c 0)) (fun rv σ2 => G 12 [some (2, 93, 0), some (0, 0, p), some (0, 0, q), some (0, 0, c), none, none, none, none] (rv.toList ++ []) σ2)) : G 0 [some (2, 93, 0), some (0, 0, p), some (0, 0, q), some (0, 0, c), none, none, none, none] [] σ := fw_on hG [12, 24, 73] 200 h
theorem fs_m_fair_12 {G : fw_K} {R : fw_KR} (hG : fw_cls st_m_fair R G) {a1 a2 a3 b0 : Int} {σ : ab_SG} (h : (fw_c b0 ≠ 0 → sp_m_layBest [(2, 93, 0), (0, 0, a1), (0, 0, a2), (0, 0, a3)] σ (fun rv σ2 => G 24 [some (2, 93, 0), some (0, 0, a1), some (0, 0, a2), some (0, 0, a3), none, none, none, none] (rv.toList ++ []) σ2)) ∧ (fw_c b0 = 0 → R (some (0, 0, (-1))) σ)) : G 12 [some (2, 93, 0), some (0, 0, a1), some (0, 0, a2), some (0, 0, a3), none, none, none, none] [(0, 0, b0)] σ := fw_on hG [12, 24, 73] 200 h
theorem fs_m_fair_24 {G : fw_K} {R : fw_KR} (hG : fw_cls st_m_fair R G) {a1 a2 a3 : Int} {σ : ab_SG} (h : (0 ≤ fw_c 0 ∧ fw_c 0 < ((20 : Nat) : Int)) ∧ ((0 ≤ fw_c 10 ∧ fw_c 10 < ((20 : Nat) : Int)) ∧ ((fw_d (2 * (σ 109 (fw_c 0).toNat)) ≤ fw_d 2460275073345600 → G 73 [some (2, 93, 0), some (0, 0, a1), some (0, 0, a2), some (0, 0, a3), some (1, 0, 2 * (σ 109 (fw_c 0).toNat)), none, some (1, 0, 2 * (2460275073345600 - (σ 109 (fw_c 10).toNat))), none] [] σ) ∧ (fw_d 2460275073345600 < fw_d (2 * (σ 109 (fw_c 0).toNat)) → (fw_d (2 * (2460275073345600 - (σ 109 (fw_c 10).toNat))) ≤ fw_d 2460275073345600 → G 73 [some (2, 93, 0), some (0, 0, a1), some (0, 0, a2), some (0, 0, a3), some (1, 0, 2 * (σ 109 (fw_c 0).toNat)), none, some (1, 0, 2 * (2460275073345600 - (σ 109 (fw_c 10).toNat))), none] [] σ) ∧ (fw_d 2460275073345600 < fw_d (2 * (2460275073345600 - (σ 109 (fw_c 10).toNat))) → R (some (0, 0, 1)) σ))))) : G 24 [some (2, 93, 0), some (0, 0, a1), some (0, 0, a2), some (0, 0, a3), none, none, none, none] [] σ := fw_on hG [12, 24, 73] 200 h
theorem fs_m_fair_73 {G : fw_K} {R : fw_KR} (hG : fw_cls st_m_fair R G) {a1 a2 a3 a4 a6 : Int} {σ : ab_SG} (h : (fw_d 2460275073345600 ≤ fw_d a4 → R (some (0, 0, 0)) σ) ∧ (fw_d a4 < fw_d 2460275073345600 → (fw_d 2460275073345600 ≤ fw_d a6 → R (some (0, 0, 0)) σ) ∧ (fw_d a6 < fw_d 2460275073345600 → R (some (0, 0, (-1))) σ))) : G 73 [some (2, 93, 0), some (0, 0, a1), some (0, 0, a2), some (0, 0, a3), some (1, 0, a4), none, some (1, 0, a6), none] [] σ := fw_on hG [12, 24, 73] 200 h
abbrev fk_m_lowOf : List fw_CR := [(387, 3, true, 11, 10, sp_m_layBest)]
abbrev st_m_lowOf : fw_K → fw_KR → fw_K := fw_st vwCl nn_sh nn_kd fw_kv fw_wc (nn_KI20.map (fun x => x.1)) (nn_KJ20.map (fun x => x.1)) (nn_PF20.map (fun x => x.1)) (nn_PS20.map (fun x => x.1)) fk_m_lowOf 11 nn_dt306 6 0
theorem fs_m_lowOf_0 {G : fw_K} {R : fw_KR} (hG : fw_cls st_m_lowOf R G) {p q c : Int} {σ : ab_SG} (h : sp_m_layBest [(2, 93, 0), (0, 0, p), (0, 0, q), (0, 0, c)] σ (fun rv σ2 => G 7 [some (2, 93, 0), some (0, 0, p), some (0, 0, q), some (0, 0, c), none, none] (rv.toList ++ []) σ2)) : G 0 [some (2, 93, 0), some (0, 0, p), some (0, 0, q), some (0, 0, c), none, none] [] σ := fw_on hG [7, 13] 200 h
theorem fs_m_lowOf_7 {G : fw_K} {R : fw_KR} (hG : fw_cls st_m_lowOf R G) {a1 a2 a3 : Int} {σ : ab_SG} (h : G 13 [some (2, 93, 0), some (0, 0, a1), some (0, 0, a2), some (0, 0, a3), some (0, 0, 0), some (0, 0, 0)] [] σ) : G 7 [some (2, 93, 0), some (0, 0, a1), some (0, 0, a2), some (0, 0, a3), none, none] [] σ := fw_on hG [7, 13] 200 h
theorem fs_m_lowOf_13 {G : fw_K} {R : fw_KR} (hG : fw_cls st_m_lowOf R G) {a1 a2 a3 a4 a5 : Int} {σ : ab_SG} (h : (0 ≤ fw_c ((10 * a5) + a4) ∧ fw_c ((10 * a5) + a4) < ((20 : Nat) : Int)) ∧ ((fw_c (σ 111 (fw_c ((10 * a5) + a4)).toNat) = 0 → R (some (0, 0, a4)) σ) ∧ (fw_c (σ 111 (fw_c ((10 * a5) + a4)).toNat) ≠ 0 → (0 ≤ fw_c ((10 * a5) + a4) ∧ fw_c ((10 * a5) + a4) < ((20 : Nat) : Int)) ∧ (G 13 [some (2, 93, 0), some (0, 0, a1), some (0, 0, a2), some (0, 0, a3), some (0, 0, σ 111 (fw_c ((10 * a5) + a4)).toNat), some (0, 0, 1 - a5)] [] σ)))) : G 13 [some (2, 93, 0), some (0, 0, a1), some (0, 0, a2), some (0, 0, a3), some (0, 0, a4), some (0, 0, a5)] [] σ := fw_on hG [7, 13] 200 h
abbrev fk_m_low : List fw_CR := [(381, 3, true, 11, 1, sp_m_isRound), (398, 3, true, 11, 11, sp_m_lowOf)]
abbrev st_m_low : fw_K → fw_KR → fw_K := fw_st vwCl nn_sh nn_kd fw_kv fw_wc (nn_KI20.map (fun x => x.1)) (nn_KJ20.map (fun x => x.1)) (nn_PF20.map (fun x => x.1)) (nn_PS20.map (fun x => x.1)) fk_m_low 12 nn_dt305 4 0
theorem fs_m_low_0 {G : fw_K} {R : fw_KR} (hG : fw_cls st_m_low R G) {p q c : Int} {σ : ab_SG} (h : sp_m_isRound [(2, 93, 0), (0, 0, p), (0, 0, q), (0, 0, c)] (ab_ups σ 93 0 (fw_c 0)) (fun rv σ2 => G 12 [some (2, 93, 0), some (0, 0, p), some (0, 0, q), some (0, 0, c)] (rv.toList ++ []) σ2)) : G 0 [some (2, 93, 0), some (0, 0, p), some (0, 0, q), some (0, 0, c)] [] σ := fw_on hG [12, 22] 200 h
theorem fs_m_low_12 {G : fw_K} {R : fw_KR} (hG : fw_cls st_m_low R G) {a1 a2 a3 b0 : Int} {σ : ab_SG} (h : (fw_c b0 = 0 → R (some (0, 0, (-1))) σ) ∧ (fw_c b0 ≠ 0 → sp_m_lowOf [(2, 93, 0), (0, 0, a1), (0, 0, a2), (0, 0, a3)] σ (fun rv σ2 => G 22 [some (2, 93, 0), some (0, 0, a1), some (0, 0, a2), some (0, 0, a3)] (rv.toList ++ []) σ2))) : G 12 [some (2, 93, 0), some (0, 0, a1), some (0, 0, a2), some (0, 0, a3)] [(0, 0, b0)] σ := fw_on hG [12, 22] 200 h
theorem fs_m_low_22 {G : fw_K} {R : fw_KR} (hG : fw_cls st_m_low R G) {a1 a2 a3 b0 : Int} {σ : ab_SG} (h : R (some (0, 0, b0)) σ) : G 22 [some (2, 93, 0), some (0, 0, a1), some (0, 0, a2), some (0, 0, a3)] [(0, 0, b0)] σ := fw_on hG [12, 22] 200 h

section
variable {l : Launch} {cy : Nat → ClassId} {ad wr cr : Nat → Nat} {D : va_G}
theorem fm_m_highest (hinj : nn_inj ad) : fw_H l cy ad wr cr D 298 0 sp_m_highest := fw_mk hinj (⟨"NameNotesModel", "highest", "(I)I"⟩, prog_14_method_93_code, 2, (Option.some Jvm.ClassFile.FieldType.int), 1, true, 0) rfl rfl nn_KI20_ok nn_KJ20_ok nn_PF20_ok nn_PS20_ok (by decide +kernel) rfl rfl (fun _ h => absurd h List.not_mem_nil) (fun as σ K h => by
  obtain ⟨n, rfl, hn, h1, h2⟩ := h
  refine ⟨rfl, fun G hG => fs_m_highest_0 hG ?_⟩
  rw [oz_c9 n hn, show fw_c 3 = 3 from fw_s (by decide) (by decide)]
  refine ⟨fun z => ?_, fun z => ⟨by decide, h2 (by omega)⟩⟩
  have k := h1 (by omega)
  rw [show ((n - 1 : Nat) : Int) = (n : Int) - 1 by omega] at k
  exact k)
theorem fm_m_layOdds (hinj : nn_inj ad) : fw_H l cy ad wr cr D 297 9 sp_m_layOdds := fw_mk hinj (⟨"NameNotesModel", "layOdds", "(III)V"⟩, prog_14_method_92_code, 5, (Option.none : Option Jvm.ClassFile.FieldType), 3, true, 4) rfl rfl nn_KI20_ok nn_KJ20_ok nn_PF20_ok nn_PS20_ok (by decide +kernel) rfl rfl (List.forall_mem_cons.mpr ⟨fw_row nn_PM20_ok (x := 303) (k := 0) (mn := 255) (np := 1) (ob := true) (ci := 11) (⟨"NameNotesModel", "left", "(I)I"⟩, prog_14_method_47_code, 2, (Option.some Jvm.ClassFile.FieldType.int), 1, true, 0) rfl (by decide +kernel) rfl rfl (by decide) (fun _ => ⟨_, _, rfl⟩) (fm_m_left hinj), (List.forall_mem_cons.mpr ⟨fw_row nn_PM20_ok (x := 355) (k := 0) (mn := 283) (np := 3) (ob := true) (ci := 11) (⟨"NameNotesModel", "oddsOf", "(III)J"⟩, prog_14_method_79_code, 4, (Option.some Jvm.ClassFile.FieldType.long), 3, true, 2) rfl (by decide +kernel) rfl rfl (by decide) (fun _ => ⟨_, _, rfl⟩) (fm_m_oddsOf hinj), (fun _ h => absurd h List.not_mem_nil)⟩)⟩) (fun as σ K h => by
  obtain ⟨A, p, q, c, rfl, hN, hp, hq, hc, h⟩ := h
  have nn := N_n hN.1
  have c9 : fw_c 9 = 9 := fw_s (by decide) (by decide)
  have cl := oz_clue hN.1 hN.2.1 hc.1 hc.2
  refine ⟨rfl, fun G hG => fs_m_layOdds_0 hG ?_⟩
  have loop : ∀ (f n : Nat) (τ : ab_SG), n + f = 10 → 1 ≤ n → ab_okM dm_H σ τ → (∀ m : Nat, 1 ≤ m → m < n → τ 108 m = 2520 * oz_odds A p (m : Int) (v_set A c) ∧ τ 108 (10 + m) = 2520 * oz_odds A q (m : Int) (v_set A c)) → G 3 [some (2, 93, 0), some (0, 0, (p : Int)), some (0, 0, (q : Int)), some (0, 0, c), some (0, 0, (n : Int))] [] τ := by
    intro f
    induction f with
    | zero =>
      intro n τ hn h0 M I
      refine fs_m_layOdds_3 hG ?_
      rw [c9, fw_s (x := (n : Int)) (by omega) (by omega)]
      refine ⟨fun _ => h τ M (fun i hi hm => ?_), fun z => absurd z (by omega)⟩
      unfold v_ch
      by_cases c : i < 10
      · rw [if_pos c]
        exact (I i (by omega) (by omega)).1
      · rw [if_neg c]
        have e := (I (i - 10) (by omega) (by omega)).2
        rw [show 10 + (i - 10) = i by omega] at e
        exact e
    | succ f ih =>
      intro n τ hn h0 M I
      have cn : fw_c (n : Int) = (n : Int) := fw_s (by omega) (by omega)
      have c10 : fw_c (10 + (n : Int)) = ((10 + n : Nat) : Int) := by
        rw [show 10 + (n : Int) = ((10 + n : Nat) : Int) by omega]
        exact fw_s (by omega) (by omega)
      have Nt := oz_NMM M (by decide +kernel) hN
      have bp := oz_odds_bm Nt hp (n := (n : Int)) cl.1
      have bq := oz_odds_bm Nt hq (n := (n : Int)) cl.1
      refine fs_m_layOdds_3 hG ?_
      rw [c9, cn]
      refine ⟨fun z => absurd z (by omega), fun _ => ⟨A, c, rfl, Nt, by omega, fs_m_layOdds_25 hG ⟨A, p, (n : Int), v_set A c, rfl, Nt, hp, by omega, cl.1, cl.2, fun σ1 M1 => fs_m_layOdds_28 hG ⟨by rw [cn]; omega, trivial, ?_⟩⟩⟩⟩
      rw [cn, Int.toNat_natCast, fw_d_id (x := 2520 * oz_odds A p (n : Int) (v_set A c)) (by omega) (by omega)]
      have Mm : ab_okM dm_H τ (ab_ups σ1 108 n (2520 * oz_odds A p (n : Int) (v_set A c))) := fw_okM_upa (od_up M1 (by decide)) (by decide)
      have m108 : ∀ j : Nat, (ab_ups σ1 108 n (2520 * oz_odds A p (n : Int) (v_set A c))) 108 j = if j = n then 2520 * oz_odds A p (n : Int) (v_set A c) else τ 108 j := fun j => by
        by_cases c : j = n
        · rw [if_pos c, c, ab_ups_eq]
        · rw [if_neg c, ab_ups_ne (fun z => c z.2), dm_108 M1]
      generalize ab_ups σ1 108 n (2520 * oz_odds A p (n : Int) (v_set A c)) = ρ at Mm m108 ⊢
      have Nr := oz_NMM Mm (by decide +kernel) Nt
      refine ⟨A, c, rfl, Nr, by omega, fs_m_layOdds_47 hG ⟨A, q, (n : Int), v_set A c, rfl, Nr, hq, by omega, cl.1, cl.2, fun σ3 M3 => fs_m_layOdds_50 hG ⟨by rw [c10]; omega, trivial, ?_⟩⟩⟩
      rw [c10, Int.toNat_natCast, fw_d_id (x := 2520 * oz_odds A q (n : Int) (v_set A c)) (by omega) (by omega)]
      have k := ih (n + 1) (ab_ups σ3 108 (10 + n) (2520 * oz_odds A q (n : Int) (v_set A c))) (by omega) (by omega) (on_trans M (fw_okM_upa (on_trans Mm (od_up M3 (by decide))) (by decide))) (fun m h1 h2 => by
        rw [ab_ups_ne (b := m) (fun z => by have := z.2; omega), dm_108 M3, m108 m]
        by_cases c : m = n
        · rw [if_pos c, c, ab_ups_eq]
          exact ⟨rfl, rfl⟩
        · rw [if_neg c, ab_ups_ne (fun z => by have := z.2; omega), dm_108 M3, m108, if_neg (by omega)]
          exact I m h1 (by omega))
      rw [show ((n + 1 : Nat) : Int) = (n : Int) + 1 from rfl] at k
      exact k
  exact loop 9 1 σ rfl (Nat.le_refl 1) (fw_okM_refl _ _) (fun m h1 h2 => absurd h1 (by omega)))
theorem fm_m_layBest (hinj : nn_inj ad) : fw_H l cy ad wr cr D 296 10 sp_m_layBest := fw_mk hinj (⟨"NameNotesModel", "layBest", "(III)V"⟩, prog_14_method_94_code, 13, (Option.none : Option Jvm.ClassFile.FieldType), 3, true, 4) rfl rfl nn_KI20_ok nn_KJ20_ok nn_PF20_ok nn_PS20_ok (by decide +kernel) rfl rfl (List.forall_mem_cons.mpr ⟨fw_row nn_PM20_ok (x := 374) (k := 0) (mn := 297) (np := 3) (ob := true) (ci := 11) (⟨"NameNotesModel", "layOdds", "(III)V"⟩, prog_14_method_92_code, 5, (Option.none : Option Jvm.ClassFile.FieldType), 3, true, 4) rfl (by decide +kernel) rfl rfl (by decide) (fun _ => ⟨_, _, rfl⟩) (fm_m_layOdds hinj), (List.forall_mem_cons.mpr ⟨fw_row nn_PM20_ok (x := 378) (k := 0) (mn := 298) (np := 1) (ob := true) (ci := 11) (⟨"NameNotesModel", "highest", "(I)I"⟩, prog_14_method_93_code, 2, (Option.some Jvm.ClassFile.FieldType.int), 1, true, 0) rfl (by decide +kernel) rfl rfl (by decide) (fun _ => ⟨_, _, rfl⟩) (fm_m_highest hinj), (fun _ h => absurd h List.not_mem_nil)⟩)⟩) (fun as σ K h => by
  obtain ⟨A, p, q, c, rfl, hN, h3, hb, h⟩ := h
  have nn := N_n hN.1
  obtain ⟨h1, h2, -, -, h5⟩ := hb
  obtain ⟨p, rfl⟩ := Int.eq_ofNat_of_zero_le h1.1
  obtain ⟨q, rfl⟩ := Int.eq_ofNat_of_zero_le h2.1
  have fb := hN.2.1.2.2.2.2
  obtain ⟨f, ef⟩ := Int.eq_ofNat_of_zero_le (show 0 ≤ A 49 14 by omega)
  have cl := oz_clue hN.1 hN.2.1 h5.1 h5.2
  have hCC := v_chm hN (show p < 5 by omega) (show q < 5 by omega) cl.1
  unfold v_du at h
  rw [ef] at h fb h3
  rw [Int.toNat_natCast, Int.toNat_natCast, Int.toNat_natCast] at h
  obtain ⟨C, eC⟩ : ∃ C : Nat → Int, C = v_ch A p q (v_set A c) := ⟨_, rfl⟩
  rw [← eC] at h hCC
  have c1 : fw_c 1 = 1 := fw_s (by decide) (by decide)
  have c2 : fw_c 2 = 2 := fw_s (by decide) (by decide)
  have c10 : fw_c 10 = 10 := fw_s (by decide) (by decide)
  refine ⟨rfl, fun G hG => fs_m_layBest_0 hG ⟨A, p, q, c, rfl, hN, by omega, by omega, h5, fun σ1 M0 I0 => fs_m_layBest_7 hG ?_⟩⟩
  have side : ∀ (S : Nat → Prop) (st : (Nat → Int) × (Nat → Int)) (sd n m : Nat) (k a : Int) (τ : ab_SG) (o7 o8 o10 o11 o12 : Option ab_AV), a = (sd : Int) → sd < 2 → n < 10 → m < 10 → (n = 0 → 1 ≤ m) → ((n ≠ 0 → m = n - 1) ∧ (n = 0 → τ 95 3 = (m : Int))) → dm_A S τ st → dl_B st → (∀ i : Nat, i < 20 → 1 ≤ i % 10 → τ 108 i = 2520 * C i) → (∀ b : Nat, 1 ≤ b → b ≤ m → S (10 - 10 * sd + b)) →
      (∀ (τ' : ab_SG) (o7 o8 o10 o11 o12 : Option ab_AV), ab_okM dm_B τ τ' → dm_A (fun i => S i ∨ i = 10 * sd + n) τ' (dl_1 C sd n m st) → G 27 [some (2, 93, 0), some (0, 0, (p : Int)), some (0, 0, (q : Int)), some (0, 0, c), some (0, 0, k), some (0, 0, (n : Int)), some (0, 0, a + 1), o7, o8, none, o10, o11, o12] [] τ') →
      G 27 [some (2, 93, 0), some (0, 0, (p : Int)), some (0, 0, (q : Int)), some (0, 0, c), some (0, 0, k), some (0, 0, (n : Int)), some (0, 0, a), o7, o8, none, o10, o11, o12] [] τ := by
    intro S st sd n m k a τ o7 o8 o10 o11 o12 ea hs hn hm hz hg hA hB hC hS kont
    subst ea
    have cell : ∀ b : Nat, 1 ≤ b → b ≤ m → τ 109 (10 - 10 * sd + b) = 2520 * st.1 (10 - 10 * sd + b) := fun b h1 h2 => (hA _ (hS b h1 h2)).1
    have e := dl_rz (C := C) (C' := τ 108) (V := st.1) (V' := τ 109) (side := sd) (n := n) (m := m) hz (fun z => hC _ (by omega) (by omega)) cell (fun b _ _ => (hB _).1)
    have c0 : n ≠ 0 → 0 ≤ C (10 - 10 * sd + n) ∧ C (10 - 10 * sd + n) ≤ 976299632280 := fun z => hCC _ (by omega) (by omega)
    have e108 : n ≠ 0 → τ 108 (10 - 10 * sd + n) = 2520 * C (10 - 10 * sd + n) := fun z => hC _ (by omega) (by omega)
    have vb : ∀ b : Nat, 1 ≤ b → b ≤ m → 0 ≤ τ 109 (10 - 10 * sd + b) ∧ τ 109 (10 - 10 * sd + b) ≤ 2460275073345600 := fun b h1 h2 => by
      have := (hB (10 - 10 * sd + b)).1
      rw [cell b h1 h2]
      omega
    unfold dm_A dl_1 at kont
    generalize dl_r 976299632280 C st.1 sd n m = r at e kont
    unfold dl_r dl_st at e
    obtain ⟨i, ei⟩ : ∃ i : Nat, i = 10 * sd + n := ⟨_, rfl⟩
    obtain ⟨o, eo⟩ : ∃ o : Nat, o = 10 - 10 * sd := ⟨_, rfl⟩
    rw [← ei] at kont
    rw [← eo] at e c0 e108 vb
    clear cell
    obtain ⟨V, eV⟩ : ∃ V : Nat → Int, V = fun b => τ 109 (o + b) := ⟨_, rfl⟩
    have hVb : ∀ b : Nat, τ 109 (o + b) = V b := fun b => by rw [eV]
    rw [← eV] at e
    have ci : fw_c (10 * (sd : Int) + (n : Int)) = (i : Int) := by
      rw [show 10 * (sd : Int) + (n : Int) = (i : Int) by omega]
      exact fw_s (by omega) (by omega)
    have cj : ∀ b : Nat, b < 10 → fw_c ((10 - (10 * (sd : Int))) + (b : Int)) = ((o + b : Nat) : Int) := fun b hb => by
      rw [show (10 - (10 * (sd : Int))) + (b : Int) = ((o + b : Nat) : Int) by omega]
      exact fw_s (by omega) (by omega)
    have loop : ∀ (g b : Nat) (v mv : Int) (τ' : ab_SG) (o11 o12 : Option ab_AV), b = g → b ≤ m → (-1 ≤ v ∧ v ≤ 2460275073345600) → ab_okM dm_B τ τ' → (∀ j : Nat, τ' 109 j = τ 109 j) → (∀ j : Nat, j ≠ i → τ' 111 j = τ 111 j) → τ' 111 i = mv → dl_s 2460275073345600 V b (v, mv) = (2520 * r.1, r.2) → G 92 [some (2, 93, 0), some (0, 0, (p : Int)), some (0, 0, (q : Int)), some (0, 0, c), some (0, 0, k), some (0, 0, (n : Int)), some (0, 0, (sd : Int)), some (0, 0, 10 * (sd : Int) + (n : Int)), some (1, 0, v), none, some (0, 0, (b : Int)), o11, o12] [] τ' := by
      intro g
      induction g with
      | zero =>
        intro b v mv τ' o11 o12 hbg hbm hv M h109 h111 hmv ee
        have cb : fw_c (b : Int) = (b : Int) := oz_c9 b (by omega)
        have e2 : (v, mv) = (2520 * r.1, r.2) := by rw [← ee, hbg]; rfl
        have ev : v = 2520 * r.1 := congrArg Prod.fst e2
        have em : mv = r.2 := congrArg Prod.snd e2
        refine fs_m_layBest_92 hG ?_
        rw [cb, c1]
        refine ⟨fun _ => ⟨by rw [ci]; omega, trivial, ?_⟩, fun z => absurd z (by omega)⟩
        rw [ci, Int.toNat_natCast, fw_d_id (x := v) (by omega) (by omega)]
        refine kont _ _ _ _ _ _ (fw_okM_upa M (by decide)) (fun j hj => ?_)
        show _ = 2520 * dl_put _ _ _ j ∧ _ = dl_put _ _ _ j
        by_cases z : j = i
        · subst z
          rw [ab_ups_eq, ab_ups_ne (fun z => absurd z.1 (by decide)), dl_put_eq, dl_put_eq]
          exact ⟨ev, hmv.trans em⟩
        · have s := hA j (hj.resolve_right z)
          rw [ab_ups_ne (fun y => z y.2), ab_ups_ne (fun z => absurd z.1 (by decide)), dl_put_ne _ _ z, dl_put_ne _ _ z, h109, h111 j z]
          exact s
      | succ g ih =>
        intro b v mv τ' o11 o12 hbg hbm hv M h109 h111 hmv ee
        subst hbg
        have cb : fw_c ((g + 1 : Nat) : Int) = ((g + 1 : Nat) : Int) := oz_c9 (g + 1) (by omega)
        have vb1 := vb (g + 1) (by omega) hbm
        rw [hVb (g + 1)] at vb1
        refine fs_m_layBest_92 hG ?_
        rw [cb, c1]
        refine ⟨fun z => absurd z (by omega), fun _ => ⟨by rw [cj (g + 1) (by omega)]; omega, ?_⟩⟩
        rw [cj (g + 1) (by omega), Int.toNat_natCast, h109, hVb (g + 1), fw_d_id (x := 2460275073345600 - V (g + 1)) (by omega) (by omega), fw_d_id (x := v) (by omega) (by omega)]
        rw [dl_ss] at ee
        refine ⟨fun z => ⟨by rw [ci]; omega, trivial, fs_m_layBest_144 hG ?_⟩, fun z => fs_m_layBest_144 hG ?_⟩
        · rw [if_pos z] at ee
          rw [ci, Int.toNat_natCast]
          have w := ih g (2460275073345600 - V (g + 1)) ((g + 1 : Nat) : Int) (ab_ups τ' 111 i ((g + 1 : Nat) : Int)) (some (1, 0, 2460275073345600 - V (g + 1))) none rfl (by omega) (by omega) (fw_okM_upa M (by decide)) (fun j => by rw [ab_ups_ne (fun z => absurd z.1 (by decide)), h109]) (fun j hj => by rw [ab_ups_ne (fun y => hj y.2), h111 j hj]) ab_ups_eq ee
          rw [show ((g : Nat) : Int) = ((g + 1 : Nat) : Int) + (-1) by omega] at w
          exact w
        · rw [if_neg (by omega)] at ee
          have w := ih g v mv τ' (some (1, 0, 2460275073345600 - V (g + 1))) none rfl (by omega) hv M h109 h111 hmv ee
          rw [show ((g : Nat) : Int) = ((g + 1 : Nat) : Int) + (-1) by omega] at w
          exact w
    have at74 : ∀ (v : Int) (o8 o10 o11 o12 : Option ab_AV), (-1 ≤ v ∧ v ≤ 2460275073345600) → dl_s 2460275073345600 V m (v, 0) = (2520 * r.1, r.2) → G 74 [some (2, 93, 0), some (0, 0, (p : Int)), some (0, 0, (q : Int)), some (0, 0, c), some (0, 0, k), some (0, 0, (n : Int)), some (0, 0, (sd : Int)), some (0, 0, 10 * (sd : Int) + (n : Int)), o8, none, o10, o11, o12] [(1, 0, v)] τ := by
      intro v o8 o10 o11 o12 hv ee
      refine fs_m_layBest_74 hG ⟨by rw [ci]; omega, trivial, ?_⟩
      rw [ci, Int.toNat_natCast, fw_c0]
      have go : ∀ (w : Int) (o10 : Option ab_AV), w = (m : Int) → G 90 [some (2, 93, 0), some (0, 0, (p : Int)), some (0, 0, (q : Int)), some (0, 0, c), some (0, 0, k), some (0, 0, (n : Int)), some (0, 0, (sd : Int)), some (0, 0, 10 * (sd : Int) + (n : Int)), some (1, 0, v), none, o10, o11, o12] [(0, 0, w)] (ab_ups τ 111 i 0) := by
        intro w o10 ew
        subst ew
        exact fs_m_layBest_90 hG (loop m m v 0 _ _ _ rfl (Nat.le_refl m) hv (fw_okM_upa (fw_okM_refl _ _) (by decide)) (fun j => ab_ups_ne (fun z => absurd z.1 (by decide))) (fun j hj => ab_ups_ne (fun z => hj z.2)) ab_ups_eq ee)
      refine ⟨n, rfl, hn, fun z => go _ _ (by rw [hg.1 z]), fun z => go _ _ ?_⟩
      rw [ab_ups_ne (fun z => absurd z.1 (by decide))]
      exact hg.2 z
    refine fs_m_layBest_27 hG ?_
    rw [c2, oz_c9 sd (by omega), oz_c9 n hn]
    refine ⟨fun z => absurd z (by omega), fun _ => ⟨fun z => ⟨by rw [cj n hn]; omega, ?_⟩, fun z => ?_⟩⟩
    · rw [cj n hn, Int.toNat_natCast]
      have a1 := c0 (by omega)
      have a2 := e108 (by omega)
      rw [if_neg (show ¬ n = 0 by omega)] at e
      exact at74 _ _ _ _ _ (by omega) e
    · rw [if_pos (show n = 0 by omega)] at e
      exact at74 _ _ _ _ _ (by decide) e
  have e95 : ∀ τ : ab_SG, ab_okM dm_B σ1 τ → τ 95 3 = (f : Int) := fun τ M => by
    rw [dm_k (by decide) M 3, M0 95 3 (fun q hq hh => by
      have : ∀ q ∈ dm_H, q.1 ≠ 95 := by decide
      exact this q hq hh.1)]
    exact h3
  have e108 : ∀ τ : ab_SG, ab_okM dm_B σ1 τ → ∀ i : Nat, i < 20 → 1 ≤ i % 10 → τ 108 i = 2520 * C i := fun τ M i hi hm => by
    rw [dm_k (by decide) M i, eC]
    exact I0 i hi hm
  have loop : ∀ (g k : Nat) (τ : ab_SG) (o5 o6 o7 o8 o10 o11 o12 : Option ab_AV), k + g = 9 → ab_okM dm_B σ1 τ → dm_A (fun i => i < 20 ∧ 1 ≤ i % 10 ∧ i % 10 ≤ k) τ (dl_n C f k) → G 10 [some (2, 93, 0), some (0, 0, (p : Int)), some (0, 0, (q : Int)), some (0, 0, c), some (0, 0, ((k + 1 : Nat) : Int)), o5, o6, o7, o8, none, o10, o11, o12] [] τ := by
    intro g
    induction g with
    | zero =>
      intro k τ o5 o6 o7 o8 o10 o11 o12 hk M I
      have ek : k = 9 := by omega
      subst ek
      refine fs_m_layBest_10 hG ?_
      rw [c10, fw_s (x := ((9 + 1 : Nat) : Int)) (by decide) (by decide), dm_op (9 + 1) (by decide)]
      refine ⟨fun z => absurd z (by decide), fun _ => ⟨by decide, ?_⟩⟩
      refine side _ _ 0 0 f _ 0 τ _ _ _ _ _ rfl (by decide) (by decide) (by omega) (fun _ => fb.1 |> fun w => by omega) ⟨fun z => absurd rfl z, fun _ => e95 τ M⟩ I (dl_nb hCC (by omega) 9) (e108 τ M) (fun b h1 h2 => by show _ ∧ _ ∧ _; omega) (fun τ1 o7 o8 o10 o11 o12 M1 A1 => ?_)
      have Ma := on_trans M M1
      refine side _ _ 1 0 f _ _ τ1 _ _ _ _ _ rfl (by decide) (by decide) (by omega) (fun _ => by omega) ⟨fun z => absurd rfl z, fun _ => e95 τ1 Ma⟩ A1 (dl_1b (dl_nb hCC (by omega) 9) hCC (by decide) (by decide) (by omega) (fun _ => by omega) (fun z => absurd rfl z)) (e108 τ1 Ma) (fun b h1 h2 => Or.inl (by show _ ∧ _ ∧ _; omega)) (fun τ2 o7 o8 o10 o11 o12 M2 A2 => ?_)
      refine fs_m_layBest_27 hG ?_
      rw [c2, fw_s (x := (0 + 1 + 1 : Int)) (by decide) (by decide)]
      refine ⟨fun _ => fs_m_layBest_10 hG ?_, fun z => absurd z (by decide)⟩
      rw [c10, fw_s (x := ((9 + 1 : Nat) : Int) + 1) (by decide) (by decide)]
      refine ⟨fun _ => h τ2 (on_trans (od_up M0 (by decide)) (od_up (on_trans Ma M2) (by decide))) (fun i hi => ?_), fun z => absurd z (by decide)⟩
      have w := A2 i (by show (_ ∨ _) ∨ _; omega)
      rw [show (10 : Nat) = 9 + 1 from rfl, dl_nt]
      exact w
    | succ g ih =>
      intro k τ o5 o6 o7 o8 o10 o11 o12 hk M I
      refine fs_m_layBest_10 hG ?_
      rw [c10, oz_c9 (k + 1) (by omega), dm_op (k + 1) (by omega), Nat.mod_eq_of_lt (show k + 1 < 10 by omega)]
      refine ⟨fun z => absurd z (by omega), fun _ => ⟨by decide, ?_⟩⟩
      refine side _ _ 0 (k + 1) k _ 0 τ _ _ _ _ _ rfl (by decide) (by omega) (by omega) (fun z => absurd z (Nat.succ_ne_zero k)) ⟨fun _ => rfl, fun z => absurd z (Nat.succ_ne_zero k)⟩ I (dl_nb hCC (by omega) k) (e108 τ M) (fun b h1 h2 => by show _ ∧ _ ∧ _; omega) (fun τ1 o7 o8 o10 o11 o12 M1 A1 => ?_)
      have Ma := on_trans M M1
      refine side _ _ 1 (k + 1) k _ _ τ1 _ _ _ _ _ rfl (by decide) (by omega) (by omega) (fun z => absurd z (Nat.succ_ne_zero k)) ⟨fun _ => rfl, fun z => absurd z (Nat.succ_ne_zero k)⟩ A1 (dl_1b (dl_nb hCC (by omega) k) hCC (by decide) (by omega) (by omega) (fun z => absurd z (Nat.succ_ne_zero k)) (fun _ => Nat.le_refl _)) (e108 τ1 Ma) (fun b h1 h2 => Or.inl (by show _ ∧ _ ∧ _; omega)) (fun τ2 o7 o8 o10 o11 o12 M2 A2 => ?_)
      refine fs_m_layBest_27 hG ?_
      rw [c2, fw_s (x := (0 + 1 + 1 : Int)) (by decide) (by decide)]
      refine ⟨fun _ => ?_, fun z => absurd z (by decide)⟩
      have w := ih (k + 1) τ2 (some (0, 0, ((k + 1 : Nat) : Int))) (some (0, 0, 0 + 1 + 1)) o7 o8 o10 o11 o12 (by omega) (on_trans Ma M2) (fun i hi => by
        rw [dl_nn _ _ (by omega)]
        exact A2 i (by have := hi.1; have := hi.2.1; have := hi.2.2; show (_ ∨ _) ∨ _; omega))
      rw [show ((k + 1 + 1 : Nat) : Int) = ((k + 1 : Nat) : Int) + 1 from rfl] at w
      exact w
  exact loop 9 0 σ1 _ _ _ _ _ _ _ rfl (fw_okM_refl _ _) (fun i hi => absurd hi.2.1 (by have := hi.2.2; omega)))
theorem fm_m_isRound (hinj : nn_inj ad) : fw_H l cy ad wr cr D 295 1 sp_m_isRound := fw_mk hinj (⟨"NameNotesModel", "isRound", "(III)Z"⟩, prog_14_method_91_code, 4, (Option.some Jvm.ClassFile.FieldType.boolean), 3, true, 1) rfl rfl nn_KI20_ok nn_KJ20_ok nn_PF20_ok nn_PS20_ok (by decide +kernel) rfl rfl (List.forall_mem_cons.mpr ⟨fw_row nn_PM20_ok (x := 264) (k := 0) (mn := 247) (np := 1) (ob := true) (ci := 11) (⟨"NameNotesModel", "isClue", "(I)Z"⟩, prog_14_method_43_code, 2, (Option.some Jvm.ClassFile.FieldType.boolean), 1, true, 1) rfl (by decide +kernel) rfl rfl (by decide) (fun _ => ⟨_, _, rfl⟩) (fm_m_isClue hinj), (List.forall_mem_cons.mpr ⟨fw_row nn_PM20_ok (x := 281) (k := 0) (mn := 249) (np := 1) (ob := true) (ci := 11) (⟨"NameNotesModel", "isPerson", "(I)Z"⟩, prog_14_method_44_code, 2, (Option.some Jvm.ClassFile.FieldType.boolean), 1, true, 1) rfl (by decide +kernel) rfl rfl (by decide) (fun _ => ⟨_, _, rfl⟩) (fm_m_isPerson hinj), (fun _ h => absurd h List.not_mem_nil)⟩)⟩) (fun as σ K h => by
  obtain ⟨A, p, q, c, rfl, ⟨ep, eq, ec⟩, hN, h⟩ := h
  have no : ¬ v_bd A p q 0 c → (0 ≤ fw_c 0 ∧ fw_c 0 ≤ 1) ∧ K (some (0, 0, 0)) σ := fun z => ⟨fw_01, by rw [fw_bo_f z] at h; exact h⟩
  refine ⟨rfl, fun G hG => fs_m_isRound_0 hG ⟨p, rfl, fs_m_isRound_5 hG ?_⟩⟩
  rw [oz_m_pe hN ep]
  refine ⟨fun z => no (fun w => fw_bo_eq z w.1), fun z1 => ⟨q, rfl, fs_m_isRound_13 hG ?_⟩⟩
  rw [oz_m_pe hN eq]
  refine ⟨fun z => no (fun w => fw_bo_eq z w.2.1), fun z2 => ⟨fun z => no (fun w => w.2.2.1 (by rw [ep, eq] at z; exact z)), fun z3 => ⟨A, c, rfl, ec, hN, fs_m_isRound_26 hG ⟨fun z => no (fun w => fw_bo_eq z w.2.2.2.2), fun z4 => ⟨by rw [fw_c1]; decide, ?_⟩⟩⟩⟩⟩
  rw [ep, eq] at z3
  rw [fw_bo_t ⟨fw_bo_ne z1, fw_bo_ne z2, z3, by decide, fw_bo_ne z4⟩] at h
  exact h)
theorem fm_m_isSpeech (hinj : nn_inj ad) : fw_H l cy ad wr cr D 294 2 sp_m_isSpeech := fw_mk hinj (⟨"NameNotesModel", "isSpeech", "(IIII)Z"⟩, prog_14_method_95_code, 5, (Option.some Jvm.ClassFile.FieldType.boolean), 4, true, 1) rfl rfl nn_KI20_ok nn_KJ20_ok nn_PF20_ok nn_PS20_ok (by decide +kernel) rfl rfl (List.forall_mem_cons.mpr ⟨fw_row nn_PM20_ok (x := 171) (k := 0) (mn := 226) (np := 3) (ob := false) (ci := 0) (⟨"NameNotesModel", "isIn", "(III)Z"⟩, prog_14_method_8_code, 3, (Option.some Jvm.ClassFile.FieldType.boolean), 3, false, 1) rfl (by decide +kernel) rfl rfl (by decide) (fun q => by cases q) (fm_m_isIn hinj), (List.forall_mem_cons.mpr ⟨fw_row nn_PM20_ok (x := 381) (k := 0) (mn := 295) (np := 3) (ob := true) (ci := 11) (⟨"NameNotesModel", "isRound", "(III)Z"⟩, prog_14_method_91_code, 4, (Option.some Jvm.ClassFile.FieldType.boolean), 3, true, 1) rfl (by decide +kernel) rfl rfl (by decide) (fun _ => ⟨_, _, rfl⟩) (fm_m_isRound hinj), (fun _ h => absurd h List.not_mem_nil)⟩)⟩) (fun as σ K h => by
  obtain ⟨A, p, q, n, c, rfl, ⟨ep, eq, en, ec⟩, hN, h⟩ := h
  have c9 : fw_c 9 = 9 := fw_s (by decide) (by decide)
  have no : ¬ v_bd A p q n c → (0 ≤ fw_c 0 ∧ fw_c 0 ≤ 1) ∧ K (some (0, 0, 0)) σ := fun z => ⟨fw_01, by rw [fw_bo_f z] at h; exact h⟩
  refine ⟨rfl, fun G hG => fs_m_isSpeech_0 hG ⟨A, p, q, c, rfl, ⟨ep, eq, ec⟩, hN, fs_m_isSpeech_8 hG ⟨fun z => no (fun w => fw_bo_eq z ⟨w.1, w.2.1, w.2.2.1, by decide, w.2.2.2.2⟩), fun z1 => ⟨n, 0, 9, rfl, fs_m_isSpeech_18 hG ?_⟩⟩⟩⟩
  rw [en, fw_c0, c9]
  have b := fw_bo_ne z1
  refine ⟨fun z => ⟨by decide, (no (fun w => fw_bo_eq z w.2.2.2.1)).2⟩, fun z => ⟨by rw [fw_c1]; decide, ?_⟩⟩
  rw [fw_bo_t ⟨b.1, b.2.1, b.2.2.1, fw_bo_ne z, b.2.2.2.2⟩] at h
  exact h)
theorem fm_m_best (hinj : nn_inj ad) : fw_H l cy ad wr cr D 293 11 sp_m_best := fw_mk hinj (⟨"NameNotesModel", "best", "(IIII)I"⟩, prog_14_method_96_code, 5, (Option.some Jvm.ClassFile.FieldType.int), 4, true, 0) rfl rfl nn_KI20_ok nn_KJ20_ok nn_PF20_ok nn_PS20_ok (by decide +kernel) rfl rfl (List.forall_mem_cons.mpr ⟨fw_row nn_PM20_ok (x := 384) (k := 0) (mn := 294) (np := 4) (ob := true) (ci := 11) (⟨"NameNotesModel", "isSpeech", "(IIII)Z"⟩, prog_14_method_95_code, 5, (Option.some Jvm.ClassFile.FieldType.boolean), 4, true, 1) rfl (by decide +kernel) rfl rfl (by decide) (fun _ => ⟨_, _, rfl⟩) (fm_m_isSpeech hinj), (List.forall_mem_cons.mpr ⟨fw_row nn_PM20_ok (x := 387) (k := 0) (mn := 296) (np := 3) (ob := true) (ci := 11) (⟨"NameNotesModel", "layBest", "(III)V"⟩, prog_14_method_94_code, 13, (Option.none : Option Jvm.ClassFile.FieldType), 3, true, 4) rfl (by decide +kernel) rfl rfl (by decide) (fun _ => ⟨_, _, rfl⟩) (fm_m_layBest hinj), (fun _ h => absurd h List.not_mem_nil)⟩)⟩) (fun as σ0 K h => by
  obtain ⟨A, p, q, n, c, rfl, ee, hN0, h30, h⟩ := h
  refine ⟨rfl, fun G hG => fs_m_best_0 hG ?_⟩
  rw [fw_c0]
  have hN : NM (ab_ups σ0 93 0 0) A := oz_NMM (dm_93 σ0) (by decide +kernel) hN0
  have h3 : 0 < A 49 13 → (ab_ups σ0 93 0 0) 95 3 = A 49 14 := fun z => by rw [ab_ups_ne (fun z => absurd z.1 (by decide))]; exact h30 z
  have h : ∀ σ' : ab_SG, ab_okM dm_N (ab_ups σ0 93 0 0) σ' → K (some (0, 0, v_best A p q n c)) σ' := fun σ' M => h σ' (on_trans (dm_93 σ0) M)
  generalize ab_ups σ0 93 0 0 = σ at hN h3 h ⊢
  unfold v_best at h
  refine ⟨A, p, q, n, c, rfl, ee, hN, fs_m_best_14 hG ⟨fun z => ?_, fun z => ?_⟩⟩
  · have hb := fw_bo_ne z
    have hn := hb.2.2.2.1
    rw [if_pos hb] at h
    refine ⟨A, p, q, c, rfl, hN, h3 (by have := hb.1; omega), ⟨hb.1, hb.2.1, hb.2.2.1, by decide, hb.2.2.2.2⟩, fun σ1 M1 I1 => fs_m_best_27 hG ?_⟩
    rw [ee.2.2.1]
    refine ⟨by omega, ?_⟩
    rw [(I1 n.toNat (by omega)).2]
    exact h σ1 (od_up M1 (by decide))
  · rw [if_neg (fw_bo_eq z)] at h
    exact h σ (fw_okM_refl _ _))
theorem fm_m_fair (hinj : nn_inj ad) : fw_H l cy ad wr cr D 304 11 sp_m_fair := fw_mk hinj (⟨"NameNotesModel", "fair", "(III)I"⟩, prog_14_method_102_code, 8, (Option.some Jvm.ClassFile.FieldType.int), 3, true, 0) rfl rfl nn_KI20_ok nn_KJ20_ok nn_PF20_ok nn_PS20_ok (by decide +kernel) rfl rfl (List.forall_mem_cons.mpr ⟨fw_row nn_PM20_ok (x := 381) (k := 0) (mn := 295) (np := 3) (ob := true) (ci := 11) (⟨"NameNotesModel", "isRound", "(III)Z"⟩, prog_14_method_91_code, 4, (Option.some Jvm.ClassFile.FieldType.boolean), 3, true, 1) rfl (by decide +kernel) rfl rfl (by decide) (fun _ => ⟨_, _, rfl⟩) (fm_m_isRound hinj), (List.forall_mem_cons.mpr ⟨fw_row nn_PM20_ok (x := 387) (k := 0) (mn := 296) (np := 3) (ob := true) (ci := 11) (⟨"NameNotesModel", "layBest", "(III)V"⟩, prog_14_method_94_code, 13, (Option.none : Option Jvm.ClassFile.FieldType), 3, true, 4) rfl (by decide +kernel) rfl rfl (by decide) (fun _ => ⟨_, _, rfl⟩) (fm_m_layBest hinj), (fun _ h => absurd h List.not_mem_nil)⟩)⟩) (fun as σ0 K h => by
  obtain ⟨A, p, q, c, rfl, ee, hN0, h30, h⟩ := h
  have d1 : fw_d 2460275073345600 = 2460275073345600 := fw_d_id (by decide) (by decide)
  have c10 : fw_c 10 = 10 := fw_s (by decide) (by decide)
  refine ⟨rfl, fun G hG => fs_m_fair_0 hG ?_⟩
  rw [fw_c0]
  have hN : NM (ab_ups σ0 93 0 0) A := oz_NMM (dm_93 σ0) (by decide +kernel) hN0
  have h3 : 0 < A 49 13 → (ab_ups σ0 93 0 0) 95 3 = A 49 14 := fun z => by rw [ab_ups_ne (fun z => absurd z.1 (by decide))]; exact h30 z
  have h : ∀ σ' : ab_SG, ab_okM dm_N (ab_ups σ0 93 0 0) σ' → K (some (0, 0, v_fair A p q c)) σ' := fun σ' M => h σ' (on_trans (dm_93 σ0) M)
  generalize ab_ups σ0 93 0 0 = σ at hN h3 h ⊢
  unfold v_fair v_fairV at h
  refine ⟨A, p, q, c, rfl, ee, hN, fs_m_fair_12 hG ⟨fun z => ?_, fun z => ?_⟩⟩
  · have hb := fw_bo_ne z
    have B := dm_B20 hN hb
    have b0 := (B 0).1
    have b1 := (B 10).1
    rw [if_pos hb] at h
    refine ⟨A, p, q, c, rfl, hN, h3 (by have := hb.1; omega), hb, fun σ1 M1 I1 => fs_m_fair_24 hG ?_⟩
    have k := h σ1 (od_up M1 (by decide))
    rw [fw_c0, c10, show (0 : Int).toNat = 0 from rfl, show (10 : Int).toNat = 10 from rfl, (I1 0 (by decide)).1, (I1 10 (by decide)).1]
    generalize (v_du A p q c).1 0 = a at b0 k ⊢
    generalize (v_du A p q c).1 10 = b at b1 k ⊢
    have f73 : ¬ (976299632280 < 2 * a ∧ 976299632280 < 2 * (976299632280 - b)) → G 73 [some (2, 93, 0), some (0, 0, p), some (0, 0, q), some (0, 0, c), some (1, 0, 2 * (2520 * a)), none, some (1, 0, 2 * (2460275073345600 - 2520 * b)), none] [] σ1 := fun no => by
      rw [if_neg no] at k
      refine fs_m_fair_73 hG ?_
      rw [d1, fw_d_id (x := 2 * (2520 * a)) (by omega) (by omega), fw_d_id (x := 2 * (2460275073345600 - 2520 * b)) (by omega) (by omega)]
      refine ⟨fun y => ?_, fun y => ⟨fun y2 => ?_, fun y2 => ?_⟩⟩
      · rw [if_neg (by omega)] at k; exact k
      · rw [if_neg (by omega)] at k; exact k
      · rw [if_pos (by omega)] at k; exact k
    refine ⟨by decide, by decide, ?_⟩
    rw [d1, fw_d_id (x := 2 * (2520 * a)) (by omega) (by omega), fw_d_id (x := 2 * (2460275073345600 - 2520 * b)) (by omega) (by omega)]
    refine ⟨fun y => f73 (by omega), fun y => ⟨fun y2 => f73 (by omega), fun y2 => ?_⟩⟩
    rw [if_pos (by omega)] at k
    exact k
  · rw [if_neg (fw_bo_eq z)] at h
    exact h σ (fw_okM_refl _ _))
theorem fm_m_lowOf (hinj : nn_inj ad) : fw_H l cy ad wr cr D 306 11 sp_m_lowOf := fw_mk hinj (⟨"NameNotesModel", "lowOf", "(III)I"⟩, prog_14_method_103_code, 6, (Option.some Jvm.ClassFile.FieldType.int), 3, true, 0) rfl rfl nn_KI20_ok nn_KJ20_ok nn_PF20_ok nn_PS20_ok (by decide +kernel) rfl rfl (List.forall_mem_cons.mpr ⟨fw_row nn_PM20_ok (x := 387) (k := 0) (mn := 296) (np := 3) (ob := true) (ci := 11) (⟨"NameNotesModel", "layBest", "(III)V"⟩, prog_14_method_94_code, 13, (Option.none : Option Jvm.ClassFile.FieldType), 3, true, 4) rfl (by decide +kernel) rfl rfl (by decide) (fun _ => ⟨_, _, rfl⟩) (fm_m_layBest hinj), (fun _ h => absurd h List.not_mem_nil)⟩) (fun as σ K h => by
  obtain ⟨A, p, q, c, rfl, hN, h3, hb, h⟩ := h
  have B := dm_B20 hN hb
  refine ⟨rfl, fun G hG => fs_m_lowOf_0 hG ⟨A, p, q, c, rfl, hN, h3, hb, fun σ1 M1 I1 => fs_m_lowOf_7 hG ?_⟩⟩
  have k := h σ1 M1
  have loop : ∀ (f side last : Nat), side < 2 → last < 10 → (v_du A p q c).2 (10 * side + last) ≤ (f : Int) → lo_f (v_du A p q c).2 (f + 1) side last = lo_f (v_du A p q c).2 10 0 0 → G 13 [some (2, 93, 0), some (0, 0, p), some (0, 0, q), some (0, 0, c), some (0, 0, (last : Int)), some (0, 0, (side : Int))] [] σ1 := by
    intro f
    induction f with
    | zero =>
      intro side last hs hl hm e
      have b := (B (10 * side + last)).2.1
      have ci : fw_c (10 * (side : Int) + (last : Int)) = ((10 * side + last : Nat) : Int) := by
        rw [show 10 * (side : Int) + (last : Int) = ((10 * side + last : Nat) : Int) by omega]
        exact fw_s (by omega) (by omega)
      refine fs_m_lowOf_13 hG ?_
      rw [ci, Int.toNat_natCast, (I1 (10 * side + last) (by omega)).2, fw_s (x := (v_du A p q c).2 (10 * side + last)) (by omega) (by omega)]
      refine ⟨by omega, fun z => ?_, fun z => absurd z (by omega)⟩
      rw [lo_s, if_pos z] at e
      rw [← e] at k
      exact k
    | succ f ih =>
      intro side last hs hl hm e
      have b := (B (10 * side + last)).2.1
      have ci : fw_c (10 * (side : Int) + (last : Int)) = ((10 * side + last : Nat) : Int) := by
        rw [show 10 * (side : Int) + (last : Int) = ((10 * side + last : Nat) : Int) by omega]
        exact fw_s (by omega) (by omega)
      refine fs_m_lowOf_13 hG ?_
      rw [ci, Int.toNat_natCast, (I1 (10 * side + last) (by omega)).2, fw_s (x := (v_du A p q c).2 (10 * side + last)) (by omega) (by omega)]
      refine ⟨by omega, fun z => ?_, fun z => ⟨by omega, ?_⟩⟩
      · rw [lo_s, if_pos z] at e
        rw [← e] at k
        exact k
      · rw [lo_s, if_neg z] at e
        obtain ⟨j, ej⟩ := Int.eq_ofNat_of_zero_le b.1
        rw [ej] at z e hm b ⊢
        rw [Int.toNat_natCast] at e
        have b2 := (B (10 * (1 - side) + j)).2
        have g := ih (1 - side) j (by omega) (by omega) (by have := b2.2 (by omega); omega) e
        rw [show ((1 - side : Nat) : Int) = 1 - (side : Int) by omega] at g
        exact g
  exact loop 9 0 0 (by decide) (by decide) (B 0).2.1.2 rfl)
theorem fm_m_low (hinj : nn_inj ad) : fw_H l cy ad wr cr D 305 12 sp_m_low := fw_mk hinj (⟨"NameNotesModel", "low", "(III)I"⟩, prog_14_method_104_code, 4, (Option.some Jvm.ClassFile.FieldType.int), 3, true, 0) rfl rfl nn_KI20_ok nn_KJ20_ok nn_PF20_ok nn_PS20_ok (by decide +kernel) rfl rfl (List.forall_mem_cons.mpr ⟨fw_row nn_PM20_ok (x := 381) (k := 0) (mn := 295) (np := 3) (ob := true) (ci := 11) (⟨"NameNotesModel", "isRound", "(III)Z"⟩, prog_14_method_91_code, 4, (Option.some Jvm.ClassFile.FieldType.boolean), 3, true, 1) rfl (by decide +kernel) rfl rfl (by decide) (fun _ => ⟨_, _, rfl⟩) (fm_m_isRound hinj), (List.forall_mem_cons.mpr ⟨fw_row nn_PM20_ok (x := 398) (k := 0) (mn := 306) (np := 3) (ob := true) (ci := 11) (⟨"NameNotesModel", "lowOf", "(III)I"⟩, prog_14_method_103_code, 6, (Option.some Jvm.ClassFile.FieldType.int), 3, true, 0) rfl (by decide +kernel) rfl rfl (by decide) (fun _ => ⟨_, _, rfl⟩) (fm_m_lowOf hinj), (fun _ h => absurd h List.not_mem_nil)⟩)⟩) (fun as σ0 K h => by
  obtain ⟨A, p, q, c, rfl, ee, hN0, h30, h⟩ := h
  refine ⟨rfl, fun G hG => fs_m_low_0 hG ?_⟩
  rw [fw_c0]
  have hN : NM (ab_ups σ0 93 0 0) A := oz_NMM (dm_93 σ0) (by decide +kernel) hN0
  have h3 : 0 < A 49 13 → (ab_ups σ0 93 0 0) 95 3 = A 49 14 := fun z => by rw [ab_ups_ne (fun z => absurd z.1 (by decide))]; exact h30 z
  have h : ∀ σ' : ab_SG, ab_okM dm_N (ab_ups σ0 93 0 0) σ' → K (some (0, 0, v_low A p q c)) σ' := fun σ' M => h σ' (on_trans (dm_93 σ0) M)
  generalize ab_ups σ0 93 0 0 = σ at hN h3 h ⊢
  unfold v_low at h
  refine ⟨A, p, q, c, rfl, ee, hN, fs_m_low_12 hG ⟨fun z => ?_, fun z => ?_⟩⟩
  · rw [if_neg (fw_bo_eq z)] at h
    exact h σ (fw_okM_refl _ _)
  · have hb := fw_bo_ne z
    rw [if_pos hb] at h
    exact ⟨A, p, q, c, rfl, hN, h3 (by have := hb.1; omega), hb, fun σ1 M1 => fs_m_low_22 hG (h σ1 (od_up M1 (by decide)))⟩)
end
end
section
/-! the clue with the lowest last bid; the closest one -/
theorem lo_b {M : Nat → Int} (hB : ∀ i : Nat, i < 20 → 0 ≤ M i ∧ M i ≤ 9) : ∀ (f side last : Nat), side < 2 → last < 10 → 0 ≤ lo_f M f side last ∧ lo_f M f side last ≤ 9
  | 0, _, last, _, hl => by show 0 ≤ (last : Int) ∧ (last : Int) ≤ 9; omega
  | f + 1, side, last, hs, hl => by
    have b := hB (10 * side + last) (by omega)
    rw [lo_s]
    split
    · omega
    · exact lo_b hB f (1 - side) _ (by omega) (by omega)
theorem v_low_b {A : ab_SG} {p q c : Int} (hB : v_bd A p q 0 c → dl_B (v_du A p q c)) : -1 ≤ v_low A p q c ∧ v_low A p q c ≤ 9 ∧ (v_bd A p q 0 c → 0 ≤ v_low A p q c) ∧ (¬ v_bd A p q 0 c → v_low A p q c = -1) := by
  unfold v_low
  by_cases h : v_bd A p q 0 c
  · have b := lo_b (M := (v_du A p q c).2) (fun i _ => (hB h i).2.1) 10 0 0 (by decide) (by decide)
    rw [if_pos h]
    exact ⟨by omega, b.2, fun _ => b.1, fun z => absurd h z⟩
  · rw [if_neg h]
    exact ⟨by decide, by decide, fun z => absurd z h, fun _ => rfl⟩
def ll_f (A : ab_SG) (p q : Int) : Nat → Int × Int
  | 0 => (-1, 0)
  | c + 1 => if v_low A p q (c : Int) ≠ -1 ∧ ((ll_f A p q c).1 = -1 ∨ v_low A p q (c : Int) < (ll_f A p q c).2) then ((c : Int), v_low A p q (c : Int)) else ll_f A p q c
theorem ll_s (A : ab_SG) (p q : Int) (c : Nat) : ll_f A p q (c + 1) = if v_low A p q (c : Int) ≠ -1 ∧ ((ll_f A p q c).1 = -1 ∨ v_low A p q (c : Int) < (ll_f A p q c).2) then ((c : Int), v_low A p q (c : Int)) else ll_f A p q c := rfl
theorem ll_b {A : ab_SG} {p q : Int} (hB : ∀ c : Nat, v_bd A p q 0 (c : Int) → dl_B (v_du A p q (c : Int))) : ∀ c : Nat, (-1 ≤ (ll_f A p q c).1 ∧ (ll_f A p q c).1 ≤ (c : Int)) ∧ 0 ≤ (ll_f A p q c).2 ∧ (ll_f A p q c).2 ≤ 9
  | 0 => by show ((-1 : Int) ≤ -1 ∧ (-1 : Int) ≤ ((0 : Nat) : Int)) ∧ (0 : Int) ≤ 0 ∧ (0 : Int) ≤ 9; decide
  | c + 1 => by
    have b := ll_b hB c
    have v := v_low_b (hB c)
    rw [ll_s]
    split
    · rename_i z
      exact ⟨⟨by show -1 ≤ (c : Int); omega, by show (c : Int) ≤ _; omega⟩, by show 0 ≤ v_low A p q (c : Int); have := z.1; omega, v.2.1⟩
    · exact ⟨⟨b.1.1, by omega⟩, b.2⟩
def v_lowest (A : ab_SG) (p q : Int) : Int := (ll_f A p q (A 49 12).toNat).1
def aw_a (v : Int) : Int := if 0 < 2 * v - 976299632280 then 2 * v - 976299632280 else -(2 * v - 976299632280)
def aw (A : ab_SG) (p q c : Int) : Int := aw_a ((v_du A p q c).1 0)
theorem aw_b {v : Int} (h : 0 ≤ v ∧ v ≤ 976299632280) : 0 ≤ aw_a v ∧ aw_a v ≤ 976299632280 := by
  unfold aw_a
  split <;> omega
def cc_f (A : ab_SG) (p q : Int) : Nat → Int × Int
  | 0 => (-1, 0)
  | c + 1 => if v_bd A p q 0 (c : Int) ∧ ((cc_f A p q c).1 = -1 ∨ aw A p q (c : Int) < (cc_f A p q c).2) then ((c : Int), aw A p q (c : Int)) else cc_f A p q c
theorem cc_s (A : ab_SG) (p q : Int) (c : Nat) : cc_f A p q (c + 1) = if v_bd A p q 0 (c : Int) ∧ ((cc_f A p q c).1 = -1 ∨ aw A p q (c : Int) < (cc_f A p q c).2) then ((c : Int), aw A p q (c : Int)) else cc_f A p q c := rfl
theorem cc_b {A : ab_SG} {p q : Int} (hB : ∀ c : Nat, v_bd A p q 0 (c : Int) → dl_B (v_du A p q (c : Int))) : ∀ c : Nat, (-1 ≤ (cc_f A p q c).1 ∧ (cc_f A p q c).1 ≤ (c : Int)) ∧ 0 ≤ (cc_f A p q c).2 ∧ (cc_f A p q c).2 ≤ 976299632280
  | 0 => by show ((-1 : Int) ≤ -1 ∧ (-1 : Int) ≤ ((0 : Nat) : Int)) ∧ (0 : Int) ≤ 0 ∧ (0 : Int) ≤ 976299632280; decide
  | c + 1 => by
    have b := cc_b hB c
    rw [cc_s]
    split
    · rename_i z
      have a := aw_b (hB c z.1 0).1
      exact ⟨⟨by show -1 ≤ (c : Int); omega, by show (c : Int) ≤ _; omega⟩, a⟩
    · exact ⟨⟨b.1.1, by omega⟩, b.2⟩
def v_closest (A : ab_SG) (p q : Int) : Int := (cc_f A p q (A 49 12).toNat).1
def sp_lowest : fw_SP := fun as σ K => ∃ (A : ab_SG) (p q : Int), as = [(2, 0, 0), (0, 0, p), (0, 0, q)] ∧ (fw_c p = p ∧ fw_c q = q) ∧ NC σ A ∧ ∀ σ' : ab_SG, ab_okM du_M σ σ' → K (some (0, 0, v_lowest A p q)) σ'
def sp_closest : fw_SP := fun as σ K => ∃ (A : ab_SG) (p q : Int), as = [(2, 0, 0), (0, 0, p), (0, 0, q)] ∧ (fw_c p = p ∧ fw_c q = q) ∧ NC σ A ∧ ∀ σ' : ab_SG, ab_okM du_M σ σ' → K (some (0, 0, v_closest A p q)) σ'
def sp_m_lowest : fw_SP := fun as σ K => ∃ (A : ab_SG) (p q : Int), as = [(2, 93, 0), (0, 0, p), (0, 0, q)] ∧ (fw_c p = p ∧ fw_c q = q) ∧ NM σ A ∧ (0 < A 49 13 → σ 95 3 = A 49 14) ∧ ∀ σ' : ab_SG, ab_okM dm_N σ σ' → K (some (0, 0, v_lowest A p q)) σ'
def sp_m_closest : fw_SP := fun as σ K => ∃ (A : ab_SG) (p q : Int), as = [(2, 93, 0), (0, 0, p), (0, 0, q)] ∧ (fw_c p = p ∧ fw_c q = q) ∧ NM σ A ∧ (0 < A 49 13 → σ 95 3 = A 49 14) ∧ ∀ σ' : ab_SG, ab_okM dm_N σ σ' → K (some (0, 0, v_closest A p q)) σ'
/-- nobody to play: no clue -/
theorem bd_c {A : ab_SG} {p q : Int} {C : Nat} (hC : A 49 12 = (C : Int)) {c d : Nat} (hc : c < C) (hd : d < C) (h : v_bd A p q 0 (c : Int)) : v_bd A p q 0 (d : Int) := ⟨h.1, h.2.1, h.2.2.1, h.2.2.2.1, by omega, by omega⟩
theorem ll_0 {A : ab_SG} {p q : Int} (hB : ∀ c : Nat, v_bd A p q 0 (c : Int) → dl_B (v_du A p q (c : Int))) (h : ∀ c : Nat, ¬ v_bd A p q 0 (c : Int)) : ∀ c : Nat, (ll_f A p q c).1 = -1
  | 0 => rfl
  | c + 1 => by
    rw [ll_s, if_neg (fun z => z.1 ((v_low_b (hB c)).2.2.2 (h c)))]
    exact ll_0 hB h c
theorem cc_0 {A : ab_SG} {p q : Int} (h : ∀ c : Nat, ¬ v_bd A p q 0 (c : Int)) : ∀ c : Nat, (cc_f A p q c).1 = -1
  | 0 => rfl
  | c + 1 => by
    rw [cc_s, if_neg (fun z => h c z.1)]
    exact cc_0 h c
abbrev fk_lowest : List fw_CR := [(272, 3, true, 10, 6, sp_low)]
abbrev st_lowest : fw_K → fw_KR → fw_K := fw_st vwCl nn_sh nn_kd fw_kv fw_wc (nn_KI1.map (fun x => x.1)) (nn_KJ1.map (fun x => x.1)) (nn_PF1.map (fun x => x.1)) (nn_PS1.map (fun x => x.1)) fk_lowest 7 nn_dt105 7 0
theorem fs_lowest_0 {G : fw_K} {R : fw_KR} (hG : fw_cls st_lowest R G) {p q : Int} {σ : ab_SG} (h : G 8 [some (2, 0, 0), some (0, 0, p), some (0, 0, q), some (0, 0, (-1)), some (0, 0, 0), some (0, 0, 0), none] [] σ) : G 0 [some (2, 0, 0), some (0, 0, p), some (0, 0, q), none, none, none, none] [] σ := fw_on hG [8, 28, 48, 55] 200 h
theorem fs_lowest_8 {G : fw_K} {R : fw_KR} (hG : fw_cls st_lowest R G) {a1 a2 a3 a4 a5 : Int} {o6 : Option ab_AV} {σ : ab_SG} (h : (fw_c (σ 3 12) ≤ fw_c a5 → R (some (0, 0, a3)) σ) ∧ (fw_c a5 < fw_c (σ 3 12) → sp_low [(2, 0, 0), (0, 0, a1), (0, 0, a2), (0, 0, a5)] σ (fun rv σ2 => G 28 [some (2, 0, 0), some (0, 0, a1), some (0, 0, a2), some (0, 0, a3), some (0, 0, a4), some (0, 0, a5), o6] (rv.toList ++ []) σ2))) : G 8 [some (2, 0, 0), some (0, 0, a1), some (0, 0, a2), some (0, 0, a3), some (0, 0, a4), some (0, 0, a5), o6] [] σ := fw_on hG [8, 28, 48, 55] 200 h
theorem fs_lowest_28 {G : fw_K} {R : fw_KR} (hG : fw_cls st_lowest R G) {a1 a2 a3 a4 a5 b0 : Int} {o6 : Option ab_AV} {σ : ab_SG} (h : (fw_c b0 = fw_c (-1) → G 55 [some (2, 0, 0), some (0, 0, a1), some (0, 0, a2), some (0, 0, a3), some (0, 0, a4), some (0, 0, a5), some (0, 0, b0)] [] σ) ∧ (fw_c b0 ≠ fw_c (-1) → (fw_c a3 = fw_c (-1) → G 48 [some (2, 0, 0), some (0, 0, a1), some (0, 0, a2), some (0, 0, a3), some (0, 0, a4), some (0, 0, a5), some (0, 0, b0)] [] σ) ∧ (fw_c a3 ≠ fw_c (-1) → (fw_c a4 ≤ fw_c b0 → G 55 [some (2, 0, 0), some (0, 0, a1), some (0, 0, a2), some (0, 0, a3), some (0, 0, a4), some (0, 0, a5), some (0, 0, b0)] [] σ) ∧ (fw_c b0 < fw_c a4 → G 48 [some (2, 0, 0), some (0, 0, a1), some (0, 0, a2), some (0, 0, a3), some (0, 0, a4), some (0, 0, a5), some (0, 0, b0)] [] σ)))) : G 28 [some (2, 0, 0), some (0, 0, a1), some (0, 0, a2), some (0, 0, a3), some (0, 0, a4), some (0, 0, a5), o6] [(0, 0, b0)] σ := fw_on hG [8, 28, 48, 55] 200 h
theorem fs_lowest_55 {G : fw_K} {R : fw_KR} (hG : fw_cls st_lowest R G) {a1 a2 a3 a4 a5 : Int} {o6 : Option ab_AV} {σ : ab_SG} (h : G 8 [some (2, 0, 0), some (0, 0, a1), some (0, 0, a2), some (0, 0, a3), some (0, 0, a4), some (0, 0, a5 + 1), o6] [] σ) : G 55 [some (2, 0, 0), some (0, 0, a1), some (0, 0, a2), some (0, 0, a3), some (0, 0, a4), some (0, 0, a5), o6] [] σ := fw_on hG [8, 28, 48, 55] 200 h
theorem fs_lowest_48 {G : fw_K} {R : fw_KR} (hG : fw_cls st_lowest R G) {a1 a2 a5 a6 : Int} {o3 o4 : Option ab_AV} {σ : ab_SG} (h : G 55 [some (2, 0, 0), some (0, 0, a1), some (0, 0, a2), some (0, 0, a5), some (0, 0, a6), some (0, 0, a5), some (0, 0, a6)] [] σ) : G 48 [some (2, 0, 0), some (0, 0, a1), some (0, 0, a2), o3, o4, some (0, 0, a5), some (0, 0, a6)] [] σ := fw_on hG [8, 28, 48, 55] 200 h
abbrev fk_m_lowest : List fw_CR := [(381, 3, true, 11, 1, sp_m_isRound), (398, 3, true, 11, 11, sp_m_lowOf)]
abbrev st_m_lowest : fw_K → fw_KR → fw_K := fw_st vwCl nn_sh nn_kd fw_kv fw_wc (nn_KI20.map (fun x => x.1)) (nn_KJ20.map (fun x => x.1)) (nn_PF20.map (fun x => x.1)) (nn_PS20.map (fun x => x.1)) fk_m_lowest 13 nn_dt307 7 0
theorem fs_m_lowest_0 {G : fw_K} {R : fw_KR} (hG : fw_cls st_m_lowest R G) {p q : Int} {σ : ab_SG} (h : G 14 [some (2, 93, 0), some (0, 0, p), some (0, 0, q), some (0, 0, (-1)), some (0, 0, 99), some (0, 0, 0), none] [] (ab_ups σ 93 0 (fw_c 0))) : G 0 [some (2, 93, 0), some (0, 0, p), some (0, 0, q), none, none, none, none] [] σ := fw_on hG [14, 33, 44, 63] 200 h
theorem fs_m_lowest_14 {G : fw_K} {R : fw_KR} (hG : fw_cls st_m_lowest R G) {a1 a2 a3 a4 a5 : Int} {o6 : Option ab_AV} {σ : ab_SG} (h : (0 ≤ fw_c 1 ∧ fw_c 1 < ((474 : Nat) : Int)) ∧ ((fw_c (σ 95 (fw_c 1).toNat) ≤ fw_c a5 → R (some (0, 0, a3)) σ) ∧ (fw_c a5 < fw_c (σ 95 (fw_c 1).toNat) → sp_m_isRound [(2, 93, 0), (0, 0, a1), (0, 0, a2), (0, 0, a5)] σ (fun rv σ2 => G 33 [some (2, 93, 0), some (0, 0, a1), some (0, 0, a2), some (0, 0, a3), some (0, 0, a4), some (0, 0, a5), o6] (rv.toList ++ []) σ2)))) : G 14 [some (2, 93, 0), some (0, 0, a1), some (0, 0, a2), some (0, 0, a3), some (0, 0, a4), some (0, 0, a5), o6] [] σ := fw_on hG [14, 33, 44, 63] 200 h
theorem fs_m_lowest_33 {G : fw_K} {R : fw_KR} (hG : fw_cls st_m_lowest R G) {a1 a2 a3 a4 a5 b0 : Int} {o6 : Option ab_AV} {σ : ab_SG} (h : (fw_c b0 = 0 → R (some (0, 0, a3)) σ) ∧ (fw_c b0 ≠ 0 → sp_m_lowOf [(2, 93, 0), (0, 0, a1), (0, 0, a2), (0, 0, a5)] σ (fun rv σ2 => G 44 [some (2, 93, 0), some (0, 0, a1), some (0, 0, a2), some (0, 0, a3), some (0, 0, a4), some (0, 0, a5), o6] (rv.toList ++ []) σ2))) : G 33 [some (2, 93, 0), some (0, 0, a1), some (0, 0, a2), some (0, 0, a3), some (0, 0, a4), some (0, 0, a5), o6] [(0, 0, b0)] σ := fw_on hG [14, 33, 44, 63] 200 h
theorem fs_m_lowest_44 {G : fw_K} {R : fw_KR} (hG : fw_cls st_m_lowest R G) {a1 a2 a3 a4 a5 b0 : Int} {o6 : Option ab_AV} {σ : ab_SG} (h : (fw_c b0 < fw_c a4 → G 63 [some (2, 93, 0), some (0, 0, a1), some (0, 0, a2), some (0, 0, a5), some (0, 0, b0), some (0, 0, a5), some (0, 0, b0)] [] σ) ∧ (fw_c a4 ≤ fw_c b0 → G 63 [some (2, 93, 0), some (0, 0, a1), some (0, 0, a2), some (0, 0, a3), some (0, 0, a4), some (0, 0, a5), some (0, 0, b0)] [] σ)) : G 44 [some (2, 93, 0), some (0, 0, a1), some (0, 0, a2), some (0, 0, a3), some (0, 0, a4), some (0, 0, a5), o6] [(0, 0, b0)] σ := fw_on hG [14, 33, 44, 63] 200 h
theorem fs_m_lowest_63 {G : fw_K} {R : fw_KR} (hG : fw_cls st_m_lowest R G) {a1 a2 a3 a4 a5 : Int} {o6 : Option ab_AV} {σ : ab_SG} (h : G 14 [some (2, 93, 0), some (0, 0, a1), some (0, 0, a2), some (0, 0, a3), some (0, 0, a4), some (0, 0, a5 + 1), o6] [] σ) : G 63 [some (2, 93, 0), some (0, 0, a1), some (0, 0, a2), some (0, 0, a3), some (0, 0, a4), some (0, 0, a5), o6] [] σ := fw_on hG [14, 33, 44, 63] 200 h
abbrev fk_closest : List fw_CR := [(239, 4, true, 10, 2, sp_canBid), (242, 3, true, 10, 5, sp_weigh), (249, 2, true, 0, 1, sp_dvalue)]
abbrev st_closest : fw_K → fw_KR → fw_K := fw_st vwCl nn_sh nn_kd fw_kv fw_wc (nn_KI1.map (fun x => x.1)) (nn_KJ1.map (fun x => x.1)) (nn_PF1.map (fun x => x.1)) (nn_PS1.map (fun x => x.1)) fk_closest 7 nn_dt106 9 0
theorem fs_closest_0 {G : fw_K} {R : fw_KR} (hG : fw_cls st_closest R G) {p q : Int} {σ : ab_SG} (h : G 8 [some (2, 0, 0), some (0, 0, p), some (0, 0, q), some (0, 0, (-1)), some (1, 0, ((0 : Nat) : Int)), none, some (0, 0, 0), none, none] [] σ) : G 0 [some (2, 0, 0), some (0, 0, p), some (0, 0, q), none, none, none, none, none, none] [] σ := fw_on hG [8, 29, 40, 52, 75, 82] 200 h
theorem fs_closest_8 {G : fw_K} {R : fw_KR} (hG : fw_cls st_closest R G) {a1 a2 a3 a4 a6 : Int} {o7 o8 : Option ab_AV} {σ : ab_SG} (h : (fw_c (σ 3 12) ≤ fw_c a6 → R (some (0, 0, a3)) σ) ∧ (fw_c a6 < fw_c (σ 3 12) → sp_canBid [(2, 0, 0), (0, 0, a1), (0, 0, a2), (0, 0, 0), (0, 0, a6)] σ (fun rv σ2 => G 29 [some (2, 0, 0), some (0, 0, a1), some (0, 0, a2), some (0, 0, a3), some (1, 0, a4), none, some (0, 0, a6), o7, o8] (rv.toList ++ []) σ2))) : G 8 [some (2, 0, 0), some (0, 0, a1), some (0, 0, a2), some (0, 0, a3), some (1, 0, a4), none, some (0, 0, a6), o7, o8] [] σ := fw_on hG [8, 29, 40, 52, 75, 82] 200 h
theorem fs_closest_29 {G : fw_K} {R : fw_KR} (hG : fw_cls st_closest R G) {a1 a2 a3 a4 a6 b0 : Int} {o7 o8 : Option ab_AV} {σ : ab_SG} (h : (fw_c b0 = 0 → G 82 [some (2, 0, 0), some (0, 0, a1), some (0, 0, a2), some (0, 0, a3), some (1, 0, a4), none, some (0, 0, a6), o7, o8] [] σ) ∧ (fw_c b0 ≠ 0 → sp_weigh [(2, 0, 0), (0, 0, a1), (0, 0, a2), (0, 0, a6)] σ (fun rv σ2 => G 40 [some (2, 0, 0), some (0, 0, a1), some (0, 0, a2), some (0, 0, a3), some (1, 0, a4), none, some (0, 0, a6), o7, o8] (rv.toList ++ []) σ2))) : G 29 [some (2, 0, 0), some (0, 0, a1), some (0, 0, a2), some (0, 0, a3), some (1, 0, a4), none, some (0, 0, a6), o7, o8] [(0, 0, b0)] σ := fw_on hG [8, 29, 40, 52, 75, 82] 200 h
theorem fs_closest_82 {G : fw_K} {R : fw_KR} (hG : fw_cls st_closest R G) {a1 a2 a3 a4 a6 : Int} {o7 o8 : Option ab_AV} {σ : ab_SG} (h : G 8 [some (2, 0, 0), some (0, 0, a1), some (0, 0, a2), some (0, 0, a3), some (1, 0, a4), none, some (0, 0, a6 + 1), o7, o8] [] σ) : G 82 [some (2, 0, 0), some (0, 0, a1), some (0, 0, a2), some (0, 0, a3), some (1, 0, a4), none, some (0, 0, a6), o7, o8] [] σ := fw_on hG [8, 29, 40, 52, 75, 82] 200 h
theorem fs_closest_40 {G : fw_K} {R : fw_KR} (hG : fw_cls st_closest R G) {a1 a2 a3 a4 a6 : Int} {o7 o8 : Option ab_AV} {σ : ab_SG} (h : sp_dvalue [(2, 77, 0), (0, 0, 0), (0, 0, 0)] σ (fun rv σ2 => G 52 [some (2, 0, 0), some (0, 0, a1), some (0, 0, a2), some (0, 0, a3), some (1, 0, a4), none, some (0, 0, a6), o7, o8] (rv.toList ++ [(1, 0, 2)]) σ2)) : G 40 [some (2, 0, 0), some (0, 0, a1), some (0, 0, a2), some (0, 0, a3), some (1, 0, a4), none, some (0, 0, a6), o7, o8] [] σ := fw_on hG [8, 29, 40, 52, 75, 82] 200 h
theorem fs_closest_52 {G : fw_K} {R : fw_KR} (hG : fw_cls st_closest R G) {a1 a2 a3 a4 a6 b0 b1 : Int} {o7 o8 : Option ab_AV} {σ : ab_SG} (h : -9223372036854775807 ≤ fw_d ((b1 * b0) - 976299632280) ∧ ((fw_c a3 = fw_c (-1) → G 75 [some (2, 0, 0), some (0, 0, a1), some (0, 0, a2), some (0, 0, a3), some (1, 0, a4), none, some (0, 0, a6), some (1, 0, if 0 < fw_d ((b1 * b0) - 976299632280) then fw_d ((b1 * b0) - 976299632280) else -fw_d ((b1 * b0) - 976299632280)), none] [] σ) ∧ (fw_c a3 ≠ fw_c (-1) → (fw_d a4 ≤ fw_d (if 0 < fw_d ((b1 * b0) - 976299632280) then fw_d ((b1 * b0) - 976299632280) else -fw_d ((b1 * b0) - 976299632280)) → G 82 [some (2, 0, 0), some (0, 0, a1), some (0, 0, a2), some (0, 0, a3), some (1, 0, a4), none, some (0, 0, a6), some (1, 0, if 0 < fw_d ((b1 * b0) - 976299632280) then fw_d ((b1 * b0) - 976299632280) else -fw_d ((b1 * b0) - 976299632280)), none] [] σ) ∧ (fw_d (if 0 < fw_d ((b1 * b0) - 976299632280) then fw_d ((b1 * b0) - 976299632280) else -fw_d ((b1 * b0) - 976299632280)) < fw_d a4 → G 75 [some (2, 0, 0), some (0, 0, a1), some (0, 0, a2), some (0, 0, a3), some (1, 0, a4), none, some (0, 0, a6), some (1, 0, if 0 < fw_d ((b1 * b0) - 976299632280) then fw_d ((b1 * b0) - 976299632280) else -fw_d ((b1 * b0) - 976299632280)), none] [] σ)))) : G 52 [some (2, 0, 0), some (0, 0, a1), some (0, 0, a2), some (0, 0, a3), some (1, 0, a4), none, some (0, 0, a6), o7, o8] [(1, 0, b0), (1, 0, b1)] σ := fw_on hG [8, 29, 40, 52, 75, 82] 200 h
theorem fs_closest_75 {G : fw_K} {R : fw_KR} (hG : fw_cls st_closest R G) {a1 a2 a6 a7 : Int} {o3 o4 o8 : Option ab_AV} {σ : ab_SG} (h : G 82 [some (2, 0, 0), some (0, 0, a1), some (0, 0, a2), some (0, 0, a6), some (1, 0, a7), none, some (0, 0, a6), some (1, 0, a7), o8] [] σ) : G 75 [some (2, 0, 0), some (0, 0, a1), some (0, 0, a2), o3, o4, none, some (0, 0, a6), some (1, 0, a7), o8] [] σ := fw_on hG [8, 29, 40, 52, 75, 82] 200 h
abbrev fk_m_closest : List fw_CR := [(381, 3, true, 11, 1, sp_m_isRound), (387, 3, true, 11, 10, sp_m_layBest)]
abbrev st_m_closest : fw_K → fw_KR → fw_K := fw_st vwCl nn_sh nn_kd fw_kv fw_wc (nn_KI20.map (fun x => x.1)) (nn_KJ20.map (fun x => x.1)) (nn_PF20.map (fun x => x.1)) (nn_PS20.map (fun x => x.1)) fk_m_closest 12 nn_dt308 9 0
theorem fs_m_closest_0 {G : fw_K} {R : fw_KR} (hG : fw_cls st_m_closest R G) {p q : Int} {σ : ab_SG} (h : G 13 [some (2, 93, 0), some (0, 0, p), some (0, 0, q), some (0, 0, (-1)), some (1, 0, ((0 : Nat) : Int)), none, some (0, 0, 0), none, none] [] (ab_ups σ 93 0 (fw_c 0))) : G 0 [some (2, 93, 0), some (0, 0, p), some (0, 0, q), none, none, none, none, none, none] [] σ := fw_on hG [13, 32, 43, 71, 87, 94] 200 h
theorem fs_m_closest_13 {G : fw_K} {R : fw_KR} (hG : fw_cls st_m_closest R G) {a1 a2 a3 a4 a6 : Int} {o7 o8 : Option ab_AV} {σ : ab_SG} (h : (0 ≤ fw_c 1 ∧ fw_c 1 < ((474 : Nat) : Int)) ∧ ((fw_c (σ 95 (fw_c 1).toNat) ≤ fw_c a6 → R (some (0, 0, a3)) σ) ∧ (fw_c a6 < fw_c (σ 95 (fw_c 1).toNat) → sp_m_isRound [(2, 93, 0), (0, 0, a1), (0, 0, a2), (0, 0, a6)] σ (fun rv σ2 => G 32 [some (2, 93, 0), some (0, 0, a1), some (0, 0, a2), some (0, 0, a3), some (1, 0, a4), none, some (0, 0, a6), o7, o8] (rv.toList ++ []) σ2)))) : G 13 [some (2, 93, 0), some (0, 0, a1), some (0, 0, a2), some (0, 0, a3), some (1, 0, a4), none, some (0, 0, a6), o7, o8] [] σ := fw_on hG [13, 32, 43, 71, 87, 94] 200 h
theorem fs_m_closest_32 {G : fw_K} {R : fw_KR} (hG : fw_cls st_m_closest R G) {a1 a2 a3 a4 a6 b0 : Int} {o7 o8 : Option ab_AV} {σ : ab_SG} (h : (fw_c b0 = 0 → R (some (0, 0, a3)) σ) ∧ (fw_c b0 ≠ 0 → sp_m_layBest [(2, 93, 0), (0, 0, a1), (0, 0, a2), (0, 0, a6)] σ (fun rv σ2 => G 43 [some (2, 93, 0), some (0, 0, a1), some (0, 0, a2), some (0, 0, a3), some (1, 0, a4), none, some (0, 0, a6), o7, o8] (rv.toList ++ []) σ2))) : G 32 [some (2, 93, 0), some (0, 0, a1), some (0, 0, a2), some (0, 0, a3), some (1, 0, a4), none, some (0, 0, a6), o7, o8] [(0, 0, b0)] σ := fw_on hG [13, 32, 43, 71, 87, 94] 200 h
theorem fs_m_closest_43 {G : fw_K} {R : fw_KR} (hG : fw_cls st_m_closest R G) {a1 a2 a3 a4 a6 : Int} {o7 o8 : Option ab_AV} {σ : ab_SG} (h : (0 ≤ fw_c 0 ∧ fw_c 0 < ((20 : Nat) : Int)) ∧ ((fw_d ((0 : Nat) : Int) ≤ fw_d ((2 * (σ 109 (fw_c 0).toNat)) - 2460275073345600) → G 71 [some (2, 93, 0), some (0, 0, a1), some (0, 0, a2), some (0, 0, a3), some (1, 0, a4), none, some (0, 0, a6), some (1, 0, (2 * (σ 109 (fw_c 0).toNat)) - 2460275073345600), none] [] σ) ∧ (fw_d ((2 * (σ 109 (fw_c 0).toNat)) - 2460275073345600) < fw_d ((0 : Nat) : Int) → G 71 [some (2, 93, 0), some (0, 0, a1), some (0, 0, a2), some (0, 0, a3), some (1, 0, a4), none, some (0, 0, a6), some (1, 0, -((2 * (σ 109 (fw_c 0).toNat)) - 2460275073345600)), none] [] σ))) : G 43 [some (2, 93, 0), some (0, 0, a1), some (0, 0, a2), some (0, 0, a3), some (1, 0, a4), none, some (0, 0, a6), o7, o8] [] σ := fw_on hG [13, 32, 43, 71, 87, 94] 200 h
theorem fs_m_closest_71 {G : fw_K} {R : fw_KR} (hG : fw_cls st_m_closest R G) {a1 a2 a3 a4 a6 a7 : Int} {o8 : Option ab_AV} {σ : ab_SG} (h : (fw_c a3 = fw_c (-1) → G 87 [some (2, 93, 0), some (0, 0, a1), some (0, 0, a2), some (0, 0, a3), some (1, 0, a4), none, some (0, 0, a6), some (1, 0, a7), o8] [] σ) ∧ (fw_c a3 ≠ fw_c (-1) → (fw_d a7 < fw_d a4 → G 87 [some (2, 93, 0), some (0, 0, a1), some (0, 0, a2), some (0, 0, a3), some (1, 0, a4), none, some (0, 0, a6), some (1, 0, a7), o8] [] σ) ∧ (fw_d a4 ≤ fw_d a7 → G 94 [some (2, 93, 0), some (0, 0, a1), some (0, 0, a2), some (0, 0, a3), some (1, 0, a4), none, some (0, 0, a6), some (1, 0, a7), o8] [] σ))) : G 71 [some (2, 93, 0), some (0, 0, a1), some (0, 0, a2), some (0, 0, a3), some (1, 0, a4), none, some (0, 0, a6), some (1, 0, a7), o8] [] σ := fw_on hG [13, 32, 43, 71, 87, 94] 200 h
theorem fs_m_closest_87 {G : fw_K} {R : fw_KR} (hG : fw_cls st_m_closest R G) {a1 a2 a6 a7 : Int} {o3 o4 o8 : Option ab_AV} {σ : ab_SG} (h : G 94 [some (2, 93, 0), some (0, 0, a1), some (0, 0, a2), some (0, 0, a6), some (1, 0, a7), none, some (0, 0, a6), some (1, 0, a7), o8] [] σ) : G 87 [some (2, 93, 0), some (0, 0, a1), some (0, 0, a2), o3, o4, none, some (0, 0, a6), some (1, 0, a7), o8] [] σ := fw_on hG [13, 32, 43, 71, 87, 94] 200 h
theorem fs_m_closest_94 {G : fw_K} {R : fw_KR} (hG : fw_cls st_m_closest R G) {a1 a2 a3 a4 a6 : Int} {o7 o8 : Option ab_AV} {σ : ab_SG} (h : G 13 [some (2, 93, 0), some (0, 0, a1), some (0, 0, a2), some (0, 0, a3), some (1, 0, a4), none, some (0, 0, a6 + 1), o7, o8] [] σ) : G 94 [some (2, 93, 0), some (0, 0, a1), some (0, 0, a2), some (0, 0, a3), some (1, 0, a4), none, some (0, 0, a6), o7, o8] [] σ := fw_on hG [13, 32, 43, 71, 87, 94] 200 h

section
variable {l : Launch} {cy : Nat → ClassId} {ad wr cr : Nat → Nat} {D : va_G}
theorem fm_lowest (hinj : nn_inj ad) : fw_H l cy ad wr cr D 105 7 sp_lowest := fw_mk hinj (⟨"NameNotes", "lowest", "(II)I"⟩, prog_1_method_26_code, 7, (Option.some Jvm.ClassFile.FieldType.int), 2, true, 0) rfl rfl nn_KI1_ok nn_KJ1_ok nn_PF1_ok nn_PS1_ok (by decide +kernel) rfl rfl (List.forall_mem_cons.mpr ⟨fw_row nn_PM1_ok (x := 272) (k := 0) (mn := 103) (np := 3) (ob := true) (ci := 10) (⟨"NameNotes", "low", "(III)I"⟩, prog_1_method_25_code, 4, (Option.some Jvm.ClassFile.FieldType.int), 3, true, 0) rfl (by decide +kernel) rfl rfl (by decide) (fun _ => ⟨_, _, rfl⟩) (fm_low hinj), (fun _ h => absurd h List.not_mem_nil)⟩) (fun as σ K h => by
  obtain ⟨A, p, q, rfl, ⟨ep, eq⟩, hN, h⟩ := h
  have nn := N_n hN.1
  obtain ⟨C, eC⟩ := Int.eq_ofNat_of_zero_le nn.2.1.1
  have cC : fw_c (C : Int) = (C : Int) := fw_s (by omega) (by omega)
  have cm : fw_c (-1) = -1 := fw_s (by decide) (by decide)
  have hB : ∀ c : Nat, v_bd A p q 0 (c : Int) → dl_B (v_du A p q (c : Int)) := fun c z => du_B20 hN z
  unfold v_lowest at h
  rw [eC, Int.toNat_natCast] at h
  refine ⟨rfl, fun G hG => fs_lowest_0 hG ?_⟩
  have loop : ∀ (f c : Nat) (τ : ab_SG) (o6 : Option ab_AV), c + f = C → ab_okM du_M σ τ → G 8 [some (2, 0, 0), some (0, 0, p), some (0, 0, q), some (0, 0, (ll_f A p q c).1), some (0, 0, (ll_f A p q c).2), some (0, 0, (c : Int)), o6] [] τ := by
    intro f
    induction f with
    | zero =>
      intro c τ o6 hc M
      have e : c = C := by omega
      subst e
      have Nt := oz_NCM M (by decide +kernel) hN
      refine fs_lowest_8 hG ?_
      rw [(NC_n Nt).2.1, eC, cC]
      exact ⟨fun _ => h τ M, fun z => absurd z (by omega)⟩
    | succ f ih =>
      intro c τ o6 hc M
      have Nt := oz_NCM M (by decide +kernel) hN
      have cc : fw_c (c : Int) = (c : Int) := fw_s (by omega) (by omega)
      have lb := ll_b hB c
      have vb := v_low_b (hB c)
      refine fs_lowest_8 hG ?_
      rw [(NC_n Nt).2.1, eC, cC, cc]
      refine ⟨fun z => absurd z (by omega), fun _ => ⟨A, p, q, (c : Int), rfl, ⟨ep, eq, cc⟩, Nt, fun τ' M' => fs_lowest_28 hG ?_⟩⟩
      rw [cm, fw_s (x := v_low A p q (c : Int)) (by omega) (by omega), fw_s (x := (ll_f A p q c).1) (by omega) (by omega), fw_s (x := (ll_f A p q c).2) (by omega) (by omega)]
      have g := fun o6 => ih (c + 1) τ' o6 (by omega) (on_trans M M')
      rw [ll_s, show ((c + 1 : Nat) : Int) = (c : Int) + 1 from rfl] at g
      have same : ¬ (v_low A p q (c : Int) ≠ -1 ∧ ((ll_f A p q c).1 = -1 ∨ v_low A p q (c : Int) < (ll_f A p q c).2)) → G 55 [some (2, 0, 0), some (0, 0, p), some (0, 0, q), some (0, 0, (ll_f A p q c).1), some (0, 0, (ll_f A p q c).2), some (0, 0, (c : Int)), some (0, 0, v_low A p q (c : Int))] [] τ' := fun z => by
        rw [if_neg z] at g
        exact fs_lowest_55 hG (g _)
      have take : (v_low A p q (c : Int) ≠ -1 ∧ ((ll_f A p q c).1 = -1 ∨ v_low A p q (c : Int) < (ll_f A p q c).2)) → G 48 [some (2, 0, 0), some (0, 0, p), some (0, 0, q), some (0, 0, (ll_f A p q c).1), some (0, 0, (ll_f A p q c).2), some (0, 0, (c : Int)), some (0, 0, v_low A p q (c : Int))] [] τ' := fun z => by
        rw [if_pos z] at g
        exact fs_lowest_48 hG (fs_lowest_55 hG (g _))
      exact ⟨fun z => same (fun w => w.1 z), fun z => ⟨fun z2 => take ⟨z, Or.inl z2⟩, fun z2 => ⟨fun z3 => same (fun w => w.2.elim (fun y => z2 y) (fun y => by omega)), fun z3 => take ⟨z, Or.inr z3⟩⟩⟩⟩
  exact loop C 0 σ none (Nat.zero_add C) (fw_okM_refl _ _))
theorem fm_m_lowest (hinj : nn_inj ad) : fw_H l cy ad wr cr D 307 13 sp_m_lowest := fw_mk hinj (⟨"NameNotesModel", "lowest", "(II)I"⟩, prog_14_method_105_code, 7, (Option.some Jvm.ClassFile.FieldType.int), 2, true, 0) rfl rfl nn_KI20_ok nn_KJ20_ok nn_PF20_ok nn_PS20_ok (by decide +kernel) rfl rfl (List.forall_mem_cons.mpr ⟨fw_row nn_PM20_ok (x := 381) (k := 0) (mn := 295) (np := 3) (ob := true) (ci := 11) (⟨"NameNotesModel", "isRound", "(III)Z"⟩, prog_14_method_91_code, 4, (Option.some Jvm.ClassFile.FieldType.boolean), 3, true, 1) rfl (by decide +kernel) rfl rfl (by decide) (fun _ => ⟨_, _, rfl⟩) (fm_m_isRound hinj), (List.forall_mem_cons.mpr ⟨fw_row nn_PM20_ok (x := 398) (k := 0) (mn := 306) (np := 3) (ob := true) (ci := 11) (⟨"NameNotesModel", "lowOf", "(III)I"⟩, prog_14_method_103_code, 6, (Option.some Jvm.ClassFile.FieldType.int), 3, true, 0) rfl (by decide +kernel) rfl rfl (by decide) (fun _ => ⟨_, _, rfl⟩) (fm_m_lowOf hinj), (fun _ h => absurd h List.not_mem_nil)⟩)⟩) (fun as σ0 K h => by
  obtain ⟨A, p, q, rfl, ⟨ep, eq⟩, hN0, h30, h⟩ := h
  have nn := N_n hN0.1
  obtain ⟨C, eC⟩ := Int.eq_ofNat_of_zero_le nn.2.1.1
  have cC : fw_c (C : Int) = (C : Int) := fw_s (by omega) (by omega)
  refine ⟨rfl, fun G hG => fs_m_lowest_0 hG ?_⟩
  rw [fw_c0]
  have hN : NM (ab_ups σ0 93 0 0) A := oz_NMM (dm_93 σ0) (by decide +kernel) hN0
  have h3 : 0 < A 49 13 → (ab_ups σ0 93 0 0) 95 3 = A 49 14 := fun z => by rw [ab_ups_ne (fun z => absurd z.1 (by decide))]; exact h30 z
  have h : ∀ σ' : ab_SG, ab_okM dm_N (ab_ups σ0 93 0 0) σ' → K (some (0, 0, v_lowest A p q)) σ' := fun σ' M => h σ' (on_trans (dm_93 σ0) M)
  generalize ab_ups σ0 93 0 0 = σ at hN h3 h ⊢
  have hB : ∀ c : Nat, v_bd A p q 0 (c : Int) → dl_B (v_du A p q (c : Int)) := fun c z => dm_B20 hN z
  unfold v_lowest at h
  rw [eC, Int.toNat_natCast] at h
  have e95 : ∀ τ : ab_SG, ab_okM dm_N σ τ → τ 95 3 = σ 95 3 := fun τ M => M 95 3 (fun q hq hh => by
    have : ∀ q ∈ dm_N, q.1 ≠ 95 := by decide
    exact this q hq hh.1)
  have loop : ∀ (f c : Nat) (τ : ab_SG) (m : Int) (o6 : Option ab_AV), c + f = C → ab_okM dm_N σ τ → (0 < c → v_bd A p q 0 (0 : Int)) → (c = 0 → m = 99) → (0 < c → (ll_f A p q c).1 ≠ -1 ∧ m = (ll_f A p q c).2) → G 14 [some (2, 93, 0), some (0, 0, p), some (0, 0, q), some (0, 0, (ll_f A p q c).1), some (0, 0, m), some (0, 0, (c : Int)), o6] [] τ := by
    intro f
    induction f with
    | zero =>
      intro c τ m o6 hc M _ _ _
      have e : c = C := by omega
      subst e
      have Nt := oz_NMM M (by decide +kernel) hN
      refine fs_m_lowest_14 hG ⟨by rw [fw_c1]; decide, ?_⟩
      rw [fw_c1, show (1 : Int).toNat = 1 from rfl, (NM_n Nt).2.1, eC, cC]
      exact ⟨fun _ => h τ M, fun z => absurd z (by omega)⟩
    | succ f ih =>
      intro c τ m o6 hc M h0 m0 m1
      have Nt := oz_NMM M (by decide +kernel) hN
      have cc : fw_c (c : Int) = (c : Int) := fw_s (by omega) (by omega)
      have lb := ll_b hB c
      have vb := v_low_b (hB c)
      refine fs_m_lowest_14 hG ⟨by rw [fw_c1]; decide, ?_⟩
      rw [fw_c1, show (1 : Int).toNat = 1 from rfl, (NM_n Nt).2.1, eC, cC, cc]
      refine ⟨fun z => absurd z (by omega), fun _ => ⟨A, p, q, (c : Int), rfl, ⟨ep, eq, cc⟩, Nt, fs_m_lowest_33 hG ⟨fun z => ?_, fun z => ?_⟩⟩⟩
      · have no := fw_bo_eq z
        have nob : ∀ d : Nat, ¬ v_bd A p q 0 (d : Int) := fun d w => no ⟨w.1, w.2.1, w.2.2.1, w.2.2.2.1, by omega, by omega⟩
        have k := h τ M
        rw [ll_0 hB nob] at k
        rw [ll_0 hB nob]
        exact k
      · have hb := fw_bo_ne z
        refine ⟨A, p, q, (c : Int), rfl, Nt, (e95 τ M).trans (h3 (by have := hb.1; omega)), hb, fun τ' M' => fs_m_lowest_44 hG ?_⟩
        have ev : lo_f (v_du A p q (c : Int)).2 10 0 0 = v_low A p q (c : Int) := by unfold v_low; rw [if_pos hb]
        have v0 := vb.2.2.1 hb
        have hm : -1 ≤ m ∧ m ≤ 99 := by
          by_cases y : c = 0
          · rw [m0 y]; decide
          · rw [(m1 (by omega)).2]; omega
        rw [ev, fw_s (x := v_low A p q (c : Int)) (by omega) (by omega), fw_s (x := m) (by omega) (by omega)]
        have bd0 : v_bd A p q 0 (0 : Int) := ⟨hb.1, hb.2.1, hb.2.2.1, hb.2.2.2.1, Int.le_refl 0, by omega⟩
        have ne : (c : Int) ≠ -1 := by omega
        refine ⟨fun z => fs_m_lowest_63 hG ?_, fun z => fs_m_lowest_63 hG ?_⟩
        · have t : v_low A p q (c : Int) ≠ -1 ∧ ((ll_f A p q c).1 = -1 ∨ v_low A p q (c : Int) < (ll_f A p q c).2) := by
            refine ⟨by omega, ?_⟩
            by_cases y : c = 0
            · left; subst y; rfl
            · right; have := (m1 (by omega)).2; omega
          have g := ih (c + 1) τ' (v_low A p q (c : Int)) (some (0, 0, v_low A p q (c : Int))) (by omega) (on_trans M (od_up M' (by decide))) (fun _ => bd0) (fun z => absurd z (Nat.succ_ne_zero c)) (fun _ => by rw [ll_s, if_pos t]; exact ⟨ne, rfl⟩)
          rw [ll_s, if_pos t, show ((c + 1 : Nat) : Int) = (c : Int) + 1 from rfl] at g
          exact g
        · have y : c ≠ 0 := fun y => by have := m0 y; omega
          have m2 := m1 (by omega)
          have t : ¬ (v_low A p q (c : Int) ≠ -1 ∧ ((ll_f A p q c).1 = -1 ∨ v_low A p q (c : Int) < (ll_f A p q c).2)) := fun w => w.2.elim (fun y => m2.1 y) (fun y => by have := m2.2; omega)
          have g := ih (c + 1) τ' m (some (0, 0, v_low A p q (c : Int))) (by omega) (on_trans M (od_up M' (by decide))) (fun _ => bd0) (fun z => absurd z (Nat.succ_ne_zero c)) (fun _ => by rw [ll_s, if_neg t]; exact m2)
          rw [ll_s, if_neg t, show ((c + 1 : Nat) : Int) = (c : Int) + 1 from rfl] at g
          exact g
  exact loop C 0 σ 99 none (Nat.zero_add C) (fw_okM_refl _ _) (fun z => absurd z (Nat.lt_irrefl 0)) (fun _ => rfl) (fun z => absurd z (Nat.lt_irrefl 0)))
theorem fm_closest (hinj : nn_inj ad) : fw_H l cy ad wr cr D 106 7 sp_closest := fw_mk hinj (⟨"NameNotes", "closest", "(II)I"⟩, prog_1_method_27_code, 9, (Option.some Jvm.ClassFile.FieldType.int), 2, true, 0) rfl rfl nn_KI1_ok nn_KJ1_ok nn_PF1_ok nn_PS1_ok (by decide +kernel) rfl rfl (List.forall_mem_cons.mpr ⟨fw_row nn_PM1_ok (x := 239) (k := 0) (mn := 91) (np := 4) (ob := true) (ci := 10) (⟨"NameNotes", "canBid", "(IIII)Z"⟩, prog_1_method_62_code, 5, (Option.some Jvm.ClassFile.FieldType.boolean), 4, true, 1) rfl (by decide +kernel) rfl rfl (by decide) (fun _ => ⟨_, _, rfl⟩) (fm_canBid hinj), (List.forall_mem_cons.mpr ⟨fw_row nn_PM1_ok (x := 242) (k := 0) (mn := 92) (np := 3) (ob := true) (ci := 10) (⟨"NameNotes", "weigh", "(III)V"⟩, prog_1_method_66_code, 4, (Option.none : Option Jvm.ClassFile.FieldType), 3, true, 4) rfl (by decide +kernel) rfl rfl (by decide) (fun _ => ⟨_, _, rfl⟩) (fm_weigh hinj), (List.forall_mem_cons.mpr ⟨fw_row nn_PM1_ok (x := 249) (k := 0) (mn := 102) (np := 2) (ob := true) (ci := 0) (⟨"NameNotes$Duel", "value", "(II)J"⟩, prog_2_method_7_code, 3, (Option.some Jvm.ClassFile.FieldType.long), 2, true, 2) rfl (by decide +kernel) rfl rfl (by decide) (fun _ => ⟨_, _, rfl⟩) (fm_dvalue hinj), (fun _ h => absurd h List.not_mem_nil)⟩)⟩)⟩) (fun as σ K h => by
  obtain ⟨A, p, q, rfl, ⟨ep, eq⟩, hN, h⟩ := h
  have nn := N_n hN.1
  obtain ⟨C, eC⟩ := Int.eq_ofNat_of_zero_le nn.2.1.1
  have cC : fw_c (C : Int) = (C : Int) := fw_s (by omega) (by omega)
  have cm : fw_c (-1) = -1 := fw_s (by decide) (by decide)
  have hB : ∀ c : Nat, v_bd A p q 0 (c : Int) → dl_B (v_du A p q (c : Int)) := fun c z => du_B20 hN z
  unfold v_closest at h
  rw [eC, Int.toNat_natCast] at h
  refine ⟨rfl, fun G hG => fs_closest_0 hG ?_⟩
  have loop : ∀ (f c : Nat) (τ : ab_SG) (o7 o8 : Option ab_AV), c + f = C → ab_okM du_M σ τ → G 8 [some (2, 0, 0), some (0, 0, p), some (0, 0, q), some (0, 0, (cc_f A p q c).1), some (1, 0, (cc_f A p q c).2), none, some (0, 0, (c : Int)), o7, o8] [] τ := by
    intro f
    induction f with
    | zero =>
      intro c τ o7 o8 hc M
      have e : c = C := by omega
      subst e
      have Nt := oz_NCM M (by decide +kernel) hN
      refine fs_closest_8 hG ?_
      rw [(NC_n Nt).2.1, eC, cC]
      exact ⟨fun _ => h τ M, fun z => absurd z (by omega)⟩
    | succ f ih =>
      intro c τ o7 o8 hc M
      have Nt := oz_NCM M (by decide +kernel) hN
      have cc : fw_c (c : Int) = (c : Int) := fw_s (by omega) (by omega)
      have lb := cc_b hB c
      refine fs_closest_8 hG ?_
      rw [(NC_n Nt).2.1, eC, cC, cc]
      refine ⟨fun z => absurd z (by omega), fun _ => ⟨A, p, q, 0, (c : Int), rfl, ⟨ep, eq, fw_c0, cc⟩, Nt, fs_closest_29 hG ⟨fun z => fs_closest_82 hG ?_, fun z => ?_⟩⟩⟩
      · have g := ih (c + 1) τ o7 o8 (by omega) M
        rw [cc_s, if_neg (fun w => fw_bo_eq z w.1), show ((c + 1 : Nat) : Int) = (c : Int) + 1 from rfl] at g
        exact g
      · have hb := fw_bo_ne z
        refine ⟨A, p, q, (c : Int), rfl, Nt, hb, fun τ' M' I' => fs_closest_40 hG ⟨0, 0, _, _, rfl, ⟨rfl, rfl⟩, ⟨by decide, by decide⟩, fs_closest_52 hG ?_⟩⟩
        have v0 := (hB c hb 0).1
        have ab := aw_b v0
        rw [show 10 * 0 + 0 = 0 from rfl, (I' 0 (by decide)).1]
        have ea : (if 0 < 2 * (v_du A p q (c : Int)).1 0 - 976299632280 then 2 * (v_du A p q (c : Int)).1 0 - 976299632280 else -(2 * (v_du A p q (c : Int)).1 0 - 976299632280)) = aw A p q (c : Int) := rfl
        have ab2 : 0 ≤ aw A p q (c : Int) ∧ aw A p q (c : Int) ≤ 976299632280 := ab
        rw [fw_d_id (x := 2 * (v_du A p q (c : Int)).1 0 - 976299632280) (by omega) (by omega), ea, cm, fw_d_id (x := aw A p q (c : Int)) (by omega) (by omega), fw_s (x := (cc_f A p q c).1) (by omega) (by omega), fw_d_id (x := (cc_f A p q c).2) (by omega) (by omega)]
        have g := fun o7 o8 => ih (c + 1) τ' o7 o8 (by omega) (on_trans M M')
        rw [cc_s, show ((c + 1 : Nat) : Int) = (c : Int) + 1 from rfl] at g
        have take : ((cc_f A p q c).1 = -1 ∨ aw A p q (c : Int) < (cc_f A p q c).2) → G 75 [some (2, 0, 0), some (0, 0, p), some (0, 0, q), some (0, 0, (cc_f A p q c).1), some (1, 0, (cc_f A p q c).2), none, some (0, 0, (c : Int)), some (1, 0, aw A p q (c : Int)), none] [] τ' := fun z => by
          rw [if_pos ⟨hb, z⟩] at g
          exact fs_closest_75 hG (fs_closest_82 hG (g _ _))
        refine ⟨by omega, fun z => take (Or.inl z), fun z => ⟨fun z2 => fs_closest_82 hG ?_, fun z2 => take (Or.inr z2)⟩⟩
        rw [if_neg (fun w => w.2.elim (fun y => z y) (fun y => by omega))] at g
        exact g _ _
  exact loop C 0 σ none none (Nat.zero_add C) (fw_okM_refl _ _))
theorem fm_m_closest (hinj : nn_inj ad) : fw_H l cy ad wr cr D 308 12 sp_m_closest := fw_mk hinj (⟨"NameNotesModel", "closest", "(II)I"⟩, prog_14_method_106_code, 9, (Option.some Jvm.ClassFile.FieldType.int), 2, true, 0) rfl rfl nn_KI20_ok nn_KJ20_ok nn_PF20_ok nn_PS20_ok (by decide +kernel) rfl rfl (List.forall_mem_cons.mpr ⟨fw_row nn_PM20_ok (x := 381) (k := 0) (mn := 295) (np := 3) (ob := true) (ci := 11) (⟨"NameNotesModel", "isRound", "(III)Z"⟩, prog_14_method_91_code, 4, (Option.some Jvm.ClassFile.FieldType.boolean), 3, true, 1) rfl (by decide +kernel) rfl rfl (by decide) (fun _ => ⟨_, _, rfl⟩) (fm_m_isRound hinj), (List.forall_mem_cons.mpr ⟨fw_row nn_PM20_ok (x := 387) (k := 0) (mn := 296) (np := 3) (ob := true) (ci := 11) (⟨"NameNotesModel", "layBest", "(III)V"⟩, prog_14_method_94_code, 13, (Option.none : Option Jvm.ClassFile.FieldType), 3, true, 4) rfl (by decide +kernel) rfl rfl (by decide) (fun _ => ⟨_, _, rfl⟩) (fm_m_layBest hinj), (fun _ h => absurd h List.not_mem_nil)⟩)⟩) (fun as σ0 K h => by
  obtain ⟨A, p, q, rfl, ⟨ep, eq⟩, hN0, h30, h⟩ := h
  have nn := N_n hN0.1
  obtain ⟨C, eC⟩ := Int.eq_ofNat_of_zero_le nn.2.1.1
  have cC : fw_c (C : Int) = (C : Int) := fw_s (by omega) (by omega)
  have cm : fw_c (-1) = -1 := fw_s (by decide) (by decide)
  refine ⟨rfl, fun G hG => fs_m_closest_0 hG ?_⟩
  rw [fw_c0]
  have hN : NM (ab_ups σ0 93 0 0) A := oz_NMM (dm_93 σ0) (by decide +kernel) hN0
  have h3 : 0 < A 49 13 → (ab_ups σ0 93 0 0) 95 3 = A 49 14 := fun z => by rw [ab_ups_ne (fun z => absurd z.1 (by decide))]; exact h30 z
  have h : ∀ σ' : ab_SG, ab_okM dm_N (ab_ups σ0 93 0 0) σ' → K (some (0, 0, v_closest A p q)) σ' := fun σ' M => h σ' (on_trans (dm_93 σ0) M)
  generalize ab_ups σ0 93 0 0 = σ at hN h3 h ⊢
  have hB : ∀ c : Nat, v_bd A p q 0 (c : Int) → dl_B (v_du A p q (c : Int)) := fun c z => dm_B20 hN z
  unfold v_closest at h
  rw [eC, Int.toNat_natCast] at h
  have e95 : ∀ τ : ab_SG, ab_okM dm_N σ τ → τ 95 3 = σ 95 3 := fun τ M => M 95 3 (fun q hq hh => by
    have : ∀ q ∈ dm_N, q.1 ≠ 95 := by decide
    exact this q hq hh.1)
  have loop : ∀ (f c : Nat) (τ : ab_SG) (m : Int) (o7 o8 : Option ab_AV), c + f = C → ab_okM dm_N σ τ → ((cc_f A p q c).1 = -1 → m = 0) → ((cc_f A p q c).1 ≠ -1 → m = 2520 * (cc_f A p q c).2) → G 13 [some (2, 93, 0), some (0, 0, p), some (0, 0, q), some (0, 0, (cc_f A p q c).1), some (1, 0, m), none, some (0, 0, (c : Int)), o7, o8] [] τ := by
    intro f
    induction f with
    | zero =>
      intro c τ m o7 o8 hc M _ _
      have e : c = C := by omega
      subst e
      have Nt := oz_NMM M (by decide +kernel) hN
      refine fs_m_closest_13 hG ⟨by rw [fw_c1]; decide, ?_⟩
      rw [fw_c1, show (1 : Int).toNat = 1 from rfl, (NM_n Nt).2.1, eC, cC]
      exact ⟨fun _ => h τ M, fun z => absurd z (by omega)⟩
    | succ f ih =>
      intro c τ m o7 o8 hc M m0 m1
      have Nt := oz_NMM M (by decide +kernel) hN
      have cc : fw_c (c : Int) = (c : Int) := fw_s (by omega) (by omega)
      have lb := cc_b hB c
      refine fs_m_closest_13 hG ⟨by rw [fw_c1]; decide, ?_⟩
      rw [fw_c1, show (1 : Int).toNat = 1 from rfl, (NM_n Nt).2.1, eC, cC, cc]
      refine ⟨fun z => absurd z (by omega), fun _ => ⟨A, p, q, (c : Int), rfl, ⟨ep, eq, cc⟩, Nt, fs_m_closest_32 hG ⟨fun z => ?_, fun z => ?_⟩⟩⟩
      · have no := fw_bo_eq z
        have nob : ∀ d : Nat, ¬ v_bd A p q 0 (d : Int) := fun d w => no ⟨w.1, w.2.1, w.2.2.1, w.2.2.2.1, by omega, by omega⟩
        have k := h τ M
        rw [cc_0 nob] at k
        rw [cc_0 nob]
        exact k
      · have hb := fw_bo_ne z
        have v0 := (hB c hb 0).1
        have ab2 : 0 ≤ aw A p q (c : Int) ∧ aw A p q (c : Int) ≤ 976299632280 := aw_b v0
        have hm : 0 ≤ m ∧ m ≤ 2520 * 976299632280 := by
          by_cases y : (cc_f A p q c).1 = -1
          · rw [m0 y]; decide
          · rw [m1 y]; omega
        refine ⟨A, p, q, (c : Int), rfl, Nt, (e95 τ M).trans (h3 (by have := hb.1; omega)), hb, fun τ' M' I' => fs_m_closest_43 hG ⟨by rw [fw_c0]; decide, ?_⟩⟩
        have at71 : ∀ a : Int, a = 2520 * aw A p q (c : Int) → G 71 [some (2, 93, 0), some (0, 0, p), some (0, 0, q), some (0, 0, (cc_f A p q c).1), some (1, 0, m), none, some (0, 0, (c : Int)), some (1, 0, a), none] [] τ' := by
          intro a ea
          subst ea
          have ok : ab_okM dm_N σ τ' := on_trans M (od_up M' (by decide))
          have ne : (c : Int) ≠ -1 := by omega
          have take : ((cc_f A p q c).1 = -1 ∨ aw A p q (c : Int) < (cc_f A p q c).2) → G 87 [some (2, 93, 0), some (0, 0, p), some (0, 0, q), some (0, 0, (cc_f A p q c).1), some (1, 0, m), none, some (0, 0, (c : Int)), some (1, 0, 2520 * aw A p q (c : Int)), none] [] τ' := fun z => by
            have g := ih (c + 1) τ' (2520 * aw A p q (c : Int)) (some (1, 0, 2520 * aw A p q (c : Int))) none (by omega) ok (fun y => by rw [cc_s, if_pos ⟨hb, z⟩] at y; exact absurd y ne) (fun _ => by rw [cc_s, if_pos ⟨hb, z⟩])
            rw [cc_s, if_pos ⟨hb, z⟩, show ((c + 1 : Nat) : Int) = (c : Int) + 1 from rfl] at g
            exact fs_m_closest_87 hG (fs_m_closest_94 hG g)
          refine fs_m_closest_71 hG ?_
          rw [cm, fw_s (x := (cc_f A p q c).1) (by omega) (by omega), fw_d_id (x := 2520 * aw A p q (c : Int)) (by omega) (by omega), fw_d_id (x := m) (by omega) (by omega)]
          refine ⟨fun z => take (Or.inl z), fun z => ⟨fun z2 => take (Or.inr (by have := m1 z; omega)), fun z2 => fs_m_closest_94 hG ?_⟩⟩
          have t : ¬ (v_bd A p q 0 (c : Int) ∧ ((cc_f A p q c).1 = -1 ∨ aw A p q (c : Int) < (cc_f A p q c).2)) := fun w => w.2.elim (fun y => z y) (fun y => by have := m1 z; omega)
          have g := ih (c + 1) τ' m (some (1, 0, 2520 * aw A p q (c : Int))) none (by omega) ok (fun y => by rw [cc_s, if_neg t] at y; exact m0 y) (fun y => by rw [cc_s, if_neg t] at y ⊢; exact m1 y)
          rw [cc_s, if_neg t, show ((c + 1 : Nat) : Int) = (c : Int) + 1 from rfl] at g
          exact g
        rw [fw_c0, show (0 : Int).toNat = 0 from rfl, (I' 0 (by decide)).1]
        have ea : aw A p q (c : Int) = aw_a ((v_du A p q (c : Int)).1 0) := rfl
        unfold aw_a at ea
        generalize (v_du A p q (c : Int)).1 0 = v at ea v0 ⊢
        rw [fw_d_id (x := 2 * (2520 * v) - 2460275073345600) (by omega) (by omega), show fw_d ((0 : Nat) : Int) = 0 from fw_d_id (by decide) (by decide)]
        refine ⟨fun z => at71 _ ?_, fun z => at71 _ ?_⟩
        · by_cases y : 0 < 2 * v - 976299632280
          · rw [if_pos y] at ea; omega
          · rw [if_neg y] at ea; omega
        · rw [if_neg (by omega)] at ea
          omega
  exact loop C 0 σ 0 none none (Nat.zero_add C) (fw_okM_refl _ _) (fun _ => rfl) (fun z => absurd rfl z))
end
end
section
/-! the first side against the second one's rule -/
def dr_g (C V : Nat → Int) (kd : Int) (b : Nat) : Int := if 1 < b ∧ kd * 976299632280 ≤ C (10 + b - 1) * 9 then V (b - 1) else C b
def dr_s (F : Nat → Int) : Nat → Int × Int → Int × Int
  | 0, st => st
  | b + 1, st => dr_s F b (if st.1 < F (b + 1) then (F (b + 1), ((b + 1 : Nat) : Int)) else st)
theorem dr_ss (F : Nat → Int) (b : Nat) (v mv : Int) : dr_s F (b + 1) (v, mv) = if v < F (b + 1) then dr_s F b (F (b + 1), ((b + 1 : Nat) : Int)) else dr_s F b (v, mv) := by
  show dr_s F b (if v < F (b + 1) then (F (b + 1), ((b + 1 : Nat) : Int)) else (v, mv)) = _
  by_cases q : v < F (b + 1)
  · rw [if_pos q, if_pos q]
  · rw [if_neg q, if_neg q]
theorem dr_sc {F F' : Nat → Int} : ∀ (m : Nat) (v mv : Int), (∀ b : Nat, 1 ≤ b → b ≤ m → F b = F' b) → dr_s F m (v, mv) = dr_s F' m (v, mv)
  | 0, _, _, _ => rfl
  | m + 1, v, mv, h => by
    rw [dr_ss, dr_ss, h (m + 1) (by omega) (by omega), dr_sc m (F' (m + 1)) ((m + 1 : Nat) : Int) (fun b h1 h2 => h b h1 (by omega)), dr_sc m v mv (fun b h1 h2 => h b h1 (by omega))]
theorem dr_sz {F F' : Nat → Int} : ∀ (m : Nat) (v mv : Int), (∀ b : Nat, 1 ≤ b → b ≤ m → F' b = 2520 * F b) → dr_s F' m (2520 * v, mv) = (2520 * (dr_s F m (v, mv)).1, (dr_s F m (v, mv)).2)
  | 0, _, _, _ => rfl
  | m + 1, v, mv, h => by
    have e := h (m + 1) (by omega) (by omega)
    rw [dr_ss, dr_ss]
    by_cases q : v < F (m + 1)
    · rw [if_pos q, if_pos (show 2520 * v < F' (m + 1) by omega), e]
      exact dr_sz m _ _ (fun b h1 h2 => h b h1 (by omega))
    · rw [if_neg q, if_neg (show ¬ 2520 * v < F' (m + 1) by omega)]
      exact dr_sz m _ _ (fun b h1 h2 => h b h1 (by omega))
theorem dr_sb {F : Nat → Int} {T : Nat} : ∀ (m : Nat) (v mv : Int), (∀ b : Nat, 1 ≤ b → b ≤ m → 0 ≤ F b ∧ F b ≤ 976299632280) → (0 ≤ v ∧ v ≤ 976299632280) → (0 ≤ mv ∧ mv ≤ (T : Int)) → m ≤ T → (0 ≤ (dr_s F m (v, mv)).1 ∧ (dr_s F m (v, mv)).1 ≤ 976299632280) ∧ (0 ≤ (dr_s F m (v, mv)).2 ∧ (dr_s F m (v, mv)).2 ≤ (T : Int))
  | 0, _, _, _, h1, h2, _ => ⟨h1, h2⟩
  | m + 1, v, mv, h, h1, h2, h3 => by
    have e := h (m + 1) (by omega) (by omega)
    rw [dr_ss]
    by_cases q : v < F (m + 1)
    · rw [if_pos q]
      exact dr_sb m _ _ (fun b g1 g2 => h b g1 (by omega)) e ⟨by omega, by omega⟩ (by omega)
    · rw [if_neg q]
      exact dr_sb m _ _ (fun b g1 g2 => h b g1 (by omega)) h1 h2 (by omega)
/-- value and move of the first side behind a bid of n -/
def dr_r (C V : Nat → Int) (kd : Int) (n m : Nat) : Int × Int := dr_s (dr_g C V kd) m (dl_st 976299632280 C 10 n, 0)
def dr_1 (C : Nat → Int) (kd : Int) (n m : Nat) (st : (Nat → Int) × (Nat → Int)) : (Nat → Int) × (Nat → Int) := (dl_put st.1 n (dr_r C st.1 kd n m).1, dl_put st.2 n (dr_r C st.1 kd n m).2)
def dr_n (C : Nat → Int) (kd : Int) (f : Nat) : Nat → (Nat → Int) × (Nat → Int)
  | 0 => (fun _ => 0, fun _ => 0)
  | k + 1 => dr_1 C kd ((k + 1) % 10) (dl_m f ((k + 1) % 10)) (dr_n C kd f k)
theorem dr_nn (C : Nat → Int) (kd : Int) (f : Nat) {k : Nat} (h : k < 9) : dr_n C kd f (k + 1) = dr_1 C kd (k + 1) k (dr_n C kd f k) := by
  show dr_1 C kd ((k + 1) % 10) (dl_m f ((k + 1) % 10)) (dr_n C kd f k) = _
  rw [Nat.mod_eq_of_lt (show k + 1 < 10 by omega)]
  rfl
theorem dr_nt (C : Nat → Int) (kd : Int) (f : Nat) : dr_n C kd f (9 + 1) = dr_1 C kd 0 f (dr_n C kd f 9) := rfl
def dr_B (st : (Nat → Int) × (Nat → Int)) : Prop := ∀ i : Nat, (0 ≤ st.1 i ∧ st.1 i ≤ 976299632280) ∧ (0 ≤ st.2 i ∧ st.2 i ≤ 9)
theorem dr_gb {C V : Nat → Int} {kd : Int} (hC : dl_C C) (hV : ∀ i : Nat, 0 ≤ V i ∧ V i ≤ 976299632280) {b : Nat} (h1 : 1 ≤ b) (h2 : b < 10) : 0 ≤ dr_g C V kd b ∧ dr_g C V kd b ≤ 976299632280 := by
  unfold dr_g
  split
  · exact hV _
  · exact hC b (by omega) (by omega)
theorem dr_rb {C V : Nat → Int} {kd : Int} {n m : Nat} (hn : n < 10) (hm : m < 10) (hz : n = 0 → 1 ≤ m) (hC : dl_C C) (hV : ∀ i : Nat, 0 ≤ V i ∧ V i ≤ 976299632280) : (0 ≤ (dr_r C V kd n m).1 ∧ (dr_r C V kd n m).1 ≤ 976299632280) ∧ (0 ≤ (dr_r C V kd n m).2 ∧ (dr_r C V kd n m).2 ≤ (m : Int)) := by
  unfold dr_r dl_st
  by_cases c : n = 0
  · rw [if_pos c]
    obtain ⟨m, rfl⟩ : ∃ k : Nat, m = k + 1 := ⟨m - 1, by have := hz c; omega⟩
    have e := dr_gb (kd := kd) hC hV (b := m + 1) (by omega) hm
    rw [dr_ss, if_pos (show (-1 : Int) < dr_g C V kd (m + 1) by omega)]
    exact dr_sb m _ _ (fun b h1 h2 => dr_gb hC hV h1 (by omega)) e ⟨by omega, by omega⟩ (by omega)
  · rw [if_neg c]
    have e := hC (10 + n) (by omega) (by omega)
    exact dr_sb m _ _ (fun b h1 h2 => dr_gb hC hV h1 (by omega)) ⟨by omega, by omega⟩ ⟨Int.le_refl 0, by omega⟩ (Nat.le_refl m)
theorem dr_1b {C : Nat → Int} {kd : Int} {st : (Nat → Int) × (Nat → Int)} {n m : Nat} (hB : dr_B st) (hC : dl_C C) (hn : n < 10) (hm : m < 10) (hz : n = 0 → 1 ≤ m) : dr_B (dr_1 C kd n m st) := by
  have r := dr_rb (kd := kd) (V := st.1) hn hm hz hC (fun i => (hB i).1)
  intro i
  show (0 ≤ dl_put _ _ _ i ∧ dl_put _ _ _ i ≤ 976299632280) ∧ (0 ≤ dl_put _ _ _ i ∧ dl_put _ _ _ i ≤ 9)
  by_cases c : i = n
  · subst c
    rw [dl_put_eq, dl_put_eq]
    exact ⟨r.1, r.2.1, by omega⟩
  · rw [dl_put_ne _ _ c, dl_put_ne _ _ c]
    exact hB i
theorem dr_nb {C : Nat → Int} {kd : Int} {f : Nat} (hC : dl_C C) (hf : 1 ≤ f ∧ f ≤ 9) : ∀ k : Nat, dr_B (dr_n C kd f k)
  | 0 => fun i => ⟨⟨Int.le_refl 0, show (0 : Int) ≤ 976299632280 by decide⟩, ⟨Int.le_refl 0, show (0 : Int) ≤ 9 by decide⟩⟩
  | k + 1 => by
    have b := dr_nb (kd := kd) hC hf k
    have lt : (k + 1) % 10 < 10 := Nat.mod_lt _ (by decide)
    have m : dl_m f ((k + 1) % 10) < 10 ∧ ((k + 1) % 10 = 0 → 1 ≤ dl_m f ((k + 1) % 10)) := by
      generalize (k + 1) % 10 = n at lt ⊢
      cases n with
      | zero => exact ⟨by show f < 10; omega, fun _ => hf.1⟩
      | succ n => exact ⟨by show n < 10; omega, fun z => absurd z (Nat.succ_ne_zero n)⟩
    exact dr_1b b hC lt m.1 m.2
theorem dr_gc {C C' V V' : Nat → Int} {kd : Int} {b : Nat} (h1 : C b = C' b) (h2 : 1 < b → C (10 + b - 1) = C' (10 + b - 1) ∧ V (b - 1) = V' (b - 1)) : dr_g C V kd b = dr_g C' V' kd b := by
  unfold dr_g
  by_cases c : 1 < b
  · rw [(h2 c).1, (h2 c).2, h1]
  · rw [if_neg (fun z => c z.1), if_neg (fun z => c z.1), h1]
theorem dr_rc {C C' V V' : Nat → Int} {kd : Int} {n m : Nat} (hm : m < 10) (hn : n < 10) (hC : ∀ i : Nat, i < 20 → 1 ≤ i % 10 → C i = C' i) (hV : ∀ b : Nat, 1 ≤ b → b < m → V b = V' b) : dr_r C V kd n m = dr_r C' V' kd n m := by
  unfold dr_r dl_st
  have e : ∀ b : Nat, 1 ≤ b → b ≤ m → dr_g C V kd b = dr_g C' V' kd b := fun b h1 h2 => dr_gc (hC b (by omega) (by omega)) (fun z => ⟨hC _ (by omega) (by omega), hV _ (by omega) (by omega)⟩)
  by_cases c : n = 0
  · rw [if_pos c, if_pos c]
    exact dr_sc m _ _ e
  · rw [if_neg c, if_neg c, hC (10 + n) (by omega) (by omega)]
    exact dr_sc m _ _ e
theorem dr_nc {C C' : Nat → Int} {kd : Int} {f : Nat} (hf : f ≤ 9) (h : ∀ i : Nat, i < 20 → 1 ≤ i % 10 → C i = C' i) : ∀ k : Nat, dr_n C kd f k = dr_n C' kd f k
  | 0 => rfl
  | k + 1 => by
    have lt : (k + 1) % 10 < 10 := Nat.mod_lt _ (by decide)
    have m : dl_m f ((k + 1) % 10) < 10 := by
      generalize (k + 1) % 10 = n at lt ⊢
      cases n with
      | zero => show f < 10; omega
      | succ n => show n < 10; omega
    show dr_1 C kd _ _ (dr_n C kd f k) = dr_1 C' kd _ _ (dr_n C' kd f k)
    rw [dr_nc hf h k]
    unfold dr_1
    rw [dr_rc (C' := C') (V' := (dr_n C' kd f k).1) m lt h (fun _ _ _ => rfl)]
def ds_u (σ : ab_SG) (kd : Int) (n m : Nat) : ab_SG := ab_ups (ab_ups σ 79 n (dr_r (σ 78) (σ 79) kd n m).1) 80 n (dr_r (σ 78) (σ 79) kd n m).2
theorem ds_uM {σ τ : ab_SG} (h : ab_okM du_B σ τ) (kd : Int) (n m : Nat) : ab_okM du_B σ (ds_u τ kd n m) := fw_okM_upa (fw_okM_upa h (by decide)) (by decide)
theorem ds_uA {S : Nat → Prop} {τ : ab_SG} {st : (Nat → Int) × (Nat → Int)} {C : Nat → Int} {kd : Int} {n m : Nat} (hm : m < 10) (hn : n < 10) (hA : du_A S τ st) (eC : τ 78 = C) (hr : ∀ b : Nat, 1 ≤ b → b < m → S b) : du_A (fun i => S i ∨ i = n) (ds_u τ kd n m) (dr_1 C kd n m st) := by
  have e : dr_r (τ 78) (τ 79) kd n m = dr_r C st.1 kd n m := dr_rc hm hn (fun _ _ _ => by rw [eC]) (fun b h1 h2 => (hA _ (hr b h1 h2)).1)
  intro i hi
  unfold ds_u
  rw [e]
  show _ = dl_put _ _ _ i ∧ _ = dl_put _ _ _ i
  rw [ab_ups_ne (fun z => absurd z.1 (by decide))]
  by_cases c : i = n
  · subst c
    rw [ab_ups_eq, ab_ups_eq, dl_put_eq, dl_put_eq]
    exact ⟨rfl, rfl⟩
  · have s := hA i (hi.resolve_right c)
    rw [ab_ups_ne (fun z => c z.2), ab_ups_ne (fun z => c z.2), ab_ups_ne (fun z => absurd z.1 (by decide)), dl_put_ne _ _ c, dl_put_ne _ _ c]
    exact s
def sp_speakAgainst : fw_SP := fun as σ K => ∃ (n m : Nat) (a b d : Int), as = [(2, 77, 0), (0, 0, a), (0, 0, b), (0, 0, d)] ∧ (a = (n : Int) ∧ b = (m : Int)) ∧ (n < 10 ∧ m < 10) ∧ (0 ≤ d ∧ d ≤ 9) ∧ dl_C (σ 78) ∧ (∀ b : Nat, 1 ≤ b → b < m → 0 ≤ σ 79 b ∧ σ 79 b ≤ 976299632280) ∧ K none (ds_u σ d n m)
def sp_doAgainst : fw_SP := fun as σ K => ∃ (f : Nat) (d : Int), as = [(2, 77, 0), (0, 0, (f : Int)), (0, 0, d)] ∧ (1 ≤ f ∧ f ≤ 9) ∧ (0 ≤ d ∧ d ≤ 9) ∧ dl_C (σ 78) ∧ ∀ σ' : ab_SG, ab_okM du_B σ σ' → (∀ i : Nat, i < 10 → σ' 79 i = (dr_n (σ 78) d f 10).1 i ∧ σ' 80 i = (dr_n (σ 78) d f 10).2 i) → K none σ'
def v_dr (A : ab_SG) (p q c : Int) : (Nat → Int) × (Nat → Int) := dr_n (v_ch A p.toNat q.toNat (v_set A c)) (A 56 q.toNat) (A 49 14).toNat 10
def sp_counter : fw_SP := fun as σ K => ∃ (A : ab_SG) (p q c : Int), as = [(2, 0, 0), (0, 0, p), (0, 0, q), (0, 0, c)] ∧ NC σ A ∧ v_bd A p q 0 c ∧ ∀ σ' : ab_SG, ab_okM du_M σ σ' → (∀ i : Nat, i < 10 → σ' 79 i = (v_dr A p q c).1 i ∧ σ' 80 i = (v_dr A p q c).2 i) → K none σ'
def v_reply (A : ab_SG) (p q n c : Int) : Int := if v_bd A p q n c then (v_dr A p q c).2 n.toNat else -1
def sp_reply : fw_SP := fun as σ K => ∃ (A : ab_SG) (p q n c : Int), as = [(2, 0, 0), (0, 0, p), (0, 0, q), (0, 0, n), (0, 0, c)] ∧ (fw_c p = p ∧ fw_c q = q ∧ fw_c n = n ∧ fw_c c = c) ∧ NC σ A ∧ ∀ σ' : ab_SG, ab_okM du_M σ σ' → K (some (0, 0, v_reply A p q n c)) σ'
abbrev fk_speakAgainst : List fw_CR := [(35, 3, false, 0, 0, sp_put79), (45, 2, false, 0, 0, sp_atj), (51, 3, false, 0, 0, sp_put80), (57, 2, false, 0, 0, sp_reaches)]
abbrev st_speakAgainst : fw_K → fw_KR → fw_K := fw_st vwCl nn_sh nn_kd fw_kv fw_wc (nn_KI10.map (fun x => x.1)) (nn_KJ10.map (fun x => x.1)) (nn_PF10.map (fun x => x.1)) (nn_PS10.map (fun x => x.1)) fk_speakAgainst 2 nn_dt100 11 4
theorem fs_speakAgainst_0 {G : fw_K} {R : fw_KR} (hG : fw_cls st_speakAgainst R G) {n m d : Int} {σ : ab_SG} (h : (fw_c n ≤ 0 → G 25 [some (2, 77, 0), some (0, 0, n), some (0, 0, m), some (0, 0, d), none, none, none, none, none, none, none] [(1, 0, (-1))] σ) ∧ (0 < fw_c n → sp_atj [(2, 78, 0), (0, 0, 10 + n)] σ (fun rv σ2 => G 18 [some (2, 77, 0), some (0, 0, n), some (0, 0, m), some (0, 0, d), none, none, none, none, none, none, none] (rv.toList ++ [(1, 0, 976299632280)]) σ2))) : G 0 [some (2, 77, 0), some (0, 0, n), some (0, 0, m), some (0, 0, d), none, none, none, none, none, none, none] [] σ := fw_on hG [18, 25, 33, 58, 62, 69, 70, 88, 100, 118, 134, 144] 200 h
theorem fs_speakAgainst_25 {G : fw_K} {R : fw_KR} (hG : fw_cls st_speakAgainst R G) {a1 a2 a3 b0 : Int} {o4 o5 o6 o7 o9 o10 : Option ab_AV} {σ : ab_SG} (h : G 33 [some (2, 77, 0), some (0, 0, a1), some (0, 0, a2), some (0, 0, a3), some (1, 0, b0), none, some (0, 0, 0), some (0, 0, a2), none, o9, o10] [] σ) : G 25 [some (2, 77, 0), some (0, 0, a1), some (0, 0, a2), some (0, 0, a3), o4, o5, o6, o7, none, o9, o10] [(1, 0, b0)] σ := fw_on hG [18, 25, 33, 58, 62, 69, 70, 88, 100, 118, 134, 144] 200 h
theorem fs_speakAgainst_18 {G : fw_K} {R : fw_KR} (hG : fw_cls st_speakAgainst R G) {a1 a2 a3 b0 b1 : Int} {o4 o5 o6 o7 o9 o10 : Option ab_AV} {σ : ab_SG} (h : G 25 [some (2, 77, 0), some (0, 0, a1), some (0, 0, a2), some (0, 0, a3), o4, o5, o6, o7, none, o9, o10] [(1, 0, b1 - b0)] σ) : G 18 [some (2, 77, 0), some (0, 0, a1), some (0, 0, a2), some (0, 0, a3), o4, o5, o6, o7, none, o9, o10] [(1, 0, b0), (1, 0, b1)] σ := fw_on hG [18, 25, 33, 58, 62, 69, 70, 88, 100, 118, 134, 144] 200 h
theorem fs_speakAgainst_33 {G : fw_K} {R : fw_KR} (hG : fw_cls st_speakAgainst R G) {a1 a3 a4 a6 a7 : Int} {o2 o5 o9 o10 : Option ab_AV} {σ : ab_SG} (h : (fw_c a7 ≤ 0 → sp_put79 [(2, 79, 0), (0, 0, a1), (1, 0, a4)] σ (fun rv σ2 => G 134 [some (2, 77, 0), some (0, 0, a1), o2, some (0, 0, a3), some (1, 0, a4), o5, some (0, 0, a6), some (0, 0, a7), none, o9, o10] (rv.toList ++ []) σ2)) ∧ (0 < fw_c a7 → (fw_c a7 ≤ fw_c 1 → G 69 [some (2, 77, 0), some (0, 0, a1), o2, some (0, 0, a3), some (1, 0, a4), o5, some (0, 0, a6), some (0, 0, a7), none, o9, o10] [] σ) ∧ (fw_c 1 < fw_c a7 → sp_atj [(2, 78, 0), (0, 0, (10 + a7) - 1)] σ (fun rv σ2 => G 58 [some (2, 77, 0), some (0, 0, a1), o2, some (0, 0, a3), some (1, 0, a4), o5, some (0, 0, a6), some (0, 0, a7), none, o9, o10] (rv.toList ++ []) σ2)))) : G 33 [some (2, 77, 0), some (0, 0, a1), o2, some (0, 0, a3), some (1, 0, a4), o5, some (0, 0, a6), some (0, 0, a7), none, o9, o10] [] σ := fw_on hG [18, 25, 33, 58, 62, 69, 70, 88, 100, 118, 134, 144] 200 h
theorem fs_speakAgainst_134 {G : fw_K} {R : fw_KR} (hG : fw_cls st_speakAgainst R G) {a1 a6 : Int} {o2 o3 o4 o5 o7 o9 o10 : Option ab_AV} {σ : ab_SG} (h : sp_put80 [(2, 80, 0), (0, 0, a1), (0, 0, a6)] σ (fun rv σ2 => G 144 [some (2, 77, 0), some (0, 0, a1), o2, o3, o4, o5, some (0, 0, a6), o7, none, o9, o10] (rv.toList ++ []) σ2)) : G 134 [some (2, 77, 0), some (0, 0, a1), o2, o3, o4, o5, some (0, 0, a6), o7, none, o9, o10] [] σ := fw_on hG [18, 25, 33, 58, 62, 69, 70, 88, 100, 118, 134, 144] 200 h
theorem fs_speakAgainst_69 {G : fw_K} {R : fw_KR} (hG : fw_cls st_speakAgainst R G) {a1 a3 a4 a6 a7 : Int} {o2 o5 o9 o10 : Option ab_AV} {σ : ab_SG} (h : G 70 [some (2, 77, 0), some (0, 0, a1), o2, some (0, 0, a3), some (1, 0, a4), o5, some (0, 0, a6), some (0, 0, a7), none, o9, o10] [(0, 0, 0)] σ) : G 69 [some (2, 77, 0), some (0, 0, a1), o2, some (0, 0, a3), some (1, 0, a4), o5, some (0, 0, a6), some (0, 0, a7), none, o9, o10] [] σ := fw_on hG [18, 25, 33, 58, 62, 69, 70, 88, 100, 118, 134, 144] 200 h
theorem fs_speakAgainst_58 {G : fw_K} {R : fw_KR} (hG : fw_cls st_speakAgainst R G) {a1 a3 a4 a6 a7 b0 : Int} {o2 o5 o9 o10 : Option ab_AV} {σ : ab_SG} (h : sp_reaches [(1, 0, b0), (0, 0, a3)] σ (fun rv σ2 => G 62 [some (2, 77, 0), some (0, 0, a1), o2, some (0, 0, a3), some (1, 0, a4), o5, some (0, 0, a6), some (0, 0, a7), none, o9, o10] (rv.toList ++ []) σ2)) : G 58 [some (2, 77, 0), some (0, 0, a1), o2, some (0, 0, a3), some (1, 0, a4), o5, some (0, 0, a6), some (0, 0, a7), none, o9, o10] [(1, 0, b0)] σ := fw_on hG [18, 25, 33, 58, 62, 69, 70, 88, 100, 118, 134, 144] 200 h
theorem fs_speakAgainst_144 {G : fw_K} {R : fw_KR} (hG : fw_cls st_speakAgainst R G) {o1 o2 o3 o4 o5 o6 o7 o9 o10 : Option ab_AV} {σ : ab_SG} (h : R none σ) : G 144 [some (2, 77, 0), o1, o2, o3, o4, o5, o6, o7, none, o9, o10] [] σ := fw_on hG [18, 25, 33, 58, 62, 69, 70, 88, 100, 118, 134, 144] 200 h
theorem fs_speakAgainst_70 {G : fw_K} {R : fw_KR} (hG : fw_cls st_speakAgainst R G) {a1 a3 a4 a6 a7 b0 : Int} {o2 o5 o9 o10 : Option ab_AV} {σ : ab_SG} (h : (fw_c b0 = 0 → sp_atj [(2, 78, 0), (0, 0, a7)] σ (fun rv σ2 => G 100 [some (2, 77, 0), some (0, 0, a1), o2, some (0, 0, a3), some (1, 0, a4), o5, some (0, 0, a6), some (0, 0, a7), some (0, 0, b0), o9, o10] (rv.toList ++ []) σ2)) ∧ (fw_c b0 ≠ 0 → sp_atj [(2, 79, 0), (0, 0, a7 - 1)] σ (fun rv σ2 => G 88 [some (2, 77, 0), some (0, 0, a1), o2, some (0, 0, a3), some (1, 0, a4), o5, some (0, 0, a6), some (0, 0, a7), some (0, 0, b0), o9, o10] (rv.toList ++ []) σ2))) : G 70 [some (2, 77, 0), some (0, 0, a1), o2, some (0, 0, a3), some (1, 0, a4), o5, some (0, 0, a6), some (0, 0, a7), none, o9, o10] [(0, 0, b0)] σ := fw_on hG [18, 25, 33, 58, 62, 69, 70, 88, 100, 118, 134, 144] 200 h
theorem fs_speakAgainst_62 {G : fw_K} {R : fw_KR} (hG : fw_cls st_speakAgainst R G) {a1 a3 a4 a6 a7 b0 : Int} {o2 o5 o9 o10 : Option ab_AV} {σ : ab_SG} (h : (fw_c b0 = 0 → G 69 [some (2, 77, 0), some (0, 0, a1), o2, some (0, 0, a3), some (1, 0, a4), o5, some (0, 0, a6), some (0, 0, a7), none, o9, o10] [] σ) ∧ (fw_c b0 ≠ 0 → G 70 [some (2, 77, 0), some (0, 0, a1), o2, some (0, 0, a3), some (1, 0, a4), o5, some (0, 0, a6), some (0, 0, a7), none, o9, o10] [(0, 0, 1)] σ)) : G 62 [some (2, 77, 0), some (0, 0, a1), o2, some (0, 0, a3), some (1, 0, a4), o5, some (0, 0, a6), some (0, 0, a7), none, o9, o10] [(0, 0, b0)] σ := fw_on hG [18, 25, 33, 58, 62, 69, 70, 88, 100, 118, 134, 144] 200 h
theorem fs_speakAgainst_100 {G : fw_K} {R : fw_KR} (hG : fw_cls st_speakAgainst R G) {a1 a3 a4 a6 a7 a8 b0 : Int} {o2 o5 o9 o10 : Option ab_AV} {σ : ab_SG} (h : (fw_d b0 ≤ fw_d a4 → G 118 [some (2, 77, 0), some (0, 0, a1), o2, some (0, 0, a3), some (1, 0, a4), o5, some (0, 0, a6), some (0, 0, a7), some (0, 0, a8), some (1, 0, b0), none] [] σ) ∧ (fw_d a4 < fw_d b0 → G 118 [some (2, 77, 0), some (0, 0, a1), o2, some (0, 0, a3), some (1, 0, b0), none, some (0, 0, a7), some (0, 0, a7), some (0, 0, a8), some (1, 0, b0), none] [] σ)) : G 100 [some (2, 77, 0), some (0, 0, a1), o2, some (0, 0, a3), some (1, 0, a4), o5, some (0, 0, a6), some (0, 0, a7), some (0, 0, a8), o9, o10] [(1, 0, b0)] σ := fw_on hG [18, 25, 33, 58, 62, 69, 70, 88, 100, 118, 134, 144] 200 h
theorem fs_speakAgainst_88 {G : fw_K} {R : fw_KR} (hG : fw_cls st_speakAgainst R G) {a1 a3 a4 a6 a7 a8 b0 : Int} {o2 o5 o9 o10 : Option ab_AV} {σ : ab_SG} (h : G 100 [some (2, 77, 0), some (0, 0, a1), o2, some (0, 0, a3), some (1, 0, a4), o5, some (0, 0, a6), some (0, 0, a7), some (0, 0, a8), o9, o10] [(1, 0, b0)] σ) : G 88 [some (2, 77, 0), some (0, 0, a1), o2, some (0, 0, a3), some (1, 0, a4), o5, some (0, 0, a6), some (0, 0, a7), some (0, 0, a8), o9, o10] [(1, 0, b0)] σ := fw_on hG [18, 25, 33, 58, 62, 69, 70, 88, 100, 118, 134, 144] 200 h
theorem fs_speakAgainst_118 {G : fw_K} {R : fw_KR} (hG : fw_cls st_speakAgainst R G) {a1 a3 a4 a6 a7 a8 : Int} {o2 o5 o9 o10 : Option ab_AV} {σ : ab_SG} (h : G 33 [some (2, 77, 0), some (0, 0, a1), o2, some (0, 0, a3), some (1, 0, a4), o5, some (0, 0, a6), some (0, 0, a7 + (-1)), some (0, 0, a8), o9, o10] [] σ) : G 118 [some (2, 77, 0), some (0, 0, a1), o2, some (0, 0, a3), some (1, 0, a4), o5, some (0, 0, a6), some (0, 0, a7), some (0, 0, a8), o9, o10] [] σ := fw_on hG [18, 25, 33, 58, 62, 69, 70, 88, 100, 118, 134, 144] 200 h
theorem fs_speakAgainst_33a {G : fw_K} {R : fw_KR} (hG : fw_cls st_speakAgainst R G) {a1 a3 a4 a6 a7 a8 : Int} {o2 o5 o9 o10 : Option ab_AV} {σ : ab_SG} (h : (fw_c a7 ≤ 0 → sp_put79 [(2, 79, 0), (0, 0, a1), (1, 0, a4)] σ (fun rv σ2 => G 134 [some (2, 77, 0), some (0, 0, a1), o2, some (0, 0, a3), some (1, 0, a4), o5, some (0, 0, a6), some (0, 0, a7), some (0, 0, a8), o9, o10] (rv.toList ++ []) σ2)) ∧ (0 < fw_c a7 → (fw_c a7 ≤ fw_c 1 → G 69 [some (2, 77, 0), some (0, 0, a1), o2, some (0, 0, a3), some (1, 0, a4), o5, some (0, 0, a6), some (0, 0, a7), some (0, 0, a8), o9, o10] [] σ) ∧ (fw_c 1 < fw_c a7 → sp_atj [(2, 78, 0), (0, 0, (10 + a7) - 1)] σ (fun rv σ2 => G 58 [some (2, 77, 0), some (0, 0, a1), o2, some (0, 0, a3), some (1, 0, a4), o5, some (0, 0, a6), some (0, 0, a7), some (0, 0, a8), o9, o10] (rv.toList ++ []) σ2)))) : G 33 [some (2, 77, 0), some (0, 0, a1), o2, some (0, 0, a3), some (1, 0, a4), o5, some (0, 0, a6), some (0, 0, a7), some (0, 0, a8), o9, o10] [] σ := fw_on hG [18, 25, 33, 58, 62, 69, 70, 88, 100, 118, 134, 144] 200 h
theorem fs_speakAgainst_134a {G : fw_K} {R : fw_KR} (hG : fw_cls st_speakAgainst R G) {a1 a6 a8 : Int} {o2 o3 o4 o5 o7 o9 o10 : Option ab_AV} {σ : ab_SG} (h : sp_put80 [(2, 80, 0), (0, 0, a1), (0, 0, a6)] σ (fun rv σ2 => G 144 [some (2, 77, 0), some (0, 0, a1), o2, o3, o4, o5, some (0, 0, a6), o7, some (0, 0, a8), o9, o10] (rv.toList ++ []) σ2)) : G 134 [some (2, 77, 0), some (0, 0, a1), o2, o3, o4, o5, some (0, 0, a6), o7, some (0, 0, a8), o9, o10] [] σ := fw_on hG [18, 25, 33, 58, 62, 69, 70, 88, 100, 118, 134, 144] 200 h
theorem fs_speakAgainst_69a {G : fw_K} {R : fw_KR} (hG : fw_cls st_speakAgainst R G) {a1 a3 a4 a6 a7 a8 : Int} {o2 o5 o9 o10 : Option ab_AV} {σ : ab_SG} (h : G 70 [some (2, 77, 0), some (0, 0, a1), o2, some (0, 0, a3), some (1, 0, a4), o5, some (0, 0, a6), some (0, 0, a7), some (0, 0, a8), o9, o10] [(0, 0, 0)] σ) : G 69 [some (2, 77, 0), some (0, 0, a1), o2, some (0, 0, a3), some (1, 0, a4), o5, some (0, 0, a6), some (0, 0, a7), some (0, 0, a8), o9, o10] [] σ := fw_on hG [18, 25, 33, 58, 62, 69, 70, 88, 100, 118, 134, 144] 200 h
theorem fs_speakAgainst_58a {G : fw_K} {R : fw_KR} (hG : fw_cls st_speakAgainst R G) {a1 a3 a4 a6 a7 a8 b0 : Int} {o2 o5 o9 o10 : Option ab_AV} {σ : ab_SG} (h : sp_reaches [(1, 0, b0), (0, 0, a3)] σ (fun rv σ2 => G 62 [some (2, 77, 0), some (0, 0, a1), o2, some (0, 0, a3), some (1, 0, a4), o5, some (0, 0, a6), some (0, 0, a7), some (0, 0, a8), o9, o10] (rv.toList ++ []) σ2)) : G 58 [some (2, 77, 0), some (0, 0, a1), o2, some (0, 0, a3), some (1, 0, a4), o5, some (0, 0, a6), some (0, 0, a7), some (0, 0, a8), o9, o10] [(1, 0, b0)] σ := fw_on hG [18, 25, 33, 58, 62, 69, 70, 88, 100, 118, 134, 144] 200 h
theorem fs_speakAgainst_144a {G : fw_K} {R : fw_KR} (hG : fw_cls st_speakAgainst R G) {a8 : Int} {o1 o2 o3 o4 o5 o6 o7 o9 o10 : Option ab_AV} {σ : ab_SG} (h : R none σ) : G 144 [some (2, 77, 0), o1, o2, o3, o4, o5, o6, o7, some (0, 0, a8), o9, o10] [] σ := fw_on hG [18, 25, 33, 58, 62, 69, 70, 88, 100, 118, 134, 144] 200 h
theorem fs_speakAgainst_70a {G : fw_K} {R : fw_KR} (hG : fw_cls st_speakAgainst R G) {a1 a3 a4 a6 a7 a8 b0 : Int} {o2 o5 o9 o10 : Option ab_AV} {σ : ab_SG} (h : (fw_c b0 = 0 → sp_atj [(2, 78, 0), (0, 0, a7)] σ (fun rv σ2 => G 100 [some (2, 77, 0), some (0, 0, a1), o2, some (0, 0, a3), some (1, 0, a4), o5, some (0, 0, a6), some (0, 0, a7), some (0, 0, b0), o9, o10] (rv.toList ++ []) σ2)) ∧ (fw_c b0 ≠ 0 → sp_atj [(2, 79, 0), (0, 0, a7 - 1)] σ (fun rv σ2 => G 88 [some (2, 77, 0), some (0, 0, a1), o2, some (0, 0, a3), some (1, 0, a4), o5, some (0, 0, a6), some (0, 0, a7), some (0, 0, b0), o9, o10] (rv.toList ++ []) σ2))) : G 70 [some (2, 77, 0), some (0, 0, a1), o2, some (0, 0, a3), some (1, 0, a4), o5, some (0, 0, a6), some (0, 0, a7), some (0, 0, a8), o9, o10] [(0, 0, b0)] σ := fw_on hG [18, 25, 33, 58, 62, 69, 70, 88, 100, 118, 134, 144] 200 h
theorem fs_speakAgainst_62a {G : fw_K} {R : fw_KR} (hG : fw_cls st_speakAgainst R G) {a1 a3 a4 a6 a7 a8 b0 : Int} {o2 o5 o9 o10 : Option ab_AV} {σ : ab_SG} (h : (fw_c b0 = 0 → G 69 [some (2, 77, 0), some (0, 0, a1), o2, some (0, 0, a3), some (1, 0, a4), o5, some (0, 0, a6), some (0, 0, a7), some (0, 0, a8), o9, o10] [] σ) ∧ (fw_c b0 ≠ 0 → G 70 [some (2, 77, 0), some (0, 0, a1), o2, some (0, 0, a3), some (1, 0, a4), o5, some (0, 0, a6), some (0, 0, a7), some (0, 0, a8), o9, o10] [(0, 0, 1)] σ)) : G 62 [some (2, 77, 0), some (0, 0, a1), o2, some (0, 0, a3), some (1, 0, a4), o5, some (0, 0, a6), some (0, 0, a7), some (0, 0, a8), o9, o10] [(0, 0, b0)] σ := fw_on hG [18, 25, 33, 58, 62, 69, 70, 88, 100, 118, 134, 144] 200 h
abbrev fk_doAgainst : List fw_CR := [(54, 3, true, 0, 2, sp_speakAgainst)]
abbrev st_doAgainst : fw_K → fw_KR → fw_K := fw_st vwCl nn_sh nn_kd fw_kv fw_wc (nn_KI10.map (fun x => x.1)) (nn_KJ10.map (fun x => x.1)) (nn_PF10.map (fun x => x.1)) (nn_PS10.map (fun x => x.1)) fk_doAgainst 3 nn_dt99 4 4
theorem fs_doAgainst_0 {G : fw_K} {R : fw_KR} (hG : fw_cls st_doAgainst R G) {f d : Int} {σ : ab_SG} (h : G 2 [some (2, 77, 0), some (0, 0, f), some (0, 0, d), some (0, 0, 1)] [] σ) : G 0 [some (2, 77, 0), some (0, 0, f), some (0, 0, d), none] [] σ := fw_on hG [2, 17, 30] 200 h
theorem fs_doAgainst_2 {G : fw_K} {R : fw_KR} (hG : fw_cls st_doAgainst R G) {a1 a2 a3 : Int} {σ : ab_SG} (h : (fw_c 9 < fw_c a3 → sp_speakAgainst [(2, 77, 0), (0, 0, 0), (0, 0, a1), (0, 0, a2)] σ (fun rv σ2 => G 30 [some (2, 77, 0), some (0, 0, a1), some (0, 0, a2), some (0, 0, a3)] (rv.toList ++ []) σ2)) ∧ (fw_c a3 ≤ fw_c 9 → sp_speakAgainst [(2, 77, 0), (0, 0, a3), (0, 0, a3 - 1), (0, 0, a2)] σ (fun rv σ2 => G 17 [some (2, 77, 0), some (0, 0, a1), some (0, 0, a2), some (0, 0, a3)] (rv.toList ++ []) σ2))) : G 2 [some (2, 77, 0), some (0, 0, a1), some (0, 0, a2), some (0, 0, a3)] [] σ := fw_on hG [2, 17, 30] 200 h
theorem fs_doAgainst_30 {G : fw_K} {R : fw_KR} (hG : fw_cls st_doAgainst R G) {a1 a2 a3 : Int} {σ : ab_SG} (h : R none σ) : G 30 [some (2, 77, 0), some (0, 0, a1), some (0, 0, a2), some (0, 0, a3)] [] σ := fw_on hG [2, 17, 30] 200 h
theorem fs_doAgainst_17 {G : fw_K} {R : fw_KR} (hG : fw_cls st_doAgainst R G) {a1 a2 a3 : Int} {σ : ab_SG} (h : G 2 [some (2, 77, 0), some (0, 0, a1), some (0, 0, a2), some (0, 0, a3 + 1)] [] σ) : G 17 [some (2, 77, 0), some (0, 0, a1), some (0, 0, a2), some (0, 0, a3)] [] σ := fw_on hG [2, 17, 30] 200 h
abbrev fk_counter : List fw_CR := [(169, 1, true, 6, 1, sp_setOf3), (180, 2, false, 0, 0, sp_atc), (463, 5, true, 0, 4, sp_hear), (470, 2, true, 0, 3, sp_doAgainst)]
abbrev st_counter : fw_K → fw_KR → fw_K := fw_st vwCl nn_sh nn_kd fw_kv fw_wc (nn_KI1.map (fun x => x.1)) (nn_KJ1.map (fun x => x.1)) (nn_PF1.map (fun x => x.1)) (nn_PS1.map (fun x => x.1)) fk_counter 5 nn_dt98 4 4
theorem fs_counter_0 {G : fw_K} {R : fw_KR} (hG : fw_cls st_counter R G) {p q c : Int} {σ : ab_SG} (h : sp_setOf3 [(2, 3, 0), (0, 0, c)] σ (fun rv σ2 => G 22 [some (2, 0, 0), some (0, 0, p), some (0, 0, q), some (0, 0, c)] (rv.toList ++ [(0, 0, q), (0, 0, p), (2, 73, 0), (2, 3, 0), (2, 77, 0)]) σ2)) : G 0 [some (2, 0, 0), some (0, 0, p), some (0, 0, q), some (0, 0, c)] [] σ := fw_on hG [22, 25, 47, 50] 200 h
theorem fs_counter_22 {G : fw_K} {R : fw_KR} (hG : fw_cls st_counter R G) {a1 a2 a3 b0 b1 b2 : Int} {σ : ab_SG} (h : sp_hear [(2, 77, 0), (2, 3, 0), (2, 73, 0), (0, 0, b2), (0, 0, b1), (0, 0, b0)] σ (fun rv σ2 => G 25 [some (2, 0, 0), some (0, 0, a1), some (0, 0, a2), some (0, 0, a3)] (rv.toList ++ []) σ2)) : G 22 [some (2, 0, 0), some (0, 0, a1), some (0, 0, a2), some (0, 0, a3)] [(0, 0, b0), (0, 0, b1), (0, 0, b2), (2, 73, 0), (2, 3, 0), (2, 77, 0)] σ := fw_on hG [22, 25, 47, 50] 200 h
theorem fs_counter_25 {G : fw_K} {R : fw_KR} (hG : fw_cls st_counter R G) {a1 a2 a3 : Int} {σ : ab_SG} (h : sp_atc [(2, 10, 0), (0, 0, a2)] σ (fun rv σ2 => G 47 [some (2, 0, 0), some (0, 0, a1), some (0, 0, a2), some (0, 0, a3)] (rv.toList ++ [(0, 0, σ 3 14), (2, 77, 0)]) σ2)) : G 25 [some (2, 0, 0), some (0, 0, a1), some (0, 0, a2), some (0, 0, a3)] [] σ := fw_on hG [22, 25, 47, 50] 200 h
theorem fs_counter_47 {G : fw_K} {R : fw_KR} (hG : fw_cls st_counter R G) {a1 a2 a3 b0 b1 : Int} {σ : ab_SG} (h : sp_doAgainst [(2, 77, 0), (0, 0, b1), (0, 0, b0)] σ (fun rv σ2 => G 50 [some (2, 0, 0), some (0, 0, a1), some (0, 0, a2), some (0, 0, a3)] (rv.toList ++ []) σ2)) : G 47 [some (2, 0, 0), some (0, 0, a1), some (0, 0, a2), some (0, 0, a3)] [(0, 0, b0), (0, 0, b1), (2, 77, 0)] σ := fw_on hG [22, 25, 47, 50] 200 h
theorem fs_counter_50 {G : fw_K} {R : fw_KR} (hG : fw_cls st_counter R G) {a1 a2 a3 : Int} {σ : ab_SG} (h : R none σ) : G 50 [some (2, 0, 0), some (0, 0, a1), some (0, 0, a2), some (0, 0, a3)] [] σ := fw_on hG [22, 25, 47, 50] 200 h
abbrev fk_reply : List fw_CR := [(239, 4, true, 10, 2, sp_canBid), (246, 2, true, 0, 1, sp_dmove), (253, 3, true, 10, 5, sp_counter)]
abbrev st_reply : fw_K → fw_KR → fw_K := fw_st vwCl nn_sh nn_kd fw_kv fw_wc (nn_KI1.map (fun x => x.1)) (nn_KJ1.map (fun x => x.1)) (nn_PF1.map (fun x => x.1)) (nn_PS1.map (fun x => x.1)) fk_reply 6 nn_dt97 5 0
theorem fs_reply_0 {G : fw_K} {R : fw_KR} (hG : fw_cls st_reply R G) {p q n c : Int} {σ : ab_SG} (h : sp_canBid [(2, 0, 0), (0, 0, p), (0, 0, q), (0, 0, n), (0, 0, c)] σ (fun rv σ2 => G 9 [some (2, 0, 0), some (0, 0, p), some (0, 0, q), some (0, 0, n), some (0, 0, c)] (rv.toList ++ []) σ2)) : G 0 [some (2, 0, 0), some (0, 0, p), some (0, 0, q), some (0, 0, n), some (0, 0, c)] [] σ := fw_on hG [9, 22, 31] 200 h
theorem fs_reply_9 {G : fw_K} {R : fw_KR} (hG : fw_cls st_reply R G) {a1 a2 a3 a4 b0 : Int} {σ : ab_SG} (h : (fw_c b0 ≠ 0 → sp_counter [(2, 0, 0), (0, 0, a1), (0, 0, a2), (0, 0, a4)] σ (fun rv σ2 => G 22 [some (2, 0, 0), some (0, 0, a1), some (0, 0, a2), some (0, 0, a3), some (0, 0, a4)] (rv.toList ++ []) σ2)) ∧ (fw_c b0 = 0 → R (some (0, 0, (-1))) σ)) : G 9 [some (2, 0, 0), some (0, 0, a1), some (0, 0, a2), some (0, 0, a3), some (0, 0, a4)] [(0, 0, b0)] σ := fw_on hG [9, 22, 31] 200 h
theorem fs_reply_22 {G : fw_K} {R : fw_KR} (hG : fw_cls st_reply R G) {a1 a2 a3 a4 : Int} {σ : ab_SG} (h : sp_dmove [(2, 77, 0), (0, 0, 0), (0, 0, a3)] σ (fun rv σ2 => G 31 [some (2, 0, 0), some (0, 0, a1), some (0, 0, a2), some (0, 0, a3), some (0, 0, a4)] (rv.toList ++ []) σ2)) : G 22 [some (2, 0, 0), some (0, 0, a1), some (0, 0, a2), some (0, 0, a3), some (0, 0, a4)] [] σ := fw_on hG [9, 22, 31] 200 h
theorem fs_reply_31 {G : fw_K} {R : fw_KR} (hG : fw_cls st_reply R G) {a1 a2 a3 a4 b0 : Int} {σ : ab_SG} (h : R (some (0, 0, b0)) σ) : G 31 [some (2, 0, 0), some (0, 0, a1), some (0, 0, a2), some (0, 0, a3), some (0, 0, a4)] [(0, 0, b0)] σ := fw_on hG [9, 22, 31] 200 h

section
variable {l : Launch} {cy : Nat → ClassId} {ad wr cr : Nat → Nat} {D : va_G}
theorem fm_speakAgainst (hinj : nn_inj ad) : fw_H l cy ad wr cr D 100 2 sp_speakAgainst := fw_mk hinj (⟨"NameNotes$Duel", "speakAgainst", "(III)V"⟩, prog_2_method_6_code, 11, (Option.none : Option Jvm.ClassFile.FieldType), 3, true, 4) rfl rfl nn_KI10_ok nn_KJ10_ok nn_PF10_ok nn_PS10_ok (by decide +kernel) rfl rfl (List.forall_mem_cons.mpr ⟨fw_row nn_PM10_ok (x := 35) (k := 2) (mn := 26) (np := 3) (ob := false) (ci := 0) (⟨"NameNotes", "put", "([JIJ)V"⟩, prog_1_method_87_code, 4, (Option.none : Option Jvm.ClassFile.FieldType), 3, false, 4) rfl (by decide +kernel) rfl rfl (by decide) (fun q => by cases q) (fm_put79 hinj), (List.forall_mem_cons.mpr ⟨fw_row nn_PM10_ok (x := 45) (k := 2) (mn := 87) (np := 2) (ob := false) (ci := 0) (⟨"NameNotes", "at", "([JI)J"⟩, prog_1_method_85_code, 2, (Option.some Jvm.ClassFile.FieldType.long), 2, false, 2) rfl (by decide +kernel) rfl rfl (by decide) (fun q => by cases q) (fm_atj hinj), (List.forall_mem_cons.mpr ⟨fw_row nn_PM10_ok (x := 51) (k := 2) (mn := 27) (np := 3) (ob := false) (ci := 0) (⟨"NameNotes", "put", "([III)V"⟩, prog_1_method_86_code, 3, (Option.none : Option Jvm.ClassFile.FieldType), 3, false, 4) rfl (by decide +kernel) rfl rfl (by decide) (fun q => by cases q) (fm_put80 hinj), (List.forall_mem_cons.mpr ⟨fw_row nn_PM10_ok (x := 57) (k := 2) (mn := 89) (np := 2) (ob := false) (ci := 0) (⟨"NameNotes", "reaches", "(JI)Z"⟩, prog_1_method_78_code, 3, (Option.some Jvm.ClassFile.FieldType.boolean), 2, false, 1) rfl (by decide +kernel) rfl rfl (by decide) (fun q => by cases q) (fm_reaches hinj), (fun _ h => absurd h List.not_mem_nil)⟩)⟩)⟩)⟩) (fun as σ K h => by
  obtain ⟨n, m, a, b, d, rfl, ⟨rfl, rfl⟩, ⟨hn, hm⟩, hd, hC, hV, h⟩ := h
  unfold ds_u dr_r dl_st at h
  have c1 : fw_c 1 = 1 := fw_s (by decide) (by decide)
  obtain ⟨F, eF⟩ : ∃ F : Nat → Int, F = dr_g (σ 78) (σ 79) d := ⟨_, rfl⟩
  have hF : ∀ b : Nat, dr_g (σ 78) (σ 79) d b = F b := fun b => by rw [eF]
  have Fb : ∀ b : Nat, 1 ≤ b → b ≤ m → 0 ≤ F b ∧ F b ≤ 976299632280 := fun b h1 h2 => by
    rw [← hF b]
    unfold dr_g
    split
    · exact hV _ (by omega) (by omega)
    · exact hC b (by omega) (by omega)
  rw [← eF] at h
  generalize hR : dr_s F m (if n = 0 then -1 else 976299632280 - σ 78 (10 + n), 0) = R at h
  refine ⟨rfl, fun G hG => ?_⟩
  have loop : ∀ (f b : Nat) (v mv : Int) (o2 o5 o8 o9 o10 : Option ab_AV), b = f → b ≤ m → (-1 ≤ v ∧ v ≤ 976299632280) → (0 ≤ mv ∧ mv ≤ 9) → (o8 = none ∨ ∃ x : Int, o8 = some (0, 0, x)) → dr_s F b (v, mv) = R → G 33 [some (2, 77, 0), some (0, 0, (n : Int)), o2, some (0, 0, d), some (1, 0, v), o5, some (0, 0, mv), some (0, 0, (b : Int)), o8, o9, o10] [] σ := by
    intro f
    induction f with
    | zero =>
      intro b v mv o2 o5 o8 o9 o10 hb hbm hv hmv h8 e
      have cb : fw_c (b : Int) = (b : Int) := oz_c9 b (by omega)
      have cn : fw_c (n : Int) = (n : Int) := oz_c9 n hn
      have e2 : (v, mv) = R := by rw [← e, hb]; rfl
      rw [← e2] at h
      rcases h8 with rfl | ⟨x, rfl⟩
      · refine fs_speakAgainst_33 hG ?_
        rw [cb]
        refine ⟨fun _ => ⟨_, _, rfl, fun _ => ?_, fun z => absurd (by rw [cn]; omega) z⟩, fun z => absurd z (by omega)⟩
        rw [cn, Int.toNat_natCast, fw_d_id (x := v) (by omega) (by omega)]
        refine fs_speakAgainst_134 hG ⟨_, _, rfl, fun _ => ?_, fun z => absurd (by rw [cn]; omega) z⟩
        rw [cn, Int.toNat_natCast, fw_s (x := mv) (by omega) (by omega)]
        exact fs_speakAgainst_144 hG h
      · refine fs_speakAgainst_33a hG ?_
        rw [cb]
        refine ⟨fun _ => ⟨_, _, rfl, fun _ => ?_, fun z => absurd (by rw [cn]; omega) z⟩, fun z => absurd z (by omega)⟩
        rw [cn, Int.toNat_natCast, fw_d_id (x := v) (by omega) (by omega)]
        refine fs_speakAgainst_134a hG ⟨_, _, rfl, fun _ => ?_, fun z => absurd (by rw [cn]; omega) z⟩
        rw [cn, Int.toNat_natCast, fw_s (x := mv) (by omega) (by omega)]
        exact fs_speakAgainst_144a hG h
    | succ f ih =>
      intro b v mv o2 o5 o8 o9 o10 hb hbm hv hmv h8 e
      subst hb
      have cb : fw_c ((f + 1 : Nat) : Int) = ((f + 1 : Nat) : Int) := oz_c9 (f + 1) (by omega)
      have vb := Fb (f + 1) (by omega) hbm
      rw [dr_ss] at e
      -- behind the price of the bid
      have at100 : ∀ (x : Int) (o9 o10 : Option ab_AV), G 100 [some (2, 77, 0), some (0, 0, (n : Int)), o2, some (0, 0, d), some (1, 0, v), o5, some (0, 0, mv), some (0, 0, ((f + 1 : Nat) : Int)), some (0, 0, x), o9, o10] [(1, 0, F (f + 1))] σ := by
        intro x o9 o10
        refine fs_speakAgainst_100 hG ?_
        rw [fw_d_id (x := F (f + 1)) (by omega) (by omega), fw_d_id (x := v) (by omega) (by omega)]
        refine ⟨fun z => fs_speakAgainst_118 hG ?_, fun z => fs_speakAgainst_118 hG ?_⟩
        · rw [if_neg (by omega)] at e
          have g := ih f v mv o2 o5 (some (0, 0, x)) (some (1, 0, F (f + 1))) none rfl (by omega) hv hmv (Or.inr ⟨x, rfl⟩) e
          rw [show ((f : Nat) : Int) = ((f + 1 : Nat) : Int) + (-1) by omega] at g
          exact g
        · rw [if_pos z] at e
          have g := ih f (F (f + 1)) ((f + 1 : Nat) : Int) o2 none (some (0, 0, x)) (some (1, 0, F (f + 1))) none rfl (by omega) (by omega) (by omega) (Or.inr ⟨x, rfl⟩) e
          rw [show ((f : Nat) : Int) = ((f + 1 : Nat) : Int) + (-1) by omega] at g
          exact g
      have hno : ¬ (1 < f + 1 ∧ d * 976299632280 ≤ σ 78 (10 + (f + 1) - 1) * 9) → F (f + 1) = σ 78 (f + 1) := fun z => by rw [← hF]; unfold dr_g; rw [if_neg z]
      have hyes : (1 < f + 1 ∧ d * 976299632280 ≤ σ 78 (10 + (f + 1) - 1) * 9) → F (f + 1) = σ 79 (f + 1 - 1) := fun z => by rw [← hF]; unfold dr_g; rw [if_pos z]
      have ci : fw_c ((10 + ((f + 1 : Nat) : Int)) - 1) = ((10 + (f + 1) - 1 : Nat) : Int) := by
        rw [show (10 + ((f + 1 : Nat) : Int)) - 1 = ((10 + (f + 1) - 1 : Nat) : Int) by omega]
        exact fw_s (by omega) (by omega)
      have cj : fw_c (((f + 1 : Nat) : Int) - 1) = ((f + 1 - 1 : Nat) : Int) := by
        rw [show ((f + 1 : Nat) : Int) - 1 = ((f + 1 - 1 : Nat) : Int) by omega]
        exact fw_s (by omega) (by omega)
      rcases h8 with rfl | ⟨x, rfl⟩
      · have no : F (f + 1) = σ 78 (f + 1) → G 69 [some (2, 77, 0), some (0, 0, (n : Int)), o2, some (0, 0, d), some (1, 0, v), o5, some (0, 0, mv), some (0, 0, ((f + 1 : Nat) : Int)), none, o9, o10] [] σ := fun ef => by
          refine fs_speakAgainst_69 hG (fs_speakAgainst_70 hG ⟨fun _ => ⟨(78, 20), by decide, _, rfl, fun _ => ?_, fun z => absurd (by rw [cb]; show _ ∧ _ < (20 : Int); omega) z⟩, fun z => absurd fw_c0 z⟩)
          rw [cb, Int.toNat_natCast, ← ef]
          exact at100 0 o9 o10
        refine fs_speakAgainst_33 hG ?_
        rw [cb, c1]
        refine ⟨fun z => absurd z (by omega), fun _ => ⟨fun z => no (hno (fun w => by omega)), fun z => ⟨(78, 20), by decide, _, rfl, fun _ => ?_, fun y => absurd (by rw [ci]; show _ ∧ _ < (20 : Int); omega) y⟩⟩⟩
        rw [ci, Int.toNat_natCast]
        have b8 := hC (10 + (f + 1) - 1) (by omega) (by omega)
        refine fs_speakAgainst_58 hG ⟨_, _, rfl, b8, hd, fs_speakAgainst_62 hG ⟨fun y => no (hno (fun w => fw_bo_eq y w.2)), fun y => ?_⟩⟩
        have ef := hyes ⟨by omega, fw_bo_ne y⟩
        refine fs_speakAgainst_70 hG ⟨fun y => absurd y (by rw [c1]; decide), fun _ => ⟨(79, 20), by decide, _, rfl, fun _ => ?_, fun y => absurd (by rw [cj]; show _ ∧ _ < (20 : Int); omega) y⟩⟩
        rw [cj, Int.toNat_natCast, ← ef]
        exact fs_speakAgainst_88 hG (at100 1 o9 o10)
      · have no : F (f + 1) = σ 78 (f + 1) → G 69 [some (2, 77, 0), some (0, 0, (n : Int)), o2, some (0, 0, d), some (1, 0, v), o5, some (0, 0, mv), some (0, 0, ((f + 1 : Nat) : Int)), some (0, 0, x), o9, o10] [] σ := fun ef => by
          refine fs_speakAgainst_69a hG (fs_speakAgainst_70a hG ⟨fun _ => ⟨(78, 20), by decide, _, rfl, fun _ => ?_, fun z => absurd (by rw [cb]; show _ ∧ _ < (20 : Int); omega) z⟩, fun z => absurd fw_c0 z⟩)
          rw [cb, Int.toNat_natCast, ← ef]
          exact at100 0 o9 o10
        refine fs_speakAgainst_33a hG ?_
        rw [cb, c1]
        refine ⟨fun z => absurd z (by omega), fun _ => ⟨fun z => no (hno (fun w => by omega)), fun z => ⟨(78, 20), by decide, _, rfl, fun _ => ?_, fun y => absurd (by rw [ci]; show _ ∧ _ < (20 : Int); omega) y⟩⟩⟩
        rw [ci, Int.toNat_natCast]
        have b8 := hC (10 + (f + 1) - 1) (by omega) (by omega)
        refine fs_speakAgainst_58a hG ⟨_, _, rfl, b8, hd, fs_speakAgainst_62a hG ⟨fun y => no (hno (fun w => fw_bo_eq y w.2)), fun y => ?_⟩⟩
        have ef := hyes ⟨by omega, fw_bo_ne y⟩
        refine fs_speakAgainst_70a hG ⟨fun y => absurd y (by rw [c1]; decide), fun _ => ⟨(79, 20), by decide, _, rfl, fun _ => ?_, fun y => absurd (by rw [cj]; show _ ∧ _ < (20 : Int); omega) y⟩⟩
        rw [cj, Int.toNat_natCast, ← ef]
        exact fs_speakAgainst_88 hG (at100 1 o9 o10)
  have cn10 : fw_c (10 + (n : Int)) = ((10 + n : Nat) : Int) := by
    rw [show 10 + (n : Int) = ((10 + n : Nat) : Int) by omega]
    exact fw_s (by omega) (by omega)
  refine fs_speakAgainst_0 hG ?_
  rw [oz_c9 n hn]
  refine ⟨fun z => fs_speakAgainst_25 hG ?_, fun z => ⟨(78, 20), by decide, _, rfl, fun _ => ?_, fun y => absurd (by rw [cn10]; show _ ∧ _ < (20 : Int); omega) y⟩⟩
  · rw [if_pos (show n = 0 by omega)] at hR
    exact loop m m (-1) 0 _ _ _ _ _ rfl (Nat.le_refl m) (by decide) (by decide) (Or.inl rfl) hR
  · rw [cn10, Int.toNat_natCast]
    rw [if_neg (show ¬ n = 0 by omega)] at hR
    have b := hC (10 + n) (by omega) (by omega)
    exact fs_speakAgainst_18 hG (fs_speakAgainst_25 hG (loop m m (976299632280 - σ 78 (10 + n)) 0 _ _ _ _ _ rfl (Nat.le_refl m) (by omega) (by decide) (Or.inl rfl) hR)))
theorem fm_doAgainst (hinj : nn_inj ad) : fw_H l cy ad wr cr D 99 3 sp_doAgainst := fw_mk hinj (⟨"NameNotes$Duel", "doAgainst", "(II)V"⟩, prog_2_method_5_code, 4, (Option.none : Option Jvm.ClassFile.FieldType), 2, true, 4) rfl rfl nn_KI10_ok nn_KJ10_ok nn_PF10_ok nn_PS10_ok (by decide +kernel) rfl rfl (List.forall_mem_cons.mpr ⟨fw_row nn_PM10_ok (x := 54) (k := 0) (mn := 100) (np := 3) (ob := true) (ci := 0) (⟨"NameNotes$Duel", "speakAgainst", "(III)V"⟩, prog_2_method_6_code, 11, (Option.none : Option Jvm.ClassFile.FieldType), 3, true, 4) rfl (by decide +kernel) rfl rfl (by decide) (fun _ => ⟨_, _, rfl⟩) (fm_speakAgainst hinj), (fun _ h => absurd h List.not_mem_nil)⟩) (fun as σ K h => by
  obtain ⟨f, d, rfl, hf, hd, hC, h⟩ := h
  have c9 : fw_c 9 = 9 := fw_s (by decide) (by decide)
  refine ⟨rfl, fun G hG => fs_doAgainst_0 hG ?_⟩
  have loop : ∀ (g k : Nat) (τ : ab_SG), k + g = 9 → ab_okM du_B σ τ → du_A (fun i => 1 ≤ i ∧ i ≤ k) τ (dr_n (σ 78) d f k) → G 2 [some (2, 77, 0), some (0, 0, (f : Int)), some (0, 0, d), some (0, 0, ((k + 1 : Nat) : Int))] [] τ := by
    intro g
    induction g with
    | zero =>
      intro k τ hk M I
      have ek : k = 9 := by omega
      subst ek
      have B := dr_nb (kd := d) hC hf 9
      have e78 := du_B78 M
      have A1 := ds_uA (kd := d) (n := 0) (m := f) (C := σ 78) (by omega) (by decide) I e78 (fun b h1 h2 => ⟨h1, by omega⟩)
      refine fs_doAgainst_2 hG ?_
      rw [c9, fw_s (x := ((9 + 1 : Nat) : Int)) (by decide) (by decide)]
      refine ⟨fun _ => ⟨0, f, _, _, _, rfl, ⟨rfl, rfl⟩, ⟨by decide, by omega⟩, hd, by rw [e78]; exact hC, fun b h1 h2 => by rw [(I b ⟨h1, by omega⟩).1]; exact (B b).1, fs_doAgainst_30 hG (h _ (ds_uM M d 0 f) (fun i hi => ?_))⟩, fun z => absurd z (by decide)⟩
      have g := A1 i (by show (_ ∧ _) ∨ _; omega)
      rw [show (10 : Nat) = 9 + 1 from rfl, dr_nt]
      exact g
    | succ g ih =>
      intro k τ hk M I
      have B := dr_nb (kd := d) hC hf k
      have e78 := du_B78 M
      have A1 := ds_uA (kd := d) (n := k + 1) (m := k) (C := σ 78) (by omega) (by omega) I e78 (fun b h1 h2 => ⟨h1, by omega⟩)
      refine fs_doAgainst_2 hG ?_
      rw [c9, oz_c9 (k + 1) (by omega)]
      refine ⟨fun z => absurd z (by omega), fun _ => ⟨k + 1, k, _, _, _, rfl, ⟨rfl, by omega⟩, ⟨by omega, by omega⟩, hd, by rw [e78]; exact hC, fun b h1 h2 => by rw [(I b ⟨h1, by omega⟩).1]; exact (B b).1, fs_doAgainst_17 hG ?_⟩⟩
      have w := ih (k + 1) _ (by omega) (ds_uM M d (k + 1) k) (fun i hi => by
        rw [dr_nn _ _ _ (by omega)]
        exact A1 i (by have := hi.1; have := hi.2; show (_ ∧ _) ∨ _; omega))
      rw [show ((k + 1 + 1 : Nat) : Int) = ((k + 1 : Nat) : Int) + 1 from rfl] at w
      exact w
  exact loop 9 0 σ rfl (fw_okM_refl _ _) (fun i hi => absurd hi.1 (by have := hi.2; omega)))
theorem fm_counter (hinj : nn_inj ad) : fw_H l cy ad wr cr D 98 5 sp_counter := fw_mk hinj (⟨"NameNotes", "counter", "(III)V"⟩, prog_1_method_67_code, 4, (Option.none : Option Jvm.ClassFile.FieldType), 3, true, 4) rfl rfl nn_KI1_ok nn_KJ1_ok nn_PF1_ok nn_PS1_ok (by decide +kernel) rfl rfl (List.forall_mem_cons.mpr ⟨fw_row nn_PM1_ok (x := 169) (k := 0) (mn := 64) (np := 1) (ob := true) (ci := 6) (⟨"NameNotes$Studio", "setOf", "(I)I"⟩, prog_8_method_8_code, 2, (Option.some Jvm.ClassFile.FieldType.int), 1, true, 0) rfl (by decide +kernel) rfl rfl (by decide) (fun _ => ⟨_, _, rfl⟩) (fm_setOf3 hinj), (List.forall_mem_cons.mpr ⟨fw_row nn_PM1_ok (x := 180) (k := 0) (mn := 29) (np := 2) (ob := false) (ci := 0) (⟨"NameNotes", "at", "([II)I"⟩, prog_1_method_84_code, 2, (Option.some Jvm.ClassFile.FieldType.int), 2, false, 0) rfl (by decide +kernel) rfl rfl (by decide) (fun q => by cases q) (fm_atc hinj), (List.forall_mem_cons.mpr ⟨fw_row nn_PM1_ok (x := 463) (k := 0) (mn := 93) (np := 5) (ob := true) (ci := 0) (⟨"NameNotes$Duel", "hear", "(LNameNotes$Studio;LNameNotes$Ear;III)V"⟩, prog_2_method_2_code, 7, (Option.none : Option Jvm.ClassFile.FieldType), 5, true, 4) rfl (by decide +kernel) rfl rfl (by decide) (fun _ => ⟨_, _, rfl⟩) (fm_hear hinj), (List.forall_mem_cons.mpr ⟨fw_row nn_PM1_ok (x := 470) (k := 0) (mn := 99) (np := 2) (ob := true) (ci := 0) (⟨"NameNotes$Duel", "doAgainst", "(II)V"⟩, prog_2_method_5_code, 4, (Option.none : Option Jvm.ClassFile.FieldType), 2, true, 4) rfl (by decide +kernel) rfl rfl (by decide) (fun _ => ⟨_, _, rfl⟩) (fm_doAgainst hinj), (fun _ h => absurd h List.not_mem_nil)⟩)⟩)⟩)⟩) (fun as σ K h => by
  obtain ⟨A, p, q, c, rfl, hN, hb, h⟩ := h
  have nn := N_n hN.1
  obtain ⟨h1, h2, h3, h4, h5⟩ := hb
  obtain ⟨p, rfl⟩ := Int.eq_ofNat_of_zero_le h1.1
  obtain ⟨q, rfl⟩ := Int.eq_ofNat_of_zero_le h2.1
  have fb := hN.2.1.2.2.2.2
  have db := hN.2.1.2.2.2.1 q (by omega)
  obtain ⟨f, ef⟩ := Int.eq_ofNat_of_zero_le (show 0 ≤ A 49 14 by omega)
  have cl := oz_clue hN.1 hN.2.1 h5.1 h5.2
  unfold v_dr at h
  rw [ef] at h fb
  rw [Int.toNat_natCast, Int.toNat_natCast, Int.toNat_natCast] at h
  refine ⟨rfl, fun G hG => fs_counter_0 hG ⟨A, c, rfl, hN, by omega, fs_counter_22 hG ⟨A, p, q, v_set A c, rfl, hN, by omega, by omega, cl.1, cl.2, fun σ1 M1 I1 => fs_counter_25 hG ⟨(10, 5), by decide, _, rfl, fun _ => ?_, fun z => absurd (by rw [oz_c9 q (by omega)]; show _ ∧ _ < (5 : Int); omega) z⟩⟩⟩⟩
  have N1 := oz_NCM M1 (by decide +kernel) hN
  have cb := v_chb hN (show p < 5 by omega) (show q < 5 by omega) cl.1
  have e14 : σ1 3 14 = A 49 14 := N1.2.2.2.2.2.1
  have e10 : σ1 10 q = A 56 q := N1.2.2.2.2.2.2.2.2.2.1 q (by omega)
  rw [oz_c9 q (by omega), Int.toNat_natCast, e14, ef, e10]
  refine fs_counter_47 hG ⟨f, A 56 q, rfl, by omega, db, fun i hi hm => by rw [I1 i hi hm]; exact cb i hi hm, fun σ2 M2 I2 => fs_counter_50 hG (h σ2 (on_trans (od_up M1 (by decide)) (od_up M2 (by decide))) (fun i hi => ?_))⟩
  rw [← dr_nc (by omega) I1 10]
  exact I2 i hi)
theorem fm_reply (hinj : nn_inj ad) : fw_H l cy ad wr cr D 97 6 sp_reply := fw_mk hinj (⟨"NameNotes", "reply", "(IIII)I"⟩, prog_1_method_20_code, 5, (Option.some Jvm.ClassFile.FieldType.int), 4, true, 0) rfl rfl nn_KI1_ok nn_KJ1_ok nn_PF1_ok nn_PS1_ok (by decide +kernel) rfl rfl (List.forall_mem_cons.mpr ⟨fw_row nn_PM1_ok (x := 239) (k := 0) (mn := 91) (np := 4) (ob := true) (ci := 10) (⟨"NameNotes", "canBid", "(IIII)Z"⟩, prog_1_method_62_code, 5, (Option.some Jvm.ClassFile.FieldType.boolean), 4, true, 1) rfl (by decide +kernel) rfl rfl (by decide) (fun _ => ⟨_, _, rfl⟩) (fm_canBid hinj), (List.forall_mem_cons.mpr ⟨fw_row nn_PM1_ok (x := 246) (k := 0) (mn := 96) (np := 2) (ob := true) (ci := 0) (⟨"NameNotes$Duel", "move", "(II)I"⟩, prog_2_method_8_code, 3, (Option.some Jvm.ClassFile.FieldType.int), 2, true, 0) rfl (by decide +kernel) rfl rfl (by decide) (fun _ => ⟨_, _, rfl⟩) (fm_dmove hinj), (List.forall_mem_cons.mpr ⟨fw_row nn_PM1_ok (x := 253) (k := 0) (mn := 98) (np := 3) (ob := true) (ci := 10) (⟨"NameNotes", "counter", "(III)V"⟩, prog_1_method_67_code, 4, (Option.none : Option Jvm.ClassFile.FieldType), 3, true, 4) rfl (by decide +kernel) rfl rfl (by decide) (fun _ => ⟨_, _, rfl⟩) (fm_counter hinj), (fun _ h => absurd h List.not_mem_nil)⟩)⟩)⟩) (fun as σ K h => by
  obtain ⟨A, p, q, n, c, rfl, ee, hN, h⟩ := h
  refine ⟨rfl, fun G hG => fs_reply_0 hG ⟨A, p, q, n, c, rfl, ee, hN, fs_reply_9 hG ⟨fun z => ?_, fun z => ?_⟩⟩⟩
  · have hb := fw_bo_ne z
    refine ⟨A, p, q, c, rfl, hN, ⟨hb.1, hb.2.1, hb.2.2.1, by decide, hb.2.2.2.2⟩, fun σ1 M1 I1 => fs_reply_22 hG ⟨0, n.toNat, _, _, rfl, ⟨rfl, by have := hb.2.2.2.1; omega⟩, ⟨by decide, by have := hb.2.2.2.1; omega⟩, fs_reply_31 hG ?_⟩⟩
    rw [show 10 * 0 + n.toNat = n.toNat by omega, (I1 n.toNat (by have := hb.2.2.2.1; omega)).2]
    have k := h σ1 M1
    unfold v_reply at k
    rw [if_pos hb] at k
    exact k
  · have k := h σ (fw_okM_refl _ _)
    unfold v_reply at k
    rw [if_neg (fw_bo_eq z)] at k
    exact k)
end
end
