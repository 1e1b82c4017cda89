section
/-! LIKE (how 0) is one and the same for all of a group -/
theorem sn_sym {A : ab_SG} {x y i : Int} (h : pr_sn A x y i 0) : pr_sn A y x i 0 := by
  unfold pr_sn at h ⊢
  by_cases a : x < A 49 11 ∧ i < A 52 x.toNat
  · by_cases b : y < A 49 11 ∧ i < A 52 y.toNat
    · rw [if_pos ⟨a, b⟩, if_neg (by decide)] at h
      rw [if_pos ⟨b, a⟩, if_neg (by decide)]
      exact ⟨h.1.imp id Eq.symm, h.2.imp id Eq.symm⟩
    · rw [if_neg (fun z => b z.2)] at h
      exact absurd (h.mp a) b
  · by_cases b : y < A 49 11 ∧ i < A 52 y.toNat
    · rw [if_neg (fun z => a z.1)] at h
      exact absurd (h.mpr b) a
    · rw [if_neg (fun z => a z.2)]
      exact ⟨fun z => absurd z b, fun z => absurd z a⟩
theorem sn_tr {A : ab_SG} {x y z i : Int} (h : pr_sn A x y i 0) (k : pr_sn A y z i 0) : pr_sn A x z i 0 := by
  unfold pr_sn at h k ⊢
  by_cases b : y < A 49 11 ∧ i < A 52 y.toNat
  · by_cases a : x < A 49 11 ∧ i < A 52 x.toNat
    · by_cases c : z < A 49 11 ∧ i < A 52 z.toNat
      · rw [if_pos ⟨a, b⟩, if_neg (by decide)] at h
        rw [if_pos ⟨b, c⟩, if_neg (by decide)] at k
        rw [if_pos ⟨a, c⟩, if_neg (by decide)]
        refine ⟨Or.inr ?_, Or.inr ?_⟩
        · exact (h.1.resolve_left (by decide)).trans (k.1.resolve_left (by decide))
        · exact (h.2.resolve_left (by decide)).trans (k.2.resolve_left (by decide))
      · rw [if_neg (fun q => c q.2)] at k
        exact absurd (k.mp b) c
    · rw [if_neg (fun q => a q.1)] at h
      exact absurd (h.mpr b) a
  · rw [if_neg (fun q => b q.2)] at h
    rw [if_neg (fun q => b q.1)] at k
    have a : ¬ (x < A 49 11 ∧ i < A 52 x.toNat) := fun q => b (h.mp q)
    have c : ¬ (z < A 49 11 ∧ i < A 52 z.toNat) := fun q => b (k.mpr q)
    rw [if_neg (fun q => a q.1)]
    exact ⟨fun q => absurd q a, fun q => absurd q c⟩
theorem cs_ge {A : ab_SG} {x y w n : Int} : ∀ f i : Nat, n ≤ (i : Int) + f → (n ≤ pr_cs A x y w f i ↔ ∀ j : Nat, i ≤ j → (j : Int) < n → pr_sn A x y (j : Int) w)
  | 0, i, h => ⟨fun _ j h1 h2 => absurd h2 (by omega), fun _ => by show n ≤ (i : Int); omega⟩
  | f + 1, i, h => by
    rw [pr_cs_s]
    by_cases q : pr_sn A x y (i : Int) w
    · rw [if_pos q, cs_ge f (i + 1) (by omega)]
      constructor
      · intro g j h1 h2
        by_cases c : j = i
        · rw [c]; exact q
        · exact g j (by omega) h2
      · intro g j h1 h2
        exact g j (by omega) h2
    · rw [if_neg q]
      constructor
      · intro g j h1 h2
        exact absurd h2 (by omega)
      · intro g
        by_cases c : n ≤ (i : Int)
        · exact c
        · exact absurd (g i (Nat.le_refl i) (by omega)) q
def oz_E (A : ab_SG) (n : Int) (x y : Nat) : Prop := n ≤ pr_cs A (x : Int) (y : Int) 0 9 0
theorem oz_E_sym {A : ab_SG} {n : Int} (hn : n ≤ 9) {x y : Nat} (h : oz_E A n x y) : oz_E A n y x :=
  (cs_ge 9 0 (by omega)).mpr (fun j h1 h2 => sn_sym ((cs_ge 9 0 (by omega)).mp h j h1 h2))
theorem oz_E_tr {A : ab_SG} {n : Int} (hn : n ≤ 9) {x y z : Nat} (h : oz_E A n x y) (k : oz_E A n y z) : oz_E A n x z :=
  (cs_ge 9 0 (by omega)).mpr (fun j h1 h2 => sn_tr ((cs_ge 9 0 (by omega)).mp h j h1 h2) ((cs_ge 9 0 (by omega)).mp k j h1 h2))
theorem oz_E_refl (A : ab_SG) {n : Int} (hn : n ≤ 9) (x : Nat) : oz_E A n x x := by
  unfold oz_E
  rw [cs_refl]
  omega
/-- bits of a set tell its least one -/
theorem lst_tb0 : ∀ s : Nat, s < 256 → ∀ x : Nat, x < 9 → pr_hs (s : Int) (x : Int) = true → (oz_lst (s : Int) x = true ↔ s % 2 ^ x = 0) := by decide +kernel
theorem lst_tb1 : ∀ s : Nat, s < 256 → ∀ x : Nat, x < 9 → pr_hs ((s + 256 : Nat) : Int) (x : Int) = true → (oz_lst ((s + 256 : Nat) : Int) x = true ↔ (s + 256) % 2 ^ x = 0) := by decide +kernel
theorem lst_tb {g : Int} (h0 : 0 ≤ g) (h5 : g < 512) {x : Nat} (hx : x < 9) (hp : pr_hs g (x : Int) = true) : oz_lst g x = true ↔ ∀ z : Nat, z < x → oz_P g z = false := by
  obtain ⟨s, rfl⟩ := Int.eq_ofNat_of_zero_le h0
  have e : oz_lst (s : Int) x = true ↔ s % 2 ^ x = 0 := by
    by_cases c : s < 256
    · exact lst_tb0 s c x hx hp
    · have := lst_tb1 (s - 256) (by omega) x hx
      rw [show s - 256 + 256 = s by omega] at this
      exact this hp
  rw [e]
  have tb : ∀ z : Nat, z < x → oz_P (s : Int) z = Nat.testBit s z := fun z hz => hs_tb (by omega) (by omega)
  constructor
  · intro q z hz
    rw [tb z hz]
    have k := Nat.testBit_mod_two_pow s x z
    rw [q, Nat.zero_testBit, decide_eq_true hz, Bool.true_and] at k
    exact k.symm
  · intro q
    refine Nat.eq_of_testBit_eq (fun z => ?_)
    rw [Nat.testBit_mod_two_pow, Nat.zero_testBit]
    by_cases c : z < x
    · rw [← tb z c, q z c, Bool.and_false]
    · rw [decide_eq_false c, Bool.false_and]
/-- a sum, each put to the one that stands for it -/
theorem oz_pick {Q : Nat → Bool} {a : Nat} {v : Int} : ∀ {n : Nat}, a < n → Q a = true → (∀ b, b < n → Q b = true → b = a) → oz_sum (fun r => cond (Q r) v 0) n = v := by
  intro n
  induction n with
  | zero => intro h; exact absurd h (Nat.not_lt_zero a)
  | succ n ih =>
    intro h1 h2 h3
    show oz_sum (fun r => cond (Q r) v 0) n + cond (Q n) v 0 = v
    by_cases c : a = n
    · subst c
      rw [h2]
      have z : oz_sum (fun r => cond (Q r) v 0) a = 0 := by
        rw [oz_sum_congr (g := fun _ => 0) (fun i hi => ?_), oz_sum_zero]
        cases q : Q i with
        | false => rfl
        | true => exact absurd (h3 i (by omega) q) (by omega)
      rw [z]
      show 0 + v = v
      omega
    · have q : Q n = false := by
        rw [← Bool.not_eq_true]
        exact fun q => c (h3 n (Nat.lt_succ_self n) q).symm
      rw [q, ih (by omega) h2 (fun b hb => h3 b (by omega))]
      show v + 0 = v
      omega
/-- the least number below n with Q -/
theorem oz_least {Q : Nat → Bool} : ∀ n : Nat, (∃ a, a < n ∧ Q a = true) → ∃ r, r < n ∧ Q r = true ∧ ∀ z, z < r → Q z = false := by
  intro n
  induction n with
  | zero => rintro ⟨a, h, _⟩; exact absurd h (Nat.not_lt_zero a)
  | succ n ih =>
    rintro ⟨a, h, q⟩
    by_cases c : ∃ a, a < n ∧ Q a = true
    · obtain ⟨r, h1, h2, h3⟩ := ih c
      exact ⟨r, by omega, h2, h3⟩
    · have : a = n := by
        by_cases d : a = n
        · exact d
        · exact absurd ⟨a, by omega, q⟩ c
      subst this
      refine ⟨a, h, q, fun z hz => ?_⟩
      rw [← Bool.not_eq_true]
      exact fun w => c ⟨z, hz, w⟩
/-- all odds of a set, group by group: S the set, P x the group of x -/
theorem oz_groups {S : Nat → Bool} {P : Nat → Nat → Bool} {f : Nat → Int} (hsub : ∀ x z, x < 9 → z < 9 → P x z = true → S z = true) (hself : ∀ x, x < 9 → S x = true → P x x = true) (heq : ∀ x z, x < 9 → z < 9 → S x = true → P x z = true → ∀ y, y < 9 → P z y = P x y) :
    oz_sum (fun x => cond (S x) (f x) 0) 9 = oz_sum (fun r => cond (S r && decide (∀ z : Nat, z < r → P r z = false)) (oz_sum (fun x => cond (P r x) (f x) 0) 9) 0) 9 := by
  have e1 : oz_sum (fun x => cond (S x) (f x) 0) 9 = oz_sum (fun x => oz_sum (fun r => cond ((S r && decide (∀ z : Nat, z < r → P r z = false)) && P r x) (f x) 0) 9) 9 := by
    refine oz_sum_congr (fun x hx => ?_)
    cases hS : S x with
    | false =>
      show (0 : Int) = _
      rw [oz_sum_congr (g := fun _ => 0) (fun r hr => ?_), oz_sum_zero]
      cases hP : P r x with
      | false => rw [Bool.and_false]; rfl
      | true => rw [hsub r x hr hx hP] at hS; cases hS
    | true =>
      obtain ⟨r, r1, r2, r3⟩ := oz_least (Q := P x) 9 ⟨x, hx, hself x hx hS⟩
      have g := heq x r hx r1 hS r2
      symm
      refine oz_pick r1 ?_ ?_
      · rw [hsub x r hx r1 r2, g x hx, hself x hx hS, decide_eq_true (fun z hz => by rw [g z (by omega)]; exact r3 z hz)]
        rfl
      · intro b hb q
        rw [Bool.and_eq_true, Bool.and_eq_true, decide_eq_true_eq] at q
        obtain ⟨⟨q1, q2⟩, q3⟩ := q
        have gb := heq b x hb hx q1 q3
        have pb : P x b = true := by rw [gb b hb]; exact hself b hb q1
        rcases Nat.lt_trichotomy b r with c | c | c
        · rw [r3 b c] at pb; cases pb
        · exact c
        · have := q2 r c
          rw [← gb r r1, r2] at this
          cases this
  rw [e1, oz_sum_swap]
  refine oz_sum_congr (fun r hr => ?_)
  cases (S r && decide (∀ z : Nat, z < r → P r z = false)) with
  | false =>
    show oz_sum (fun x => cond (false && P r x) (f x) 0) 9 = 0
    exact (oz_sum_congr (f := fun x => cond (false && P r x) (f x) 0) (g := fun _ => 0) (fun x _ => rfl)).trans (oz_sum_zero 9)
  | true => exact oz_sum_congr (fun x _ => rfl)
def oz_ro (κ : Nat → Int) (A : ab_SG) (n s : Int) : Int := oz_sum (fun x => cond (oz_P s x) (oz_nb κ (v_lk A (x : Int) n 0 s (A 49 11).toNat) x) 0) 9 * ((2520 / oz_cnt (oz_P s) 9 : Nat) : Int)
theorem oz_sm_sum (κ γ : Nat → Int) (s : Int) : ∀ X : Nat, oz_sm κ γ s X = oz_sum (fun x => cond (oz_P s x && oz_lst (γ x) x) (oz_any κ (γ x)) 0) X := by
  intro X
  induction X with
  | zero => rfl
  | succ X ih =>
    show cond (oz_P s X && oz_lst (γ X) X) (oz_sm κ γ s X + oz_any κ (γ X)) (oz_sm κ γ s X) = oz_sum _ X + cond (oz_P s X && oz_lst (γ X) X) (oz_any κ (γ X)) 0
    rw [← ih]
    cases (oz_P s X && oz_lst (γ X) X) with
    | false => show oz_sm κ γ s X = oz_sm κ γ s X + 0; omega
    | true => rfl
theorem oz_cnt_congr {P Q : Nat → Bool} : ∀ {Y : Nat}, (∀ y, y < Y → P y = Q y) → oz_cnt P Y = oz_cnt Q Y := by
  intro Y
  induction Y with
  | zero => intro _; rfl
  | succ Y ih =>
    intro h
    show cond (P Y) (oz_cnt P Y + 1) (oz_cnt P Y) = cond (Q Y) (oz_cnt Q Y + 1) (oz_cnt Q Y)
    rw [ih (fun y hy => h y (Nat.lt_succ_of_lt hy)), h Y (Nat.lt_succ_self Y)]
theorem oz_cnt_in {P : Nat → Bool} {x : Nat} (hp : P x = true) : ∀ {Y : Nat}, x < Y → oz_cnt P Y = oz_cnt (oz_but P x) Y + 1 := by
  intro Y
  induction Y with
  | zero => intro h; exact absurd h (Nat.not_lt_zero x)
  | succ Y ih =>
    intro h
    show cond (P Y) (oz_cnt P Y + 1) (oz_cnt P Y) = cond (oz_but P x Y) (oz_cnt (oz_but P x) Y + 1) (oz_cnt (oz_but P x) Y) + 1
    by_cases c : x = Y
    · subst c
      rw [hp, oz_but_self]
      have e : oz_cnt (oz_but P x) x = oz_cnt P x := oz_cnt_congr (fun y hy => oz_but_ne (Nat.ne_of_lt hy))
      show oz_cnt P x + 1 = oz_cnt (oz_but P x) x + 1
      rw [e]
    · rw [oz_but_ne (fun z => c z.symm), ih (by omega)]
      cases P Y with
      | false => rfl
      | true => rfl
theorem oz_nb_congr {κ : Nat → Int} {g g' : Int} {x : Nat} (h : ∀ y, y < 9 → oz_P g y = oz_P g' y) : oz_nb κ g x = oz_nb κ g' x := by
  have hb : ∀ y, y < 9 → oz_but (oz_P g) x y = oz_but (oz_P g') x y := fun y hy => by unfold oz_but; rw [h y hy]
  unfold oz_nb
  rw [oz_cnt_congr hb, oz_w_congr hb]
/-- the reference's odds are the class's, over 2520 times as much -/
theorem oz_same {A : ab_SG} (hi : RI A) (κ : Nat → Int) {n s : Int} (hn : 1 ≤ n ∧ n ≤ 9) (hs : 1 ≤ s ∧ s < 512) (ht : ∀ z : Nat, z < 9 → pr_hs s (z : Int) = true → (z : Int) < A 49 11) : oz_ro κ A n s = 2520 * oz_ch κ (oz_grp A n s) s := by
  have nT := (N_n hi).1
  have cp := oz_cnt_pos hs.1 hs.2
  have lh : ∀ x z : Nat, z < 9 → (pr_hs (v_lk A (x : Int) n 0 s (A 49 11).toNat) (z : Int) = true ↔ z < (A 49 11).toNat ∧ pr_hs s (z : Int) = true ∧ n ≤ pr_cs A (x : Int) (z : Int) 0 9 0) := fun x z hz => v_lk_h A (x : Int) n 0 s hz (A 49 11).toNat (by omega)
  have lb : ∀ x : Nat, 0 ≤ v_lk A (x : Int) n 0 s (A 49 11).toNat ∧ v_lk A (x : Int) n 0 s (A 49 11).toNat < 512 := fun x => v_lk_b A (x : Int) n 0 s (A 49 11).toNat (by omega)
  have pin : ∀ x z : Nat, z < 9 → (oz_P (v_lk A (x : Int) n 0 s (A 49 11).toNat) z = true ↔ oz_P s z = true ∧ oz_E A n x z) := by
    intro x z hz
    constructor
    · intro q
      have := (lh x z hz).mp q
      exact ⟨this.2.1, this.2.2⟩
    · intro q
      exact (lh x z hz).mpr ⟨by have := ht z hz q.1; omega, q.1, q.2⟩
  have self : ∀ x : Nat, x < 9 → oz_P s x = true → oz_P (v_lk A (x : Int) n 0 s (A 49 11).toNat) x = true := fun x hx q => (pin x x hx).mpr ⟨q, oz_E_refl A hn.2 x⟩
  have same : ∀ x z : Nat, x < 9 → z < 9 → oz_P s x = true → oz_P (v_lk A (x : Int) n 0 s (A 49 11).toNat) z = true → ∀ y : Nat, y < 9 → oz_P (v_lk A (z : Int) n 0 s (A 49 11).toNat) y = oz_P (v_lk A (x : Int) n 0 s (A 49 11).toNat) y := by
    intro x z hx hz _ q y hy
    have e := ((pin x z hz).mp q).2
    rw [Bool.eq_iff_iff, pin z y hy, pin x y hy]
    exact ⟨fun w => ⟨w.1, oz_E_tr hn.2 e w.2⟩, fun w => ⟨w.1, oz_E_tr hn.2 (oz_E_sym hn.2 e) w.2⟩⟩
  have key : oz_sum (fun x => cond (oz_P s x) (oz_nb κ (v_lk A (x : Int) n 0 s (A 49 11).toNat) x) 0) 9 = 2520 * oz_sm κ (oz_grp A n s) s 9 := by
    rw [oz_groups (P := fun x => oz_P (v_lk A (x : Int) n 0 s (A 49 11).toNat)) (fun x z _ hz q => ((pin x z hz).mp q).1) self same, oz_sm_sum, ← oz_sum_mul]
    refine oz_sum_congr (fun r hr => ?_)
    cases hS : oz_P s r with
    | false => exact (Int.mul_zero _).symm
    | true =>
      have eg : oz_grp A n s r = v_lk A (r : Int) n 0 s (A 49 11).toNat := if_pos hS
      rw [eg]
      have el : oz_lst (v_lk A (r : Int) n 0 s (A 49 11).toNat) r = decide (∀ z : Nat, z < r → oz_P (v_lk A (r : Int) n 0 s (A 49 11).toNat) z = false) := by
        rw [Bool.eq_iff_iff, decide_eq_true_eq]
        exact lst_tb (lb r).1 (lb r).2 hr (self r hr hS)
      rw [el]
      cases decide (∀ z : Nat, z < r → oz_P (v_lk A (r : Int) n 0 s (A 49 11).toNat) z = false) with
      | false => exact (Int.mul_zero _).symm
      | true =>
        show oz_sum (fun x => cond (oz_P (v_lk A (r : Int) n 0 s (A 49 11).toNat) x) (oz_nb κ (v_lk A (x : Int) n 0 s (A 49 11).toNat) x) 0) 9 = 2520 * oz_any κ (v_lk A (r : Int) n 0 s (A 49 11).toNat)
        have e1 : oz_sum (fun x => cond (oz_P (v_lk A (r : Int) n 0 s (A 49 11).toNat) x) (oz_nb κ (v_lk A (x : Int) n 0 s (A 49 11).toNat) x) 0) 9 = oz_sum (fun x => 9 ^ (9 - oz_cnt (oz_P (v_lk A (r : Int) n 0 s (A 49 11).toNat)) 9) * cond (oz_P (v_lk A (r : Int) n 0 s (A 49 11).toNat) x) (κ x * oz_sum (fun j => oz_w κ (oz_but (oz_P (v_lk A (r : Int) n 0 s (A 49 11).toNat)) x) 9 j * (((2520 / (j + 1) : Nat)) : Int)) 9) 0) 9 := by
          refine oz_sum_congr (fun x hx => ?_)
          cases hP : oz_P (v_lk A (r : Int) n 0 s (A 49 11).toNat) x with
          | false => exact (Int.mul_zero _).symm
          | true =>
            show oz_nb κ (v_lk A (x : Int) n 0 s (A 49 11).toNat) x = 9 ^ (9 - oz_cnt (oz_P (v_lk A (r : Int) n 0 s (A 49 11).toNat)) 9) * (κ x * oz_sum (fun j => oz_w κ (oz_but (oz_P (v_lk A (r : Int) n 0 s (A 49 11).toNat)) x) 9 j * (((2520 / (j + 1) : Nat)) : Int)) 9)
            rw [oz_nb_congr (same r x hr hx hS hP)]
            unfold oz_nb
            rw [oz_cnt_in hP hx, show 9 - (oz_cnt (oz_but (oz_P (v_lk A (r : Int) n 0 s (A 49 11).toNat)) x) 9 + 1) = 8 - oz_cnt (oz_but (oz_P (v_lk A (r : Int) n 0 s (A 49 11).toNat)) x) 9 by omega, Int.mul_left_comm]
        rw [e1, oz_sum_mul, oz_group]
        unfold oz_any
        rw [Int.mul_left_comm, Int.mul_comm (9 ^ (9 - _))]
  unfold oz_ro oz_ch oz_sh
  rw [key, show oz_cnt (oz_P s) 9 - 1 + 1 = oz_cnt (oz_P s) 9 by omega, Int.mul_assoc]
/-- between nought and all -/
theorem oz_non_b {κ : Nat → Int} {P : Nat → Bool} : ∀ {Y : Nat}, (∀ y, y < Y → 0 ≤ κ y ∧ κ y ≤ 9) → 0 ≤ oz_non κ P Y ∧ oz_non κ P Y ≤ 9 ^ oz_cnt P Y := by
  intro Y
  induction Y with
  | zero =>
    intro _
    show (0 : Int) ≤ 1 ∧ (1 : Int) ≤ 9 ^ 0
    decide
  | succ Y ih =>
    intro h
    have ih := ih (fun y hy => h y (Nat.lt_succ_of_lt hy))
    have b := h Y (Nat.lt_succ_self Y)
    show 0 ≤ cond (P Y) (oz_non κ P Y * (9 - κ Y)) (oz_non κ P Y) ∧ cond (P Y) (oz_non κ P Y * (9 - κ Y)) (oz_non κ P Y) ≤ 9 ^ cond (P Y) (oz_cnt P Y + 1) (oz_cnt P Y)
    cases P Y with
    | false => exact ih
    | true =>
      show 0 ≤ oz_non κ P Y * (9 - κ Y) ∧ oz_non κ P Y * (9 - κ Y) ≤ 9 ^ (oz_cnt P Y + 1)
      refine ⟨Int.mul_nonneg ih.1 (by omega), ?_⟩
      rw [Int.pow_succ]
      have a := Int.mul_le_mul_of_nonneg_left (show 9 - κ Y ≤ 9 by omega) ih.1
      have c := Int.mul_le_mul_of_nonneg_right ih.2 (show (0 : Int) ≤ 9 by decide)
      omega
theorem oz_any_b {κ : Nat → Int} (hk : ∀ y, y < 9 → 0 ≤ κ y ∧ κ y ≤ 9) (g : Int) : 0 ≤ oz_any κ g ∧ oz_any κ g ≤ 387420489 := by
  have b := oz_non_b (P := oz_P g) hk
  have c := oz_cnt_le (oz_P g) 9
  have p : ∀ m : Nat, m ≤ 9 → (9 : Int) ^ m * 9 ^ (9 - m) = 387420489 ∧ 0 ≤ (9 : Int) ^ (9 - m) := by decide
  have q := p _ c
  unfold oz_any
  refine ⟨Int.mul_nonneg (by omega) q.2, ?_⟩
  rw [← q.1]
  exact Int.mul_le_mul_of_nonneg_right (by omega) q.2
theorem oz_sm_b {κ γ : Nat → Int} (hk : ∀ y, y < 9 → 0 ≤ κ y ∧ κ y ≤ 9) (s : Int) : ∀ X : Nat, 0 ≤ oz_sm κ γ s X ∧ oz_sm κ γ s X ≤ ((oz_cnt (oz_P s) X : Nat) : Int) * 387420489 := by
  intro X
  induction X with
  | zero =>
    show (0 : Int) ≤ 0 ∧ (0 : Int) ≤ ((0 : Nat) : Int) * 387420489
    decide
  | succ X ih =>
    have b := oz_any_b hk (γ X)
    show 0 ≤ cond (oz_P s X && oz_lst (γ X) X) (oz_sm κ γ s X + oz_any κ (γ X)) (oz_sm κ γ s X) ∧ cond (oz_P s X && oz_lst (γ X) X) (oz_sm κ γ s X + oz_any κ (γ X)) (oz_sm κ γ s X) ≤ ((cond (oz_P s X) (oz_cnt (oz_P s) X + 1) (oz_cnt (oz_P s) X) : Nat) : Int) * 387420489
    cases oz_P s X with
    | false => exact ih
    | true =>
      cases oz_lst (γ X) X with
      | false =>
        show 0 ≤ oz_sm κ γ s X ∧ oz_sm κ γ s X ≤ ((oz_cnt (oz_P s) X + 1 : Nat) : Int) * 387420489
        omega
      | true =>
        show 0 ≤ oz_sm κ γ s X + oz_any κ (γ X) ∧ oz_sm κ γ s X + oz_any κ (γ X) ≤ ((oz_cnt (oz_P s) X + 1 : Nat) : Int) * 387420489
        omega
theorem oz_odds_bk {A : ab_SG} {p : Nat} (hk : ∀ y : Nat, y < 9 → 0 ≤ A 55 (9 * p + y) ∧ A 55 (9 * p + y) ≤ 9) {n s : Int} (hs : 1 ≤ s ∧ s < 512) : 0 ≤ oz_odds A p n s ∧ oz_odds A p n s ≤ 976299632280 := by
  have cp := oz_cnt_pos hs.1 hs.2
  have cl := oz_cnt_le (oz_P s) 9
  have b := oz_sm_b (κ := oz_kp A p) (γ := oz_grp A n s) hk s 9
  unfold oz_odds oz_ch oz_sh
  rw [show oz_cnt (oz_P s) 9 - 1 + 1 = oz_cnt (oz_P s) 9 by omega]
  have sh : ∀ m : Nat, m ≤ 9 → 1 ≤ m → ((m : Nat) : Int) * 387420489 * ((2520 / m : Nat) : Int) = 976299632280 ∧ 0 ≤ ((2520 / m : Nat) : Int) := by decide +kernel
  have q := sh _ cl cp
  refine ⟨Int.mul_nonneg b.1 q.2, ?_⟩
  rw [← q.1]
  exact Int.mul_le_mul_of_nonneg_right b.2 q.2
theorem oz_odds_b {A : ab_SG} {σ : ab_SG} (hN : NC σ A) {p : Nat} (hp : p < 5) {n s : Int} (hs : 1 ≤ s ∧ s < 512) : 0 ≤ oz_odds A p n s ∧ oz_odds A p n s ≤ 976299632280 := oz_odds_bk (fun y hy => oz_kn_b hN (by omega)) hs
theorem oz_odds_bm {A : ab_SG} {σ : ab_SG} (hN : NM σ A) {p : Nat} (hp : p < 5) {n s : Int} (hs : 1 ≤ s ∧ s < 512) : 0 ≤ oz_odds A p n s ∧ oz_odds A p n s ≤ 976299632280 := oz_odds_bk (fun y hy => on_kn_b hN (by omega)) hs
end
section
/-! questions that ask for odds -/
theorem oz_clue {A : ab_SG} (hi : RI A) (hb : nb_is A) {c : Int} (h1 : 0 ≤ c) (h2 : c < A 49 12) : (1 ≤ v_set A c ∧ v_set A c < 512) ∧ ∀ z : Nat, z < 9 → pr_hs (v_set A c) (z : Int) = true → (z : Int) < A 49 11 := by
  have b := v_set_512 hi hb (c := c) (by omega) h2
  refine ⟨⟨?_, b.2⟩, fun z hz q => v_set_top hi hb (by omega) h2 hz q⟩
  unfold v_set
  rw [if_neg (by omega)]
  have := (hb.2.1 c.toNat (by omega)).1
  exact this
def sp_m_oddsBy : fw_SP := fun as σ K => ∃ (A : ab_SG) (n s : Int), as = [(2, 93, 0), (0, 0, n), (0, 0, s)] ∧ NM σ A ∧ (1 ≤ n ∧ n ≤ 9) ∧ (1 ≤ s ∧ s < 512) ∧ (∀ z : Nat, z < 9 → pr_hs s (z : Int) = true → (z : Int) < A 49 11) ∧ (∀ y : Nat, y < 9 → 0 ≤ σ 106 y ∧ σ 106 y ≤ 9) ∧ ∀ σ' : ab_SG, ab_okM [(107, 1000000)] σ σ' → K (some (1, 0, oz_ro (σ 106) A n s)) σ'
def sp_m_oddsOf : fw_SP := fun as σ K => ∃ (A : ab_SG) (p : Nat) (n s : Int), as = [(2, 93, 0), (0, 0, (p : Int)), (0, 0, n), (0, 0, s)] ∧ NM σ A ∧ p < 5 ∧ (1 ≤ n ∧ n ≤ 9) ∧ (1 ≤ s ∧ s < 512) ∧ (∀ z : Nat, z < 9 → pr_hs s (z : Int) = true → (z : Int) < A 49 11) ∧ ∀ σ' : ab_SG, ab_okM on_M σ σ' → K (some (1, 0, 2520 * oz_odds A p n s)) σ'
def od_N : ab_ML := [(93, 0), (106, 1000000), (107, 1000000)]
theorem od_up {M N : ab_ML} {σ σ' : ab_SG} (h : ab_okM M σ σ') (hm : M.all (fun q => N.any (fun r => r.1.beq q.1 && (r.2.beq q.2 || r.2.beq 1000000))) = true) : ab_okM N σ σ' := by
  intro a b q
  refine h a b (fun r hr w => ?_)
  obtain ⟨t, ht, h2⟩ := List.any_eq_true.mp (List.all_eq_true.mp hm r hr)
  rw [Bool.and_eq_true, Bool.or_eq_true] at h2
  refine q t ht ⟨(Nat.eq_of_beq_eq_true h2.1).trans w.1, ?_⟩
  rcases h2.2 with e | e
  · rw [Nat.eq_of_beq_eq_true e]; exact w.2
  · exact Or.inr (Nat.eq_of_beq_eq_true e)
/-- rows that nothing speaks of -/
def fr_L : List Nat := [1, 2, 3, 18, 33, 85, 93, 94, 95, 97, 102] ++ (sw_T.map (fun q => q.1) ++ sw_L.map (fun q => q.1))
theorem vW_free {M : ab_ML} {σ σ1 σm : ab_SG} (hm : M.all (fun q => fr_L.all (fun k => !(q.1.beq k))) = true) (h1 : ab_okM M σ σ1) (hv : vW σm σ1) : vW σm σ := by
  have e : ∀ k j : Nat, k ∈ fr_L → σ1 k j = σ k j := fun k j hk => h1 k j (fun q hq hh => by
    have g := List.all_eq_true.mp (List.all_eq_true.mp hm q hq) k hk
    rw [hh.1, show k.beq k = true from Nat.beq_refl k] at g
    cases g)
  have hT : ∀ q ∈ sw_T, q.1 ∈ fr_L := fun q hq => List.mem_append_right _ (List.mem_append_left _ (List.mem_map.mpr ⟨q, hq, rfl⟩))
  have hL : ∀ q ∈ sw_L, q.1 ∈ fr_L := fun q hq => List.mem_append_right _ (List.mem_append_right _ (List.mem_map.mpr ⟨q, hq, rfl⟩))
  have c : ∀ k : Nat, k ∈ [1, 2, 3, 18, 33, 85, 93, 94, 95, 97, 102] → k ∈ fr_L := fun k hk => List.mem_append_left _ hk
  have su_in : ∀ k j : Nat, su k j → k ∈ fr_L := by
    intro k j h
    unfold su at h
    rcases h with h | h | h | h | h | h | h | h | h | h <;> (rw [h.1]; exact c _ (by decide))
  have sw_in : ∀ k j : Nat, sw k j → k ∈ fr_L := by
    intro k j h
    rcases h with ⟨q, hq, rfl, -⟩ | ⟨rfl, -⟩ | ⟨rfl, -⟩
    · exact hT q hq
    · exact c _ (by decide)
    · exact c _ (by decide)
  refine ⟨fun k j hs => ?_, fun k j hs => ?_⟩
  · rw [hv.1 k j hs, e k j (hs.elim (su_in k j) (sw_in k j))]
  · obtain ⟨q, hq, rfl, hj⟩ := hs
    rw [hv.2 _ j ⟨q, hq, rfl, hj⟩, e _ j (hL q hq)]
abbrev fk_m_oddsBy : List fw_CR := [(216, 2, false, 0, 0, sp_m_has), (261, 0, true, 11, 0, sp_m_tunes), (322, 1, false, 0, 0, sp_m_bits9), (331, 3, true, 11, 6, sp_m_namedBy)]
abbrev st_m_oddsBy : fw_K → fw_KR → fw_K := fw_st vwCl nn_sh nn_kd fw_kv fw_wc (nn_KI20.map (fun x => x.1)) (nn_KJ20.map (fun x => x.1)) (nn_PF20.map (fun x => x.1)) (nn_PS20.map (fun x => x.1)) fk_m_oddsBy 7 nn_dt284 6 2
theorem fs_m_oddsBy_0 {G : fw_K} {R : fw_KR} (hG : fw_cls st_m_oddsBy R G) {n s : Int} {σ : ab_SG} (h : G 5 [some (2, 93, 0), some (0, 0, n), some (0, 0, s), some (1, 0, ((0 : Nat) : Int)), none, some (0, 0, 0)] [] σ) : G 0 [some (2, 93, 0), some (0, 0, n), some (0, 0, s), none, none, none] [] σ := fw_on hG [5, 11, 20, 32, 34, 48] 200 h
theorem fs_m_oddsBy_5 {G : fw_K} {R : fw_KR} (hG : fw_cls st_m_oddsBy R G) {a1 a2 a3 a5 : Int} {σ : ab_SG} (h : sp_m_tunes [(2, 93, 0)] σ (fun rv σ2 => G 11 [some (2, 93, 0), some (0, 0, a1), some (0, 0, a2), some (1, 0, a3), none, some (0, 0, a5)] (rv.toList ++ [(0, 0, a5)]) σ2)) : G 5 [some (2, 93, 0), some (0, 0, a1), some (0, 0, a2), some (1, 0, a3), none, some (0, 0, a5)] [] σ := fw_on hG [5, 11, 20, 32, 34, 48] 200 h
theorem fs_m_oddsBy_11 {G : fw_K} {R : fw_KR} (hG : fw_cls st_m_oddsBy R G) {a1 a2 a3 a5 b0 b1 : Int} {σ : ab_SG} (h : (fw_c b0 ≤ fw_c b1 → sp_m_bits9 [(0, 0, a2)] σ (fun rv σ2 => G 48 [some (2, 93, 0), some (0, 0, a1), some (0, 0, a2), some (1, 0, a3), none, some (0, 0, a5)] (rv.toList ++ [(1, 0, 2520), (1, 0, a3)]) σ2)) ∧ (fw_c b1 < fw_c b0 → sp_m_has [(0, 0, a2), (0, 0, a5)] σ (fun rv σ2 => G 20 [some (2, 93, 0), some (0, 0, a1), some (0, 0, a2), some (1, 0, a3), none, some (0, 0, a5)] (rv.toList ++ []) σ2))) : G 11 [some (2, 93, 0), some (0, 0, a1), some (0, 0, a2), some (1, 0, a3), none, some (0, 0, a5)] [(0, 0, b0), (0, 0, b1)] σ := fw_on hG [5, 11, 20, 32, 34, 48] 200 h
theorem fs_m_oddsBy_48 {G : fw_K} {R : fw_KR} (hG : fw_cls st_m_oddsBy R G) {b0 b1 b2 : Int} {o1 o2 o3 o5 : Option ab_AV} {σ : ab_SG} (h : fw_d (fw_c b0) ≠ 0 ∧ (R (some (1, 0, b2 * (fw_lop 3 b1 (fw_c b0)))) σ)) : G 48 [some (2, 93, 0), o1, o2, o3, none, o5] [(0, 0, b0), (1, 0, b1), (1, 0, b2)] σ := fw_on hG [5, 11, 20, 32, 34, 48] 200 h
theorem fs_m_oddsBy_20 {G : fw_K} {R : fw_KR} (hG : fw_cls st_m_oddsBy R G) {a1 a2 a3 a5 b0 : Int} {σ : ab_SG} (h : (fw_c b0 = 0 → G 34 [some (2, 93, 0), some (0, 0, a1), some (0, 0, a2), some (1, 0, a3), none, some (0, 0, a5)] [] σ) ∧ (fw_c b0 ≠ 0 → sp_m_namedBy [(2, 93, 0), (0, 0, a5), (0, 0, a1), (0, 0, a2)] σ (fun rv σ2 => G 32 [some (2, 93, 0), some (0, 0, a1), some (0, 0, a2), some (1, 0, a3), none, some (0, 0, a5)] (rv.toList ++ [(1, 0, a3)]) σ2))) : G 20 [some (2, 93, 0), some (0, 0, a1), some (0, 0, a2), some (1, 0, a3), none, some (0, 0, a5)] [(0, 0, b0)] σ := fw_on hG [5, 11, 20, 32, 34, 48] 200 h
theorem fs_m_oddsBy_34 {G : fw_K} {R : fw_KR} (hG : fw_cls st_m_oddsBy R G) {a1 a2 a3 a5 : Int} {σ : ab_SG} (h : G 5 [some (2, 93, 0), some (0, 0, a1), some (0, 0, a2), some (1, 0, a3), none, some (0, 0, a5 + 1)] [] σ) : G 34 [some (2, 93, 0), some (0, 0, a1), some (0, 0, a2), some (1, 0, a3), none, some (0, 0, a5)] [] σ := fw_on hG [5, 11, 20, 32, 34, 48] 200 h
theorem fs_m_oddsBy_32 {G : fw_K} {R : fw_KR} (hG : fw_cls st_m_oddsBy R G) {a1 a2 a5 b0 b1 : Int} {o3 : Option ab_AV} {σ : ab_SG} (h : G 34 [some (2, 93, 0), some (0, 0, a1), some (0, 0, a2), some (1, 0, b1 + b0), none, some (0, 0, a5)] [] σ) : G 32 [some (2, 93, 0), some (0, 0, a1), some (0, 0, a2), o3, none, some (0, 0, a5)] [(1, 0, b0), (1, 0, b1)] σ := fw_on hG [5, 11, 20, 32, 34, 48] 200 h
abbrev fk_m_oddsOf : List fw_CR := [(335, 1, true, 11, 2, sp_m_layMind), (338, 2, true, 11, 7, sp_m_oddsBy)]
abbrev st_m_oddsOf : fw_K → fw_KR → fw_K := fw_st vwCl nn_sh nn_kd fw_kv fw_wc (nn_KI20.map (fun x => x.1)) (nn_KJ20.map (fun x => x.1)) (nn_PF20.map (fun x => x.1)) (nn_PS20.map (fun x => x.1)) fk_m_oddsOf 8 nn_dt283 4 2
theorem fs_m_oddsOf_0 {G : fw_K} {R : fw_KR} (hG : fw_cls st_m_oddsOf R G) {p n s : Int} {σ : ab_SG} (h : sp_m_layMind [(2, 93, 0), (0, 0, p)] σ (fun rv σ2 => G 5 [some (2, 93, 0), some (0, 0, p), some (0, 0, n), some (0, 0, s)] (rv.toList ++ []) σ2)) : G 0 [some (2, 93, 0), some (0, 0, p), some (0, 0, n), some (0, 0, s)] [] σ := fw_on hG [5, 11] 200 h
theorem fs_m_oddsOf_5 {G : fw_K} {R : fw_KR} (hG : fw_cls st_m_oddsOf R G) {a1 a2 a3 : Int} {σ : ab_SG} (h : sp_m_oddsBy [(2, 93, 0), (0, 0, a2), (0, 0, a3)] σ (fun rv σ2 => G 11 [some (2, 93, 0), some (0, 0, a1), some (0, 0, a2), some (0, 0, a3)] (rv.toList ++ []) σ2)) : G 5 [some (2, 93, 0), some (0, 0, a1), some (0, 0, a2), some (0, 0, a3)] [] σ := fw_on hG [5, 11] 200 h
theorem fs_m_oddsOf_11 {G : fw_K} {R : fw_KR} (hG : fw_cls st_m_oddsOf R G) {a1 a2 a3 b0 : Int} {σ : ab_SG} (h : R (some (1, 0, b0)) σ) : G 11 [some (2, 93, 0), some (0, 0, a1), some (0, 0, a2), some (0, 0, a3)] [(1, 0, b0)] σ := fw_on hG [5, 11] 200 h
section
variable {l : Launch} {cy : Nat → ClassId} {ad wr cr : Nat → Nat} {D : va_G}
theorem fm_m_oddsBy (hinj : nn_inj ad) : fw_H l cy ad wr cr D 284 7 sp_m_oddsBy := fw_mk hinj (⟨"NameNotesModel", "oddsBy", "(II)J"⟩, prog_14_method_78_code, 6, (Option.some Jvm.ClassFile.FieldType.long), 2, true, 2) rfl rfl nn_KI20_ok nn_KJ20_ok nn_PF20_ok nn_PS20_ok (by decide +kernel) rfl rfl (List.forall_mem_cons.mpr ⟨fw_row nn_PM20_ok (x := 216) (k := 0) (mn := 230) (np := 2) (ob := false) (ci := 0) (⟨"NameNotesModel", "has", "(II)Z"⟩, prog_14_method_9_code, 2, (Option.some Jvm.ClassFile.FieldType.boolean), 2, false, 1) rfl (by decide +kernel) rfl rfl (by decide) (fun q => by cases q) (fm_m_has hinj), (List.forall_mem_cons.mpr ⟨fw_row nn_PM20_ok (x := 261) (k := 0) (mn := 240) (np := 0) (ob := true) (ci := 11) (⟨"NameNotesModel", "tunes", "()I"⟩, prog_14_method_41_code, 1, (Option.some Jvm.ClassFile.FieldType.int), 0, true, 0) rfl (by decide +kernel) rfl rfl (by decide) (fun _ => ⟨_, _, rfl⟩) (fm_m_tunes hinj), (List.forall_mem_cons.mpr ⟨fw_row nn_PM20_ok (x := 322) (k := 0) (mn := 274) (np := 1) (ob := false) (ci := 0) (⟨"NameNotesModel", "bits", "(I)I"⟩, prog_14_method_10_code, 3, (Option.some Jvm.ClassFile.FieldType.int), 1, false, 0) rfl (by decide +kernel) rfl rfl (by decide) (fun q => by cases q) (fm_m_bits9 hinj), (List.forall_mem_cons.mpr ⟨fw_row nn_PM20_ok (x := 331) (k := 0) (mn := 279) (np := 3) (ob := true) (ci := 11) (⟨"NameNotesModel", "namedBy", "(III)J"⟩, prog_14_method_77_code, 9, (Option.some Jvm.ClassFile.FieldType.long), 3, true, 2) rfl (by decide +kernel) rfl rfl (by decide) (fun _ => ⟨_, _, rfl⟩) (fm_m_namedBy hinj), (fun _ h => absurd h List.not_mem_nil)⟩)⟩)⟩)⟩) (fun as σ K h => by
  obtain ⟨A, n, s, rfl, hN, hn, hs, ht, hk, h⟩ := h
  have nT := (N_n hN.1).1
  obtain ⟨T, eT⟩ := Int.eq_ofNat_of_zero_le nT.1
  have cT : fw_c (T : Int) = (T : Int) := fw_s (by omega) (by omega)
  have cp := oz_cnt_pos hs.1 hs.2
  have cl := oz_cnt_le (oz_P s) 9
  have m106 : ∀ τ : ab_SG, ab_okM [(107, 1000000)] σ τ → τ 106 = σ 106 := fun τ M => funext fun y => M 106 y (fun q hq => by rw [List.mem_singleton] at hq; rw [hq]; exact fun z => absurd z.1 (by decide))
  have m95 : ∀ τ : ab_SG, ab_okM [(107, 1000000)] σ τ → τ 95 0 = (T : Int) := fun τ M => ((M 95 0 (fun q hq => by rw [List.mem_singleton] at hq; rw [hq]; exact fun z => absurd z.1 (by decide))).trans (NM_n hN).1).trans eT
  have fin : oz_sum (fun x => cond (oz_P s x) (oz_nb (σ 106) (v_lk A (x : Int) n 0 s (A 49 11).toNat) x) 0) 9 = oz_sum (fun x => cond (oz_P s x) (oz_nb (σ 106) (v_lk A (x : Int) n 0 s (A 49 11).toNat) x) 0) T := by
    have tail : ∀ d : Nat, T + d ≤ 9 → oz_sum (fun x => cond (oz_P s x) (oz_nb (σ 106) (v_lk A (x : Int) n 0 s (A 49 11).toNat) x) 0) (T + d) = oz_sum (fun x => cond (oz_P s x) (oz_nb (σ 106) (v_lk A (x : Int) n 0 s (A 49 11).toNat) x) 0) T := by
      intro d
      induction d with
      | zero => intro _; rfl
      | succ d ih =>
        intro hd
        have q : oz_P s (T + d) = false := by
          rw [← Bool.not_eq_true]
          intro z
          have := ht (T + d) (by omega) z
          omega
        show oz_sum _ (T + d) + cond (oz_P s (T + d)) _ 0 = _
        rw [q, ih (by omega)]
        exact Int.add_zero _
    have := tail (9 - T) (by omega)
    rw [show T + (9 - T) = 9 by omega] at this
    exact this
  refine ⟨rfl, fun G hG => fs_m_oddsBy_0 hG ?_⟩
  have loop : ∀ (f x : Nat) (τ : ab_SG), x + f = T → ab_okM [(107, 1000000)] σ τ → G 5 [some (2, 93, 0), some (0, 0, n), some (0, 0, s), some (1, 0, oz_sum (fun x => cond (oz_P s x) (oz_nb (σ 106) (v_lk A (x : Int) n 0 s (A 49 11).toNat) x) 0) x), none, some (0, 0, (x : Int))] [] τ := by
    intro f
    induction f with
    | zero =>
      intro x τ hx M
      have e : x = T := by omega
      subst e
      refine fs_m_oddsBy_5 hG ⟨rfl, fs_m_oddsBy_11 hG ?_⟩
      rw [m95 τ M, cT]
      refine ⟨fun _ => ⟨s, rfl, by omega, fs_m_oddsBy_48 hG ?_⟩, fun z => absurd z (by omega)⟩
      have cc : fw_c ((oz_cnt (oz_P s) 9 : Nat) : Int) = ((oz_cnt (oz_P s) 9 : Nat) : Int) := fw_s (by omega) (by omega)
      have ee := oz_each (oz_cnt (oz_P s) 9 - 1) (by omega)
      rw [show ((oz_cnt (oz_P s) 9 - 1 : Nat) : Int) + 1 = ((oz_cnt (oz_P s) 9 : Nat) : Int) by omega, show oz_cnt (oz_P s) 9 - 1 + 1 = oz_cnt (oz_P s) 9 by omega] at ee
      rw [cc, ee, fw_d_id (by omega) (by omega)]
      refine ⟨by omega, ?_⟩
      have hh := h τ M
      unfold oz_ro at hh
      rw [fin] at hh
      exact hh
    | succ f ih =>
      intro x τ hx M
      have cx : fw_c (x : Int) = (x : Int) := fw_s (by omega) (by omega)
      refine fs_m_oddsBy_5 hG ⟨rfl, fs_m_oddsBy_11 hG ?_⟩
      rw [m95 τ M, cT, cx]
      refine ⟨fun z => absurd z (by omega), fun _ => ⟨s, (x : Int), rfl, fs_m_oddsBy_20 hG ⟨fun q => fs_m_oddsBy_34 hG ?_, fun q => ?_⟩⟩⟩
      · have q1 : oz_P s x = false := by
          rw [← Bool.not_eq_true]
          exact fun z => fw_bo_eq q z
        have k := ih (x + 1) τ (by omega) M
        have e : oz_sum (fun x => cond (oz_P s x) (oz_nb (σ 106) (v_lk A (x : Int) n 0 s (A 49 11).toNat) x) 0) (x + 1) = oz_sum (fun x => cond (oz_P s x) (oz_nb (σ 106) (v_lk A (x : Int) n 0 s (A 49 11).toNat) x) 0) x := by
          show oz_sum _ x + cond (oz_P s x) _ 0 = _
          rw [q1]
          exact Int.add_zero _
        rw [e, show ((x + 1 : Nat) : Int) = (x : Int) + 1 from rfl] at k
        exact k
      · have q1 : oz_P s x = true := fw_bo_ne q
        refine ⟨A, x, n, s, rfl, oz_NMM M (by decide +kernel) hN, by omega, hn, by omega, fun y hy => by rw [m106 τ M]; exact hk y hy, fun τ' M' => fs_m_oddsBy_32 hG (fs_m_oddsBy_34 hG ?_)⟩
        have k := ih (x + 1) τ' (by omega) (on_trans M M')
        have e : oz_sum (fun x => cond (oz_P s x) (oz_nb (σ 106) (v_lk A (x : Int) n 0 s (A 49 11).toNat) x) 0) (x + 1) = oz_sum (fun x => cond (oz_P s x) (oz_nb (σ 106) (v_lk A (x : Int) n 0 s (A 49 11).toNat) x) 0) x + oz_nb (σ 106) (v_lk A (x : Int) n 0 s (A 49 11).toNat) x := by
          show oz_sum _ x + cond (oz_P s x) _ 0 = _
          rw [q1]
          rfl
        rw [e, show ((x + 1 : Nat) : Int) = (x : Int) + 1 from rfl] at k
        rw [m106 τ M]
        exact k
  exact loop T 0 σ (Nat.zero_add T) (fw_okM_refl _ _))
theorem fm_m_oddsOf (hinj : nn_inj ad) : fw_H l cy ad wr cr D 283 8 sp_m_oddsOf := fw_mk hinj (⟨"NameNotesModel", "oddsOf", "(III)J"⟩, prog_14_method_79_code, 4, (Option.some Jvm.ClassFile.FieldType.long), 3, true, 2) rfl rfl nn_KI20_ok nn_KJ20_ok nn_PF20_ok nn_PS20_ok (by decide +kernel) rfl rfl (List.forall_mem_cons.mpr ⟨fw_row nn_PM20_ok (x := 335) (k := 0) (mn := 278) (np := 1) (ob := true) (ci := 11) (⟨"NameNotesModel", "layMind", "(I)V"⟩, prog_14_method_76_code, 3, (Option.none : Option Jvm.ClassFile.FieldType), 1, true, 4) rfl (by decide +kernel) rfl rfl (by decide) (fun _ => ⟨_, _, rfl⟩) (fm_m_layMind hinj), (List.forall_mem_cons.mpr ⟨fw_row nn_PM20_ok (x := 338) (k := 0) (mn := 284) (np := 2) (ob := true) (ci := 11) (⟨"NameNotesModel", "oddsBy", "(II)J"⟩, prog_14_method_78_code, 6, (Option.some Jvm.ClassFile.FieldType.long), 2, true, 2) rfl (by decide +kernel) rfl rfl (by decide) (fun _ => ⟨_, _, rfl⟩) (fm_m_oddsBy hinj), (fun _ h => absurd h List.not_mem_nil)⟩)⟩) (fun as σ K h => by
  obtain ⟨A, p, n, s, rfl, hN, hp, hn, hs, ht, h⟩ := h
  refine ⟨rfl, fun G hG => fs_m_oddsOf_0 hG ⟨A, p, rfl, hN, hp, fun σ1 M1 I1 => fs_m_oddsOf_5 hG ⟨A, n, s, rfl, oz_NMM M1 (by decide +kernel) hN, hn, hs, ht, fun y hy => by rw [I1 y hy]; exact on_kn_b hN (by omega), fun σ2 M2 => fs_m_oddsOf_11 hG ?_⟩⟩⟩
  have e : oz_ro (σ1 106) A n s = 2520 * oz_odds A p n s := by
    rw [oz_same hN.1 (σ1 106) hn hs ht]
    unfold oz_odds oz_ch
    rw [oz_sm_congr (κ' := oz_kp A p) (γ' := oz_grp A n s) (fun y hy => I1 y hy) (fun x _ => rfl)]
  rw [e]
  exact h σ2 (on_trans M1 (od_up M2 (by decide))))
end
end
section
/-! the tunes to be learnt: their set goes up from none -/
section
variable {l : Launch} {cy : Nat → ClassId} {ad wr cr : Nat → Nat} {D : va_G}
end
end
section
/-! a ratio in its least numbers -/
theorem pt_div {x y : Nat} (hx : x ≤ 2460275073345600) (h1 : 1 ≤ y) (hy : y ≤ 2460275073345600) : fw_lop 3 (x : Int) (y : Int) = ((x / y : Nat) : Int) := by
  have b : x / y ≤ x := Nat.div_le_self x y
  show (Int64.ofInt (x : Int) / Int64.ofInt (y : Int)).toInt = _
  rw [Int64.toInt_div, Int64.toInt_ofInt_of_le (by omega) (by omega), Int64.toInt_ofInt_of_le (by omega) (by omega), Int.tdiv_eq_ediv_of_nonneg (by omega), ← Int.natCast_ediv]
  generalize x / y = z at b ⊢
  exact Int.bmod_eq_of_le (by omega) (by omega)
theorem pt_rem {x y : Nat} (hx : x ≤ 2460275073345600) (h1 : 1 ≤ y) (hy : y ≤ 2460275073345600) : fw_lop 4 (x : Int) (y : Int) = ((x % y : Nat) : Int) := by
  have e1 : Int64.ofInt (x : Int) / Int64.ofInt (y : Int) = Int64.ofInt ((x / y : Nat) : Int) := by
    rw [← pt_div hx h1 hy]
    exact (Int64.ofInt_toInt _).symm
  have b : x / y ≤ x := Nat.div_le_self x y
  have r : x % y < y := Nat.mod_lt x (by omega)
  have d := Nat.div_add_mod x y
  have c : x / y * y = y * (x / y) := Nat.mul_comm _ _
  show (Int64.ofInt (x : Int) - Int64.ofInt (x : Int) / Int64.ofInt (y : Int) * Int64.ofInt (y : Int)).toInt = _
  rw [e1, ← Int64.ofInt_mul, ← Int64.ofInt_sub, ← Int.natCast_mul, show (x : Int) - ((x / y * y : Nat) : Int) = ((x % y : Nat) : Int) by omega]
  exact Int64.toInt_ofInt_of_le (by omega) (by omega)
def v_part (x y : Nat) (w : Int) : Int := (((if w = 0 then x else y) / Nat.gcd x y : Nat) : Int)
theorem v_part_k {k : Nat} (hk : 0 < k) (x y : Nat) (w : Int) : v_part (k * x) (k * y) w = v_part x y w := by
  unfold v_part
  rw [Nat.gcd_mul_left]
  split
  · rw [Nat.mul_div_mul_left _ _ hk]
  · rw [Nat.mul_div_mul_left _ _ hk]
theorem pt_gr (x y : Nat) : Nat.gcd y (x % y) = Nat.gcd x y := by
  rw [Nat.gcd_comm x y, Nat.gcd_rec y x, Nat.gcd_comm]
theorem pt_gle {x y : Nat} (h1 : 1 ≤ y) : Nat.gcd x y ≤ y := Nat.gcd_le_right x (by omega)
def sp_part : fw_SP := fun as σ K => ∃ (x y : Nat) (w : Int), as = [(1, 0, (x : Int)), (1, 0, (y : Int)), (0, 0, w)] ∧ x ≤ 976299632280 ∧ (1 ≤ y ∧ y ≤ 976299632280) ∧ (w = 0 ∨ w = 1) ∧ K (some (1, 0, v_part x y w)) σ
def sp_m_common : fw_SP := fun as σ K => ∃ x y : Nat, as = [(1, 0, (x : Int)), (1, 0, (y : Int))] ∧ x ≤ 2460275073345600 ∧ y ≤ 2460275073345600 ∧ K (some (1, 0, ((Nat.gcd x y : Nat) : Int))) σ
def sp_m_part : fw_SP := fun as σ K => ∃ (x y : Nat) (w : Int), as = [(2, 93, 0), (1, 0, (x : Int)), (1, 0, (y : Int)), (0, 0, w)] ∧ x ≤ 2460275073345600 ∧ (1 ≤ y ∧ y ≤ 2460275073345600) ∧ (w = 0 ∨ w = 1) ∧ K (some (1, 0, v_part x y w)) (ab_ups σ 93 0 0)
abbrev fk_part : List fw_CR := []
abbrev st_part : fw_K → fw_KR → fw_K := fw_st vwCl nn_sh nn_kd fw_kv fw_wc (nn_KI1.map (fun x => x.1)) (nn_KJ1.map (fun x => x.1)) (nn_PF1.map (fun x => x.1)) (nn_PS1.map (fun x => x.1)) fk_part 0 nn_dt193 12 2
theorem fs_part_0 {G : fw_K} {R : fw_KR} (hG : fw_cls st_part R G) {a b w : Int} {σ : ab_SG} (h : G 9 [some (1, 0, a), none, some (1, 0, b), none, some (0, 0, w), some (1, 0, a), none, some (1, 0, b), none, some (0, 0, 0), none, none] [] σ) : G 0 [some (1, 0, a), none, some (1, 0, b), none, some (0, 0, w), none, none, none, none, none, none, none] [] σ := fw_on hG [9, 45] 200 h
theorem fs_part_9 {G : fw_K} {R : fw_KR} (hG : fw_cls st_part R G) {a0 a2 a4 a5 a7 a9 : Int} {o1 o3 o6 o8 o10 o11 : Option ab_AV} {σ : ab_SG} (h : (fw_c 200 ≤ fw_c a9 → G 45 [some (1, 0, a0), o1, some (1, 0, a2), o3, some (0, 0, a4), some (1, 0, a5), o6, some (1, 0, a7), o8, some (0, 0, a9), o10, o11] [] σ) ∧ (fw_c a9 < fw_c 200 → (fw_d a7 = fw_d ((0 : Nat) : Int) → G 45 [some (1, 0, a0), o1, some (1, 0, a2), o3, some (0, 0, a4), some (1, 0, a5), o6, some (1, 0, a7), o8, some (0, 0, a9), o10, o11] [] σ) ∧ (fw_d a7 ≠ fw_d ((0 : Nat) : Int) → fw_d a7 ≠ 0 ∧ (G 9 [some (1, 0, a0), o1, some (1, 0, a2), o3, some (0, 0, a4), some (1, 0, a7), none, some (1, 0, fw_lop 4 a5 a7), none, some (0, 0, a9 + 1), some (1, 0, fw_lop 4 a5 a7), none] [] σ)))) : G 9 [some (1, 0, a0), o1, some (1, 0, a2), o3, some (0, 0, a4), some (1, 0, a5), o6, some (1, 0, a7), o8, some (0, 0, a9), o10, o11] [] σ := fw_on hG [9, 45] 200 h
theorem fs_part_45 {G : fw_K} {R : fw_KR} (hG : fw_cls st_part R G) {a0 a2 a4 a5 : Int} {o1 o3 o6 o7 o8 o9 o10 o11 : Option ab_AV} {σ : ab_SG} (h : (fw_d a5 ≠ fw_d ((0 : Nat) : Int) → (fw_c a4 ≠ 0 → fw_d a5 ≠ 0 ∧ (R (some (1, 0, fw_lop 3 a2 a5)) σ)) ∧ (fw_c a4 = 0 → fw_d a5 ≠ 0 ∧ (R (some (1, 0, fw_lop 3 a0 a5)) σ))) ∧ (fw_d a5 = fw_d ((0 : Nat) : Int) → R (some (1, 0, ((0 : Nat) : Int))) σ)) : G 45 [some (1, 0, a0), o1, some (1, 0, a2), o3, some (0, 0, a4), some (1, 0, a5), o6, o7, o8, o9, o10, o11] [] σ := fw_on hG [9, 45] 200 h
abbrev fk_m_common : List fw_CR := []
abbrev st_m_common : fw_K → fw_KR → fw_K := fw_st vwCl nn_sh nn_kd fw_kv fw_wc (nn_KI20.map (fun x => x.1)) (nn_KJ20.map (fun x => x.1)) (nn_PF20.map (fun x => x.1)) (nn_PS20.map (fun x => x.1)) fk_m_common 0 nn_dt281 10 2
theorem fs_m_common_0 {G : fw_K} {R : fw_KR} (hG : fw_cls st_m_common R G) {a b : Int} {σ : ab_SG} (h : G 6 [some (1, 0, a), none, some (1, 0, b), none, some (1, 0, a), none, some (1, 0, b), none, none, none] [] σ) : G 0 [some (1, 0, a), none, some (1, 0, b), none, none, none, none, none, none, none] [] σ := fw_on hG [6] 200 h
theorem fs_m_common_6 {G : fw_K} {R : fw_KR} (hG : fw_cls st_m_common R G) {a0 a4 a6 : Int} {o1 o2 o5 o8 o9 : Option ab_AV} {σ : ab_SG} (h : (fw_d a6 ≤ fw_d ((0 : Nat) : Int) → R (some (1, 0, a4)) σ) ∧ (fw_d ((0 : Nat) : Int) < fw_d a6 → fw_d a6 ≠ 0 ∧ (G 6 [some (1, 0, a0), o1, o2, none, some (1, 0, a6), none, some (1, 0, fw_lop 4 a4 a6), none, some (1, 0, fw_lop 4 a4 a6), none] [] σ))) : G 6 [some (1, 0, a0), o1, o2, none, some (1, 0, a4), o5, some (1, 0, a6), none, o8, o9] [] σ := fw_on hG [6] 200 h
abbrev fk_m_part : List fw_CR := [(110, 2, false, 0, 0, sp_m_common)]
abbrev st_m_part : fw_K → fw_KR → fw_K := fw_st vwCl nn_sh nn_kd fw_kv fw_wc (nn_KI20.map (fun x => x.1)) (nn_KJ20.map (fun x => x.1)) (nn_PF20.map (fun x => x.1)) (nn_PS20.map (fun x => x.1)) fk_m_part 1 nn_dt280 6 2
theorem fs_m_part_0 {G : fw_K} {R : fw_KR} (hG : fw_cls st_m_part R G) {a b w : Int} {σ : ab_SG} (h : (fw_c w ≠ 0 → G 15 [some (2, 93, 0), some (1, 0, a), none, some (1, 0, b), none, some (0, 0, w)] [(1, 0, b)] (ab_ups σ 93 0 (fw_c 0))) ∧ (fw_c w = 0 → G 15 [some (2, 93, 0), some (1, 0, a), none, some (1, 0, b), none, some (0, 0, w)] [(1, 0, a)] (ab_ups σ 93 0 (fw_c 0)))) : G 0 [some (2, 93, 0), some (1, 0, a), none, some (1, 0, b), none, some (0, 0, w)] [] σ := fw_on hG [15, 20] 200 h
theorem fs_m_part_15 {G : fw_K} {R : fw_KR} (hG : fw_cls st_m_part R G) {a1 a3 b0 : Int} {o2 o4 o5 : Option ab_AV} {σ : ab_SG} (h : sp_m_common [(1, 0, a1), (1, 0, a3)] σ (fun rv σ2 => G 20 [some (2, 93, 0), some (1, 0, a1), o2, some (1, 0, a3), o4, o5] (rv.toList ++ [(1, 0, b0)]) σ2)) : G 15 [some (2, 93, 0), some (1, 0, a1), o2, some (1, 0, a3), o4, o5] [(1, 0, b0)] σ := fw_on hG [15, 20] 200 h
theorem fs_m_part_20 {G : fw_K} {R : fw_KR} (hG : fw_cls st_m_part R G) {b0 b1 : Int} {o1 o2 o3 o4 o5 : Option ab_AV} {σ : ab_SG} (h : fw_d b0 ≠ 0 ∧ (R (some (1, 0, fw_lop 3 b1 b0)) σ)) : G 20 [some (2, 93, 0), o1, o2, o3, o4, o5] [(1, 0, b0), (1, 0, b1)] σ := fw_on hG [15, 20] 200 h

section
variable {l : Launch} {cy : Nat → ClassId} {ad wr cr : Nat → Nat} {D : va_G}
theorem fm_part (hinj : nn_inj ad) : fw_H l cy ad wr cr D 193 0 sp_part := fw_mk hinj (⟨"NameNotes", "part", "(JJI)J"⟩, prog_1_method_79_code, 12, (Option.some Jvm.ClassFile.FieldType.long), 3, false, 2) rfl rfl nn_KI1_ok nn_KJ1_ok nn_PF1_ok nn_PS1_ok (by decide +kernel) rfl rfl (fun _ h => absurd h List.not_mem_nil) (fun as σ K h => by
  obtain ⟨x, y, w, rfl, hx, hy, hw, h⟩ := h
  have d0 : fw_d ((0 : Nat) : Int) = 0 := fw_d_id (by decide) (by decide)
  have c2 : fw_c 200 = 200 := fw_s (by decide) (by decide)
  have cw : fw_c w = w := fw_s (by omega) (by omega)
  refine ⟨rfl, fun G hG => fs_part_0 hG ?_⟩
  have out : ∀ (g : Nat) (o6 o7 o8 o9 o10 o11 : Option ab_AV), g = Nat.gcd x y → G 45 [some (1, 0, (x : Int)), none, some (1, 0, (y : Int)), none, some (0, 0, w), some (1, 0, (g : Int)), o6, o7, o8, o9, o10, o11] [] σ := by
    intro g o6 o7 o8 o9 o10 o11 e
    have g1 : 1 ≤ g := by rw [e]; exact Nat.gcd_pos_of_pos_right x (by omega)
    have g2 : g ≤ 976299632280 := by rw [e]; exact Nat.le_trans (pt_gle hy.1) hy.2
    refine fs_part_45 hG ?_
    rw [d0, fw_d_id (x := (g : Int)) (by omega) (by omega), cw, pt_div (by omega) g1 (by omega), pt_div (by omega) g1 (by omega)]
    unfold v_part at h
    refine ⟨fun _ => ⟨fun q => ⟨by omega, ?_⟩, fun q => ⟨by omega, ?_⟩⟩, fun z => absurd z (by omega)⟩
    · rw [if_neg q, ← e] at h
      exact h
    · rw [if_pos q, ← e] at h
      exact h
  have loop : ∀ (j u v i : Nat) (o6 o8 o10 o11 : Option ab_AV), v < 2 ^ j → i + 2 * j + 1 ≤ 200 → u ≤ 976299632280 → v ≤ 976299632280 → Nat.gcd u v = Nat.gcd x y → G 9 [some (1, 0, (x : Int)), none, some (1, 0, (y : Int)), none, some (0, 0, w), some (1, 0, (u : Int)), o6, some (1, 0, (v : Int)), o8, some (0, 0, (i : Int)), o10, o11] [] σ := by
    intro j
    induction j with
    | zero =>
      intro u v i o6 o8 o10 o11 h1 h2 h3 h4 e
      have v0 : v = 0 := by omega
      subst v0
      refine fs_part_9 hG ?_
      rw [c2, fw_s (x := (i : Int)) (by omega) (by omega)]
      refine ⟨fun z => absurd z (by omega), fun _ => ⟨fun _ => out u _ _ _ _ _ _ (by rw [← e, Nat.gcd_zero_right]), fun z => absurd rfl z⟩⟩
    | succ j ih =>
      intro u v i o6 o8 o10 o11 h1 h2 h3 h4 e
      refine fs_part_9 hG ?_
      rw [c2, fw_s (x := (i : Int)) (by omega) (by omega), d0, fw_d_id (x := (v : Int)) (by omega) (by omega)]
      refine ⟨fun z => absurd z (by omega), fun _ => ⟨fun z => out u _ _ _ _ _ _ ?_, fun z => ⟨z, ?_⟩⟩⟩
      · have v0 : v = 0 := by omega
        subst v0
        rw [← e, Nat.gcd_zero_right]
      have v1 : 1 ≤ v := by omega
      have r1 : u % v < v := Nat.mod_lt u (by omega)
      have er : fw_lop 4 (u : Int) (v : Int) = ((u % v : Nat) : Int) := pt_rem (by omega) v1 (by omega)
      have e2 : Nat.gcd v (u % v) = Nat.gcd x y := (pt_gr u v).trans e
      rw [er]
      generalize u % v = r at r1 e2
      refine fs_part_9 hG ?_
      rw [c2, show (i : Int) + 1 = ((i + 1 : Nat) : Int) from rfl, fw_s (x := ((i + 1 : Nat) : Int)) (by omega) (by omega), d0, fw_d_id (x := (r : Int)) (by omega) (by omega)]
      refine ⟨fun z => absurd z (by omega), fun _ => ⟨fun z => out v _ _ _ _ _ _ ?_, fun z => ⟨z, ?_⟩⟩⟩
      · have v0 : r = 0 := by omega
        subst v0
        rw [← e2, Nat.gcd_zero_right]
      have r0 : 1 ≤ r := by omega
      have q1 : v % r < r := Nat.mod_lt v (by omega)
      have er2 : fw_lop 4 (v : Int) (r : Int) = ((v % r : Nat) : Int) := pt_rem (by omega) r0 (by omega)
      have e3 : Nat.gcd r (v % r) = Nat.gcd x y := (pt_gr v r).trans e2
      have hf : 2 * (v % r) < v := by
        have d := Nat.div_add_mod v r
        have d1 : 1 ≤ v / r := Nat.div_pos (by omega) (by omega)
        have d2 : r ≤ r * (v / r) := Nat.le_mul_of_pos_right r d1
        omega
      have p2 : 2 ^ (j + 1) = 2 * 2 ^ j := by rw [Nat.pow_succ, Nat.mul_comm]
      rw [er2]
      have g := ih r (v % r) (i + 1 + 1) none none (some (1, 0, ((v % r : Nat) : Int))) none (by omega) (by omega) (by omega) (by omega) e3
      exact g
  exact loop 40 x y 0 none none none none (by omega) (by decide) hx hy.2 rfl)
theorem fm_m_common (hinj : nn_inj ad) : fw_H l cy ad wr cr D 281 0 sp_m_common := fw_mk hinj (⟨"NameNotesModel", "common", "(JJ)J"⟩, prog_14_method_12_code, 10, (Option.some Jvm.ClassFile.FieldType.long), 2, false, 2) rfl rfl nn_KI20_ok nn_KJ20_ok nn_PF20_ok nn_PS20_ok (by decide +kernel) rfl rfl (fun _ h => absurd h List.not_mem_nil) (fun as σ K h => by
  obtain ⟨x, y, rfl, hx, hy, h⟩ := h
  have d0 : fw_d ((0 : Nat) : Int) = 0 := fw_d_id (by decide) (by decide)
  refine ⟨rfl, fun G hG => fs_m_common_0 hG ?_⟩
  have loop : ∀ (n u v : Nat) (o2 o5 o8 o9 : Option ab_AV), v ≤ n → u ≤ 2460275073345600 → v ≤ 2460275073345600 → Nat.gcd u v = Nat.gcd x y → G 6 [some (1, 0, (x : Int)), none, o2, none, some (1, 0, (u : Int)), o5, some (1, 0, (v : Int)), none, o8, o9] [] σ := by
    intro n
    induction n with
    | zero =>
      intro u v o2 o5 o8 o9 h1 h3 h4 e
      have v0 : v = 0 := by omega
      subst v0
      refine fs_m_common_6 hG ⟨fun _ => ?_, fun z => absurd z (Int.lt_irrefl _)⟩
      rw [Nat.gcd_zero_right] at e
      rw [e]
      exact h
    | succ n ih =>
      intro u v o2 o5 o8 o9 h1 h3 h4 e
      refine fs_m_common_6 hG ?_
      rw [d0, fw_d_id (x := (v : Int)) (by omega) (by omega)]
      refine ⟨fun z => ?_, fun z => ⟨by omega, ?_⟩⟩
      · have v0 : v = 0 := by omega
        subst v0
        rw [Nat.gcd_zero_right] at e
        rw [e]
        exact h
      · have r1 : u % v < v := Nat.mod_lt u (by omega)
        rw [pt_rem h3 (by omega) h4]
        exact ih v (u % v) o2 none (some (1, 0, ((u % v : Nat) : Int))) none (by omega) (by omega) (by omega) ((pt_gr u v).trans e)
  exact loop y x y _ _ _ _ (Nat.le_refl y) hx hy rfl)
theorem fm_m_part (hinj : nn_inj ad) : fw_H l cy ad wr cr D 280 1 sp_m_part := fw_mk hinj (⟨"NameNotesModel", "part", "(JJI)J"⟩, prog_14_method_13_code, 6, (Option.some Jvm.ClassFile.FieldType.long), 3, true, 2) rfl rfl nn_KI20_ok nn_KJ20_ok nn_PF20_ok nn_PS20_ok (by decide +kernel) rfl rfl (List.forall_mem_cons.mpr ⟨fw_row nn_PM20_ok (x := 110) (k := 0) (mn := 281) (np := 2) (ob := false) (ci := 0) (⟨"NameNotesModel", "common", "(JJ)J"⟩, prog_14_method_12_code, 10, (Option.some Jvm.ClassFile.FieldType.long), 2, false, 2) rfl (by decide +kernel) rfl rfl (by decide) (fun q => by cases q) (fm_m_common hinj), (fun _ h => absurd h List.not_mem_nil)⟩) (fun as σ K h => by
  obtain ⟨x, y, w, rfl, hx, hy, hw, h⟩ := h
  have cw : fw_c w = w := fw_s (by omega) (by omega)
  have g1 : 1 ≤ Nat.gcd x y := Nat.gcd_pos_of_pos_right x (by omega)
  have g2 : Nat.gcd x y ≤ 2460275073345600 := Nat.le_trans (pt_gle hy.1) hy.2
  refine ⟨rfl, fun G hG => fs_m_part_0 hG ?_⟩
  rw [cw, fw_c0]
  unfold v_part at h
  have fin : ∀ z : Nat, z ≤ 2460275073345600 → K (some (1, 0, ((z / Nat.gcd x y : Nat) : Int))) (ab_ups σ 93 0 0) → G 15 [some (2, 93, 0), some (1, 0, (x : Int)), none, some (1, 0, (y : Int)), none, some (0, 0, w)] [(1, 0, (z : Int))] (ab_ups σ 93 0 0) := by
    intro z hz k
    refine fs_m_part_15 hG ⟨x, y, rfl, hx, hy.2, fs_m_part_20 hG ?_⟩
    rw [fw_d_id (x := ((Nat.gcd x y : Nat) : Int)) (by omega) (by omega), pt_div hz g1 g2]
    exact ⟨by omega, k⟩
  refine ⟨fun q => fin y hy.2 ?_, fun q => fin x hx ?_⟩
  · rw [if_neg q] at h
    exact h
  · rw [if_pos q] at h
    exact h)
end
end
section
/-! methods that return or throw, over known numbers -/
abbrev fx_KE : Type := ab_SG → Prop
abbrev fx_SP : Type := List ab_AV → ab_SG → fw_KR → fx_KE → Prop
/-- where it threw -/
def fx_XC (cy : Nat → ClassId) (ad wr : Nat → Nat) (D : va_G) (E : fx_KE) (A : Nat → Prop) : String → State → State → Prop := fun x st t =>
  x = nx_N ∧ (∃ σ' : ab_SG, E σ' ∧ va_P D vwCl (ab_WD cy ad wr nn_sh σ') t.heap) ∧ va_F A st t
def fx_PC (cy : Nat → ClassId) (ad wr cr : Nat → Nat) (D : va_G) (σ : ab_SG) (av : List Value) (sz : Nat) : Array Value → State → Prop :=
  va_Pc av (fun U => U.heap.size = sz ∧ va_P D vwCl (ab_WD cy ad wr nn_sh σ) U.heap ∧ va_K D vwCl (ab_tys cy) U ∧ ab_okN nn_NW U ∧ fw_CB cy ad wr cr nn_kd fw_kv fw_wc (ab_A ad nn_sh.length sz) U ∧ nx_Z (ab_A ad nn_sh.length sz) U)
theorem fx_PC_blind {cy : Nat → ClassId} {ad wr cr : Nat → Nat} {D : va_G} {σ : ab_SG} {av : List Value} {sz : Nat} : FrameBlind (fx_PC cy ad wr cr D σ av sz) := by
  intro a U g mk h
  obtain ⟨h1, h2, h3, h4, h5, h6, h7⟩ := h
  exact ⟨h1, h2, h3, va_K.moved (u := U) (U := U.calling g mk a) (Vm.Alike.refl U.vm) h4, fun q hq => va_Nw.same rfl (u := U) (U := U.calling g mk a) rfl (h5 q hq), fw_CB_blind h6, nx_Z_blind h7⟩
def fx_H (l : Launch) (cy : Nat → ClassId) (ad wr cr : Nat → Nat) (D : va_G) (mn lev : Nat) (sp : fx_SP) : Prop :=
  ∀ mr : ab_MR, nn_MT[mn]? = some mr → ∀ (as : List ab_AV) (σ : ab_SG) (sz : Nat) (K : fw_KR) (E : fx_KE), sp as σ K E →
    vx_Met l mr.1 (Jvm.Cond.code mr.1 mr.2.1 mr.2.2.1 mr.2.2.2.1 :: nn_TT) (nx_room lev) (fx_PC cy ad wr cr D σ (as.map (ab_V ad wr cr fw_z)) sz) (fw_QC cy ad wr cr D vwCl nn_sh K (ab_A ad nn_sh.length sz)) (fx_XC cy ad wr D E (ab_A ad nn_sh.length sz)) 1 6 (ab_A ad nn_sh.length sz)
def fx_Go (p : Program) (l : Launch) (e : Env) (R : Room) (s : State) (m : MethodId) (args : Array Value) (below : List Frame) (meth : Method) (c : Code) (cells slots : Nat) (cy : Nat → ClassId) (ad wr cr : Nat → Nat) (D : va_G) (cl : List vw_C) (sh : List ab_SP) (A : Nat → Prop) (nL : Nat) (Q : State → Prop) : fw_K := fun pc L S σ =>
  ∀ (H : Heap) (locs : List Loc) (ls : Array Slot) (st : List Value), fw_okL ad wr cr nL L ls → fw_okS ad wr cr S st → va_P D cl (ab_WD cy ad wr sh σ) H → va_S A s.heap H locs → W p l e R s m args below meth c H locs cells slots Q (F0 m pc ls st)
/-- a place where it throws -/
def fx_site (cc : ByteArray) (pc : Nat) : Prop := ∃ (is : Nat) (tx : String) (k : Nat), ("NameNotes", is, tx, k) ∈ nn_kd.2.2.2 ∧ decode cc pc = .ok (.new 211, 3) ∧ decode cc (pc + 3) = .ok (.dup, 1) ∧ ((decode cc (pc + 4) = .ok (.ldc is, 2) ∧ decode cc (pc + 6) = .ok (.invokespecial 215, 3) ∧ decode cc (pc + 9) = .ok (.athrow, 1)) ∨ (decode cc (pc + 4) = .ok (.ldc_w is, 3) ∧ decode cc (pc + 7) = .ok (.invokespecial 215, 3) ∧ decode cc (pc + 10) = .ok (.athrow, 1)))
section
variable {p : Program} {l : Launch} {e : Env} {R : Room} {s : State} {m : MethodId} {args : Array Value} {below : List Frame} {meth : Method} {c : Code} {H : Heap} {locs : List Loc} {cc : ByteArray} {pc : Nat} {ls : Array Slot} {st : List Value}
variable {ad wr cr : Nat → Nat} {cy : Nat → ClassId} {nL lev rk : Nat} {S : List ab_AV} {own : String} {i : Instr} {len : Nat} {D : va_G} {cl : List vw_C} {sh : List ab_SP} {A : Nat → Prop} {Ts TT : List Jvm.Cond} {NW : ab_NW} {kd : ab_KD} {kv : Nat → Nat → Int} {wc : Nat → Int} {MT : List ab_MR} {FK : List fw_CR} {σ : ab_SG} {KI KJ : List (Nat × Int)} {PF : ab_PT} {PS : ab_PS} {dt : ab_DT}
variable {cells slots : Nat} {Q : State → Prop}
theorem fx_rt_ok {ret : Option FieldType} {K : fw_KR} (hx : p.tables.exec = Jvm.exec) (hb : c.code = cc) (hret : meth.sig.returnType = ret) (hrk : ab_rkok rk ret) (hlocks : meth.locks = false)
    (h : fw_rt rk i len S (fun rv => K rv σ)) (hdg : decode cc pc = .ok (i, len)) (hS : fw_okS ad wr cr S st) (hP : va_P D cl (ab_WD cy ad wr sh σ) H) (hSS : va_S A s.heap H locs) :
    W p l e R s m args below meth c H locs cells slots (MQ below (fw_QC cy ad wr cr D cl sh K A) args s cells slots A) (F0 m pc ls st) := by
  have post : ∀ (rv : Option ab_AV), K rv σ → ∀ t : State, t.heap = H → fw_QC cy ad wr cr D cl sh K A args s (.returned (rv.map (ab_V ad wr cr fw_z))) t := fun rv hk t ht => ⟨⟨rv, σ, rfl, hk, by rw [ht]; exact hP⟩, hSS.F ht⟩
  unfold fw_rt at h
  split at h
  · rename_i s9 c9
    have h0 := fw_if_ok h
    clear h
    obtain ⟨g, h⟩ := h0
    have := ab_beq g; subst this
    obtain ⟨st1, rfl, hS1⟩ := fw_pop hS
    have : st1 = [] := hS1
    subst this
    split at h
    · exact W.iret hx hb (hret.trans hrk) (fun t ht _ => post _ h t ht) hSS.2.2 hdg hlocks
    · refine W.zret hx hb (hret.trans hrk) ?_ (fun t ht _ => post _ h.2 t ht) hSS.2.2 hdg hlocks
      have e1 := (ab_nar_zv h.1.1 h.1.2).1
      rw [fw_c_of] at e1
      show narrow .boolean (.int (Int32.ofInt (0 + c9))) = .int (Int32.ofInt (0 + c9))
      rw [Int.zero_add]
      exact e1
    · exact h.elim
  · rename_i s9 c9
    have h0 := fw_if_ok h
    clear h
    obtain ⟨g, h⟩ := h0
    rw [Bool.and_eq_true] at g
    have := ab_beq g.1; subst this
    have g2 := ab_beq g.2
    subst g2
    obtain ⟨st1, rfl, hS1⟩ := fw_pop hS
    have : st1 = [] := hS1
    subst this
    exact W.lret hx hb (hret.trans hrk) (fun t ht _ => post _ h t ht) hSS.2.2 hdg hlocks
  · rename_i a9
    have h0 := fw_if_ok h
    clear h
    obtain ⟨g, h⟩ := h0
    rw [Bool.and_eq_true, Bool.and_eq_true] at g
    have := ab_beq g.1.1; subst this
    have g2 := ab_beq g.1.2
    subst g2
    obtain ⟨st1, rfl, hS1⟩ := fw_pop hS
    have : st1 = [] := hS1
    subst this
    obtain ⟨n9, hn9⟩ := hrk
    refine W.aret (v := ab_V ad wr cr fw_z a9) hx hb (hret.trans hn9) (Or.inl ⟨n9, rfl⟩) ?_ (fun t ht _ => post (some a9) h t ht) hSS.2.2 hdg hlocks
    rcases ab_ref (ad := ad) (wr := wr) (cr := cr) (ρ := fw_z) g.2 with ⟨x, hx1⟩ | hx1
    · exact Or.inr ⟨x, hx1⟩
    · exact Or.inl hx1
  · have h0 := fw_if_ok h
    clear h
    obtain ⟨g, h⟩ := h0
    rw [Bool.and_eq_true] at g
    have := ab_beq g.1; subst this
    have g2 := ab_beq g.2
    subst g2
    have : st = [] := hS
    subst this
    exact W.vret hx hb (hret.trans hrk) (fun t ht _ => post none h t ht) hSS.2.2 hdg hlocks
  · exact h.elim
set_option maxHeartbeats 4000000 in
theorem fx_st_ok {ret : Option FieldType} {Kr : fw_KR} (hE : fw_Ev p l s m args meth c cc nL lev rk R cy ad wr cr D cl sh own A Ts TT NW MT KI KJ PF kd kv wc PS FK dt ret) (hcs : cells ≤ R.cells ∧ slots ≤ R.slots)
    (hrt : ∀ (pc : Nat) (i : Instr) (len : Nat) (S : List ab_AV) (σ : ab_SG) (H : Heap) (locs : List Loc) (ls : Array Slot) (st : List Value), fw_rt rk i len S (fun rv => Kr rv σ) → decode cc pc = .ok (i, len) → fw_okS ad wr cr S st → va_P D cl (ab_WD cy ad wr sh σ) H → va_S A s.heap H locs → W p l e R s m args below meth c H locs cells slots Q (F0 m pc ls st)) :
    fw_cls (fw_st cl sh kd kv wc KI KJ PF PS FK lev dt nL rk) Kr (fx_Go p l e R s m args below meth c cells slots cy ad wr cr D cl sh A nL Q) := by
  intro K hKG pc L S σ h H locs ls st hL hS hP hSS
  obtain ⟨hx, hb, hml, hown, hts, hKK, hN, hTT, hcode, hA, hA2, hFK, hR, hKI, hKJ, hPF, hD, hCB, hPS, hdt, hret, hrk, hlk⟩ := hE
  have hlz : ls.size = nL := hL.1
  have go : ∀ (n : Nat), fw_go p l e R s m args below meth c cells slots Q ad wr cr cy D cl sh A s.heap (fun S' σ' => K n L S' σ') n ls := fun n S' σ' H' locs' st' hk hP' hSS' hS' => hKG _ _ _ _ hk H' locs' ls st' hL hS' hP' hSS'
  have gb : ∀ (n : Nat) (S' : List ab_AV) (st' : List Value), K n L S' σ → fw_okS ad wr cr S' st' → W p l e R s m args below meth c H locs cells slots Q (F0 m n ls st') := fun n S' st' hk hS' => hKG _ _ _ _ hk H locs ls st' hL hS' hP hSS
  unfold fw_st at h
  split at h
  · rename_i i9 len9 h9 hdec
    have hdg : decode cc pc = .ok (i9, len9) := ab_dec_ok hdt hdec
    split at h
    · unfold fw_p0 at h
      split at h
      · rename_i r9 hr9
        obtain ⟨L', S'⟩ := r9
        exact fw_pu_ok hx hb hown hKI hKJ hr9 hdg hL hS (fun ls' st' hL' hS' => hKG _ _ _ _ h H locs ls' st' hL' hS' hP hSS)
      · split at h
        · rename_i q9 hq9
          obtain ⟨d9, S'⟩ := q9
          exact fw_dv_ok hx hb hq9 h.1 hdg hS (fun st' hS' => gb _ _ _ h.2 hS')
        · exact h.elim
    · unfold fw_h1 at h
      split at h
      · exact fw_ks_ok hx hb hown hts hCB hPS h hdg hS hSS (fun S' st' hk hS' => gb _ _ _ hk hS')
      · exact fw_ks_ok hx hb hown hts hCB hPS h hdg hS hSS (fun S' st' hk hS' => gb _ _ _ hk hS')
      · exact fw_ks_ok hx hb hown hts hCB hPS h hdg hS hSS (fun S' st' hk hS' => gb _ _ _ hk hS')
      · exact fw_ks_ok hx hb hown hts hCB hPS h hdg hS hSS (fun S' st' hk hS' => gb _ _ _ hk hS')
      · exact fw_ks_ok hx hb hown hts hCB hPS h hdg hS hSS (fun S' st' hk hS' => gb _ _ _ hk hS')
      · exact fw_hp_ok hx hb hown hts hKK hD hPF h hdg hS hP hSS (go _)
    · refine fw_br_ok hx hb hCB.2.2.2 h hdg (fun j n hj => ?_) hS (fun n S' st' hk hS' => gb _ _ _ hk hS')
      split at hj
      · rename_i q9 hq9
        cases hj
        exact ab_dec_ok hdt hq9
      · cases hj
    · unfold fw_p3 at h
      split at h
      · rename_i x9
        split at h
        · rename_i z9 hz9
          exact fw_mth_ok hx hb (hml.trans hlz.symm) hown hts (hPS _ (ab_pk_mem hz9)) hR hcs.1 hcs.2 h hdg hS (fun S' st' hk hS' => gb _ _ _ hk hS')
        · exact fw_cl_ok hcs hx hb hml hown hts hKK hN hCB rfl hTT hcode hA hA2 hFK hR h hdg hS hlz hP hSS (go _)
      · exact fw_cl_ok hcs hx hb hml hown hts hKK hN hCB rfl hTT hcode hA hA2 hFK hR h hdg hS hlz hP hSS (go _)
    · exact fw_ks_ok hx hb hown hts hCB hPS h hdg hS hSS (fun S' st' hk hS' => gb _ _ _ hk hS')
    · exact fw_br_ok hx hb hCB.2.2.2 h hdg (fun j n hj => by cases hj) hS (fun n S' st' hk hS' => gb _ _ _ hk hS')
    · exact hrt _ _ _ _ _ H locs ls st h hdg hS hP hSS
  · exact h.elim
end
set_option maxHeartbeats 4000000 in
/-- a method that returns or throws does what is said of it -/
theorem fx_met {l : Launch} {cy : Nat → ClassId} {ad wr cr : Nat → Nat} {D : va_G} {KI KJ : List (Nat × Int)} {PF : ab_PT} {PS : ab_PS} {FK : List fw_CR} {lev rk mn : Nat} {dt : ab_DT} {XS : List Nat} {sp : fx_SP} (htr : l.stackTraces = false) (hinj : nn_inj ad) (mr : ab_MR) (hmr : nn_MT[mn]? = some mr) (hdt : nn_DT[mn]? = some dt)
    (hKI : ∀ q ∈ KI, Jvm.Cond.constant "NameNotes" q.1 (Int32.ofInt q.2) ∈ nn_TT) (hKJ : ∀ q ∈ KJ, Jvm.Cond.constantLong "NameNotes" q.1 (Int64.ofInt q.2) ∈ nn_TT) (hPF : ∀ q ∈ PF, ab_fok vwCl nn_TT "NameNotes" q) (hPS : ∀ q ∈ PS, ab_psok nn_TT nn_kd "NameNotes" q)
    (hy : plainName mr.1.cls = true) (hown : mr.1.cls = "NameNotes") (hrk : nn_rkB rk mr.2.2.2.1 = true) (hFK : ∀ q ∈ FK, fw_R l cy ad wr cr D "NameNotes" q) (hXS : ∀ pc ∈ XS, fx_site mr.2.1 pc)
    (hgo : ∀ (as : List ab_AV) (σ : ab_SG) (K : fw_KR) (E : fx_KE), sp as σ K E → (ab_cat as).ble mr.2.2.1 = true ∧ ∀ G : fw_K, fw_cls (fw_st vwCl nn_sh nn_kd fw_kv fw_wc KI KJ PF PS FK lev dt mr.2.2.1 rk) K G → (∀ pc ∈ XS, ∀ (L : fw_L) (σ' : ab_SG), E σ' → G pc L [] σ') → G 0 (fw_en mr.2.2.1 as) [] σ) : fx_H l cy ad wr cr D mn lev sp := by
  intro mr9 hmr9 as σ sz K E hsp
  rw [hmr] at hmr9
  cases hmr9
  obtain ⟨hfit, hgo⟩ := hgo as σ K E hsp
  refine vx_ofW (cc := mr.2.1) (maxL := mr.2.2.1) (ret := mr.2.2.2.1) hy rfl ?_
  intro p e s m args below meth c s₁ B hml hex hv
  obtain ⟨rfl, hsz, hP, hKK, hN, hCB, hZ⟩ := hv
  have hts := atoms_spec (ws := Jvm.Cond.code mr.1 mr.2.1 mr.2.2.1 mr.2.2.2.1 :: nn_TT) B.pre
  have hown2 : s.vm.findClass "NameNotes" = some m.cls := by rw [← hown]; exact findClass_of_methodNamed B.named
  subst hsz
  have hA : ∀ k, k < nn_sh.length → ab_A ad nn_sh.length s.heap.size (ad k) := fun k hk => Or.inl ⟨k, hk, rfl⟩
  have hsub : ∀ w ∈ nn_TT, w ∈ (Jvm.Cond.code mr.1 mr.2.1 mr.2.2.1 mr.2.2.2.1 :: nn_TT) := fun w hw => List.mem_cons_of_mem _ hw
  have hww : ∀ w ∈ nx_wds, w.before (as.map (ab_V ad wr cr fw_z)).toArray s = true := nx_wds_of (fun w hw => hts _ (hsub _ hw)) hZ.2.2
  have hE : fw_Ev p l s m (as.map (ab_V ad wr cr fw_z)).toArray meth c mr.2.1 mr.2.2.1 lev rk (headSpec (Jvm.Cond.code mr.1 mr.2.1 mr.2.2.1 mr.2.2.2.1 :: nn_TT) (nx_room lev)).room cy ad wr cr D vwCl nn_sh "NameNotes" (ab_A ad nn_sh.length s.heap.size) (Jvm.Cond.code mr.1 mr.2.1 mr.2.2.1 mr.2.2.2.1 :: nn_TT) nn_TT nn_NW nn_MT KI KJ PF nn_kd fw_kv fw_wc PS FK dt mr.2.2.2.1 :=
    ⟨B.exec, B.bytes, hml, hown2, hts, hKK, hN, fun w hw => ⟨hsub w hw, nn_TT_good w hw⟩, nn_MT_code, hA, fun q hq => Or.inr hq, fun q hq => fw_rok_mono (hFK q hq) hsub, ⟨Nat.le_add_right lev 10, Nat.le_add_right (40 * lev) 200⟩, fun q hq => hts _ (hsub _ (hKI q hq)), fun q hq => hts _ (hsub _ (hKJ q hq)), fun q hq => ab_fok_mono (hPF q hq) hsub, ab_WD_D hinj hA, hCB, fun q hq => ab_psok_mono (hPS q hq) hsub, nn_DT_ok hmr hdt, B.returns, nn_rk_ok hrk, B.notSynchronized⟩
  have hl := lv_entry (as.map (ab_V ad wr cr fw_z)) (n := mr.2.2.1) (ab_fit_len hfit)
  rw [lg_entry_eq]
  generalize (lg_sl (as.map (ab_V ad wr cr fw_z)) ++ List.replicate (mr.2.2.1 - (lg_sl (as.map (ab_V ad wr cr fw_z))).length) Slot.unset).toArray = ls at hl ⊢
  refine hgo _ (fx_st_ok (cells := 0) (slots := 0) (Q := vx_MQ below (fw_QC cy ad wr cr D vwCl nn_sh K (ab_A ad nn_sh.length s.heap.size)) (fx_XC cy ad wr D E (ab_A ad nn_sh.length s.heap.size)) (as.map (ab_V ad wr cr fw_z)).toArray s 1 6 (ab_A ad nn_sh.length s.heap.size)) hE ⟨Nat.zero_le _, Nat.zero_le _⟩ (fun pc i len S σ H locs ls st h hd hS hP hSS => W.widen (k := 1) (n := 6) (by decide) (by decide) (vx_ret (fx_rt_ok B.exec B.bytes B.returns (nn_rk_ok hrk) B.notSynchronized h hd hS hP hSS)))) ?_ s.heap [] ls [] ⟨hl.1, hl.2.1, fun j b hb => by
    have := hl.2.2 _ (fw_en_ok (ad := ad) (wr := wr) (cr := cr) as mr.2.2.1 0 j b hb)
    rw [Nat.zero_add] at this
    exact this⟩ rfl hP va_S.rf
  intro pc hpc L σ' hEσ H locs ls st hL hS hP hSS
  obtain ⟨is, tx, k, htx, d0, d3, d4⟩ := hXS pc hpc
  have hst : st = [] := hS
  subst hst
  have hx : ∀ t : State, s.vm.Alike t.vm → H.size ≤ t.heap.size → (∀ q : Nat, q < H.size → t.heap[q]? = H[q]?) → fx_XC cy ad wr D E (ab_A ad nn_sh.length s.heap.size) nx_N s t := by
    intro t _ hz hq
    refine ⟨rfl, ⟨σ', hEσ, hP.kept (fun k q hk => hq _ (vx_lt hP hk))⟩, Nat.le_trans hSS.1 hz, fun q g1 g2 => ?_⟩
    rw [hq q (Nat.lt_of_lt_of_le g1 hSS.1)]
    exact hSS.2.1 q g1 g2
  have hsize : ls.size = c.maxLocals := hL.1.trans hml.symm
  have hwk : ∀ w ∈ (nx_atoms "NameNotes" 215).filter vx_no, w.before (as.map (ab_V ad wr cr fw_z)).toArray s = true := fun w hw => hww w (List.mem_cons_of_mem _ (List.mem_cons_of_mem _ hw))
  have hstr : vk_R "NameNotes" is tx (cr k) s := hCB.1.2.2.2.2 _ htx
  have f1 : 5 < (headSpec (Jvm.Cond.code mr.1 mr.2.1 mr.2.2.1 mr.2.2.2.1 :: nn_TT) (nx_room lev)).room.frames := by show 5 < lev + 10; omega
  have f2 : 82 ≤ (headSpec (Jvm.Cond.code mr.1 mr.2.1 mr.2.2.1 mr.2.2.2.1 :: nn_TT) (nx_room lev)).room.locals := by show 82 ≤ 40 * lev + 200; omega
  rcases d4 with ⟨d4, d6, d9⟩ | ⟨d4, d6, d9⟩
  · exact nx_throw B.exec B.bytes htr hown2 (hww _ List.mem_cons_self) (hww _ (List.mem_cons_of_mem _ List.mem_cons_self)) hstr hwk nx_wds_good hZ.1 hZ.2.1 hSS hsize d0 d3 d4 d6 d9 (fun x hx9 => absurd (hex x hx9) id) f1 f2 (Nat.le_refl _) (Nat.le_refl _) B.notSynchronized hx hSS.2.2 (Nat.le_refl _) (Nat.le_refl _)
  · exact nx_throwW B.exec B.bytes htr hown2 (hww _ List.mem_cons_self) (hww _ (List.mem_cons_of_mem _ List.mem_cons_self)) hstr hwk nx_wds_good hZ.1 hZ.2.1 hSS hsize d0 d3 d4 d6 d9 (fun x hx9 => absurd (hex x hx9) id) f1 f2 (Nat.le_refl _) (Nat.le_refl _) B.notSynchronized hx hSS.2.2 (Nat.le_refl _) (Nat.le_refl _)
end
section
/-! odds as a ratio, or a refusal -/
theorem v_part_b {x y : Nat} {w : Int} (hx : x ≤ 976299632280) (hy : y ≤ 976299632280) : 0 ≤ v_part x y w ∧ v_part x y w ≤ 976299632280 := by
  unfold v_part
  split
  · have h := Nat.div_le_self x (Nat.gcd x y)
    generalize x / Nat.gcd x y = z at h ⊢
    omega
  · have h := Nat.div_le_self y (Nat.gcd x y)
    generalize y / Nat.gcd x y = z at h ⊢
    omega
def sp_m_refuse : fw_SP := fun as σ K => as = [(2, 93, 0)] ∧ K (some (1, 0, 0)) (ab_ups σ 93 0 1)
def v_odds (A : ab_SG) (p n c w : Int) : Option Int := if (0 ≤ p ∧ p < A 49 13) ∧ (1 ≤ n ∧ n ≤ 9) ∧ (0 ≤ c ∧ c < A 49 12) ∧ (w = 0 ∨ w = 1) then some (v_part (oz_odds A p.toNat n (v_set A c)).toNat 976299632280 w) else none
/-- what is owed where it returns, and where it throws -/
def th_K (M : ab_ML) (σ : ab_SG) (K : fw_KR) (E : fx_KE) (v : Option Int) : Prop := (∀ x : Int, v = some x → (0 ≤ x ∧ x ≤ 976299632280) → ∀ σ' : ab_SG, ab_okM M σ σ' → K (some (1, 0, x)) σ') ∧ (v = none → ∀ σ' : ab_SG, ab_okM M σ σ' → E σ')
/-- the reference's answer, and whether it threw -/
def tm_K (M : ab_ML) (σ : ab_SG) (K : fw_KR) (v : Option Int) : Prop := ∀ σ' : ab_SG, ab_okM M σ σ' → (∀ x : Int, v = some x → σ' 93 0 = 0 → K (some (1, 0, x)) σ') ∧ (v = none → σ' 93 0 = 1 → K (some (1, 0, 0)) σ')
theorem th_none {M : ab_ML} {σ : ab_SG} {K : fw_KR} {E : fx_KE} {v : Option Int} (h : th_K M σ K E v) (e : v = none) : E σ := h.2 e σ (fw_okM_refl _ _)
theorem th_up {σ τ : ab_SG} (h : ab_okM od_N σ τ) (x : Int) : ab_okM od_N σ (ab_ups τ 93 0 x) := on_trans h (fun a b q => ab_ups_ne (fun z => q (93, 0) (by decide) ⟨z.1.symm, Or.inl z.2.symm⟩))
theorem th_in1 {w : Int} (h : fw_c w = w) : fw_bo (fw_c 0 ≤ fw_c w ∧ fw_c w ≤ fw_c 1) = fw_bo (w = 0 ∨ w = 1) := by
  rw [h, fw_c0, fw_c1]
  by_cases q : w = 0 ∨ w = 1
  · rw [fw_bo_t q, fw_bo_t (by omega)]
  · rw [fw_bo_f q, fw_bo_f (by omega)]
abbrev fk_m_refuse : List fw_CR := []
abbrev st_m_refuse : fw_K → fw_KR → fw_K := fw_st vwCl nn_sh nn_kd fw_kv fw_wc (nn_KI20.map (fun x => x.1)) (nn_KJ20.map (fun x => x.1)) (nn_PF20.map (fun x => x.1)) (nn_PS20.map (fun x => x.1)) fk_m_refuse 0 nn_dt277 1 2
theorem fs_m_refuse_0 {G : fw_K} {R : fw_KR} (hG : fw_cls st_m_refuse R G) {σ : ab_SG} (h : R (some (1, 0, ((0 : Nat) : Int))) (ab_ups σ 93 0 (fw_c 1))) : G 0 [some (2, 93, 0)] [] σ := fw_on hG [] 200 h
section
variable {l : Launch} {cy : Nat → ClassId} {ad wr cr : Nat → Nat} {D : va_G}
theorem fm_m_refuse (hinj : nn_inj ad) : fw_H l cy ad wr cr D 277 0 sp_m_refuse := fw_mk hinj (⟨"NameNotesModel", "refuse", "()J"⟩, prog_14_method_3_code, 1, (Option.some Jvm.ClassFile.FieldType.long), 0, true, 2) rfl rfl nn_KI20_ok nn_KJ20_ok nn_PF20_ok nn_PS20_ok (by decide +kernel) rfl rfl (fun _ h => absurd h List.not_mem_nil) (fun as σ K h => by
  obtain ⟨rfl, h⟩ := h
  refine ⟨rfl, fun G hG => fs_m_refuse_0 hG ?_⟩
  rw [fw_c1]
  exact h)
end
end
