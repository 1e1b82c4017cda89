section
/-! LIKE (how 0) is one and the same for all of a group -/
theorem sn_sym {A : ab_SG} {x y i : Int} (h : pr_sn A x y i 0) : pr_sn A y x i 0 := by
  unfold pr_sn at h ⊢
  by_cases a : x < A 49 11 ∧ i < A 52 x.toNat
  · by_cases b : y < A 49 11 ∧ i < A 52 y.toNat
    · rw [if_pos ⟨a, b⟩, if_neg (by decide)] at h
      rw [if_pos ⟨b, a⟩, if_neg (by decide)]
      exact ⟨h.1.imp id Eq.symm, h.2.imp id Eq.symm⟩
    · rw [if_neg (fun z => b z.2)] at h
      exact absurd (h.mp a) b
  · by_cases b : y < A 49 11 ∧ i < A 52 y.toNat
    · rw [if_neg (fun z => a z.1)] at h
      exact absurd (h.mpr b) a
    · rw [if_neg (fun z => a z.2)]
      exact ⟨fun z => absurd z b, fun z => absurd z a⟩
theorem sn_tr {A : ab_SG} {x y z i : Int} (h : pr_sn A x y i 0) (k : pr_sn A y z i 0) : pr_sn A x z i 0 := by
  unfold pr_sn at h k ⊢
  by_cases b : y < A 49 11 ∧ i < A 52 y.toNat
  · by_cases a : x < A 49 11 ∧ i < A 52 x.toNat
    · by_cases c : z < A 49 11 ∧ i < A 52 z.toNat
      · rw [if_pos ⟨a, b⟩, if_neg (by decide)] at h
        rw [if_pos ⟨b, c⟩, if_neg (by decide)] at k
        rw [if_pos ⟨a, c⟩, if_neg (by decide)]
        refine ⟨Or.inr ?_, Or.inr ?_⟩
        · exact (h.1.resolve_left (by decide)).trans (k.1.resolve_left (by decide))
        · exact (h.2.resolve_left (by decide)).trans (k.2.resolve_left (by decide))
      · rw [if_neg (fun q => c q.2)] at k
        exact absurd (k.mp b) c
    · rw [if_neg (fun q => a q.1)] at h
      exact absurd (h.mpr b) a
  · rw [if_neg (fun q => b q.2)] at h
    rw [if_neg (fun q => b q.1)] at k
    have a : ¬ (x < A 49 11 ∧ i < A 52 x.toNat) := fun q => b (h.mp q)
    have c : ¬ (z < A 49 11 ∧ i < A 52 z.toNat) := fun q => b (k.mpr q)
    rw [if_neg (fun q => a q.1)]
    exact ⟨fun q => absurd q a, fun q => absurd q c⟩
theorem cs_ge {A : ab_SG} {x y w n : Int} : ∀ f i : Nat, n ≤ (i : Int) + f → (n ≤ pr_cs A x y w f i ↔ ∀ j : Nat, i ≤ j → (j : Int) < n → pr_sn A x y (j : Int) w)
  | 0, i, h => ⟨fun _ j h1 h2 => absurd h2 (by omega), fun _ => by show n ≤ (i : Int); omega⟩
  | f + 1, i, h => by
    rw [pr_cs_s]
    by_cases q : pr_sn A x y (i : Int) w
    · rw [if_pos q, cs_ge f (i + 1) (by omega)]
      constructor
      · intro g j h1 h2
        by_cases c : j = i
        · rw [c]; exact q
        · exact g j (by omega) h2
      · intro g j h1 h2
        exact g j (by omega) h2
    · rw [if_neg q]
      constructor
      · intro g j h1 h2
        exact absurd h2 (by omega)
      · intro g
        by_cases c : n ≤ (i : Int)
        · exact c
        · exact absurd (g i (Nat.le_refl i) (by omega)) q
def oz_E (A : ab_SG) (n : Int) (x y : Nat) : Prop := n ≤ pr_cs A (x : Int) (y : Int) 0 9 0
theorem oz_E_sym {A : ab_SG} {n : Int} (hn : n ≤ 9) {x y : Nat} (h : oz_E A n x y) : oz_E A n y x :=
  (cs_ge 9 0 (by omega)).mpr (fun j h1 h2 => sn_sym ((cs_ge 9 0 (by omega)).mp h j h1 h2))
theorem oz_E_tr {A : ab_SG} {n : Int} (hn : n ≤ 9) {x y z : Nat} (h : oz_E A n x y) (k : oz_E A n y z) : oz_E A n x z :=
  (cs_ge 9 0 (by omega)).mpr (fun j h1 h2 => sn_tr ((cs_ge 9 0 (by omega)).mp h j h1 h2) ((cs_ge 9 0 (by omega)).mp k j h1 h2))
theorem oz_E_refl (A : ab_SG) {n : Int} (hn : n ≤ 9) (x : Nat) : oz_E A n x x := by
  unfold oz_E
  rw [cs_refl]
  omega
/-- bits of a set tell its least one -/
theorem lst_tb0 : ∀ s : Nat, s < 256 → ∀ x : Nat, x < 9 → pr_hs (s : Int) (x : Int) = true → (oz_lst (s : Int) x = true ↔ s % 2 ^ x = 0) := by decide +kernel
theorem lst_tb1 : ∀ s : Nat, s < 256 → ∀ x : Nat, x < 9 → pr_hs ((s + 256 : Nat) : Int) (x : Int) = true → (oz_lst ((s + 256 : Nat) : Int) x = true ↔ (s + 256) % 2 ^ x = 0) := by decide +kernel
theorem lst_tb {g : Int} (h0 : 0 ≤ g) (h5 : g < 512) {x : Nat} (hx : x < 9) (hp : pr_hs g (x : Int) = true) : oz_lst g x = true ↔ ∀ z : Nat, z < x → oz_P g z = false := by
  obtain ⟨s, rfl⟩ := Int.eq_ofNat_of_zero_le h0
  have e : oz_lst (s : Int) x = true ↔ s % 2 ^ x = 0 := by
    by_cases c : s < 256
    · exact lst_tb0 s c x hx hp
    · have := lst_tb1 (s - 256) (by omega) x hx
      rw [show s - 256 + 256 = s by omega] at this
      exact this hp
  rw [e]
  have tb : ∀ z : Nat, z < x → oz_P (s : Int) z = Nat.testBit s z := fun z hz => hs_tb (by omega) (by omega)
  constructor
  · intro q z hz
    rw [tb z hz]
    have k := Nat.testBit_mod_two_pow s x z
    rw [q, Nat.zero_testBit, decide_eq_true hz, Bool.true_and] at k
    exact k.symm
  · intro q
    refine Nat.eq_of_testBit_eq (fun z => ?_)
    rw [Nat.testBit_mod_two_pow, Nat.zero_testBit]
    by_cases c : z < x
    · rw [← tb z c, q z c, Bool.and_false]
    · rw [decide_eq_false c, Bool.false_and]
/-- a sum, each put to the one that stands for it -/
theorem oz_pick {Q : Nat → Bool} {a : Nat} {v : Int} : ∀ {n : Nat}, a < n → Q a = true → (∀ b, b < n → Q b = true → b = a) → oz_sum (fun r => cond (Q r) v 0) n = v := by
  intro n
  induction n with
  | zero => intro h; exact absurd h (Nat.not_lt_zero a)
  | succ n ih =>
    intro h1 h2 h3
    show oz_sum (fun r => cond (Q r) v 0) n + cond (Q n) v 0 = v
    by_cases c : a = n
    · subst c
      rw [h2]
      have z : oz_sum (fun r => cond (Q r) v 0) a = 0 := by
        rw [oz_sum_congr (g := fun _ => 0) (fun i hi => ?_), oz_sum_zero]
        cases q : Q i with
        | false => rfl
        | true => exact absurd (h3 i (by omega) q) (by omega)
      rw [z]
      show 0 + v = v
      omega
    · have q : Q n = false := by
        rw [← Bool.not_eq_true]
        exact fun q => c (h3 n (Nat.lt_succ_self n) q).symm
      rw [q, ih (by omega) h2 (fun b hb => h3 b (by omega))]
      show v + 0 = v
      omega
/-- the least number below n with Q -/
theorem oz_least {Q : Nat → Bool} : ∀ n : Nat, (∃ a, a < n ∧ Q a = true) → ∃ r, r < n ∧ Q r = true ∧ ∀ z, z < r → Q z = false := by
  intro n
  induction n with
  | zero => rintro ⟨a, h, _⟩; exact absurd h (Nat.not_lt_zero a)
  | succ n ih =>
    rintro ⟨a, h, q⟩
    by_cases c : ∃ a, a < n ∧ Q a = true
    · obtain ⟨r, h1, h2, h3⟩ := ih c
      exact ⟨r, by omega, h2, h3⟩
    · have : a = n := by
        by_cases d : a = n
        · exact d
        · exact absurd ⟨a, by omega, q⟩ c
      subst this
      refine ⟨a, h, q, fun z hz => ?_⟩
      rw [← Bool.not_eq_true]
      exact fun w => c ⟨z, hz, w⟩
/-- all odds of a set, group by group: S the set, P x the group of x -/
theorem oz_groups {S : Nat → Bool} {P : Nat → Nat → Bool} {f : Nat → Int} (hsub : ∀ x z, x < 9 → z < 9 → P x z = true → S z = true) (hself : ∀ x, x < 9 → S x = true → P x x = true) (heq : ∀ x z, x < 9 → z < 9 → S x = true → P x z = true → ∀ y, y < 9 → P z y = P x y) :
    oz_sum (fun x => cond (S x) (f x) 0) 9 = oz_sum (fun r => cond (S r && decide (∀ z : Nat, z < r → P r z = false)) (oz_sum (fun x => cond (P r x) (f x) 0) 9) 0) 9 := by
  have e1 : oz_sum (fun x => cond (S x) (f x) 0) 9 = oz_sum (fun x => oz_sum (fun r => cond ((S r && decide (∀ z : Nat, z < r → P r z = false)) && P r x) (f x) 0) 9) 9 := by
    refine oz_sum_congr (fun x hx => ?_)
    cases hS : S x with
    | false =>
      show (0 : Int) = _
      rw [oz_sum_congr (g := fun _ => 0) (fun r hr => ?_), oz_sum_zero]
      cases hP : P r x with
      | false => rw [Bool.and_false]; rfl
      | true => rw [hsub r x hr hx hP] at hS; cases hS
    | true =>
      obtain ⟨r, r1, r2, r3⟩ := oz_least (Q := P x) 9 ⟨x, hx, hself x hx hS⟩
      have g := heq x r hx r1 hS r2
      symm
      refine oz_pick r1 ?_ ?_
      · rw [hsub x r hx r1 r2, g x hx, hself x hx hS, decide_eq_true (fun z hz => by rw [g z (by omega)]; exact r3 z hz)]
        rfl
      · intro b hb q
        rw [Bool.and_eq_true, Bool.and_eq_true, decide_eq_true_eq] at q
        obtain ⟨⟨q1, q2⟩, q3⟩ := q
        have gb := heq b x hb hx q1 q3
        have pb : P x b = true := by rw [gb b hb]; exact hself b hb q1
        rcases Nat.lt_trichotomy b r with c | c | c
        · rw [r3 b c] at pb; cases pb
        · exact c
        · have := q2 r c
          rw [← gb r r1, r2] at this
          cases this
  rw [e1, oz_sum_swap]
  refine oz_sum_congr (fun r hr => ?_)
  cases (S r && decide (∀ z : Nat, z < r → P r z = false)) with
  | false =>
    show oz_sum (fun x => cond (false && P r x) (f x) 0) 9 = 0
    exact (oz_sum_congr (f := fun x => cond (false && P r x) (f x) 0) (g := fun _ => 0) (fun x _ => rfl)).trans (oz_sum_zero 9)
  | true => exact oz_sum_congr (fun x _ => rfl)
def oz_ro (κ : Nat → Int) (A : ab_SG) (n s : Int) : Int := oz_sum (fun x => cond (oz_P s x) (oz_nb κ (v_lk A (x : Int) n 0 s (A 49 11).toNat) x) 0) 9 * ((2520 / oz_cnt (oz_P s) 9 : Nat) : Int)
theorem oz_sm_sum (κ γ : Nat → Int) (s : Int) : ∀ X : Nat, oz_sm κ γ s X = oz_sum (fun x => cond (oz_P s x && oz_lst (γ x) x) (oz_any κ (γ x)) 0) X := by
  intro X
  induction X with
  | zero => rfl
  | succ X ih =>
    show cond (oz_P s X && oz_lst (γ X) X) (oz_sm κ γ s X + oz_any κ (γ X)) (oz_sm κ γ s X) = oz_sum _ X + cond (oz_P s X && oz_lst (γ X) X) (oz_any κ (γ X)) 0
    rw [← ih]
    cases (oz_P s X && oz_lst (γ X) X) with
    | false => show oz_sm κ γ s X = oz_sm κ γ s X + 0; omega
    | true => rfl
theorem oz_cnt_congr {P Q : Nat → Bool} : ∀ {Y : Nat}, (∀ y, y < Y → P y = Q y) → oz_cnt P Y = oz_cnt Q Y := by
  intro Y
  induction Y with
  | zero => intro _; rfl
  | succ Y ih =>
    intro h
    show cond (P Y) (oz_cnt P Y + 1) (oz_cnt P Y) = cond (Q Y) (oz_cnt Q Y + 1) (oz_cnt Q Y)
    rw [ih (fun y hy => h y (Nat.lt_succ_of_lt hy)), h Y (Nat.lt_succ_self Y)]
theorem oz_cnt_in {P : Nat → Bool} {x : Nat} (hp : P x = true) : ∀ {Y : Nat}, x < Y → oz_cnt P Y = oz_cnt (oz_but P x) Y + 1 := by
  intro Y
  induction Y with
  | zero => intro h; exact absurd h (Nat.not_lt_zero x)
  | succ Y ih =>
    intro h
    show cond (P Y) (oz_cnt P Y + 1) (oz_cnt P Y) = cond (oz_but P x Y) (oz_cnt (oz_but P x) Y + 1) (oz_cnt (oz_but P x) Y) + 1
    by_cases c : x = Y
    · subst c
      rw [hp, oz_but_self]
      have e : oz_cnt (oz_but P x) x = oz_cnt P x := oz_cnt_congr (fun y hy => oz_but_ne (Nat.ne_of_lt hy))
      show oz_cnt P x + 1 = oz_cnt (oz_but P x) x + 1
      rw [e]
    · rw [oz_but_ne (fun z => c z.symm), ih (by omega)]
      cases P Y with
      | false => rfl
      | true => rfl
theorem oz_nb_congr {κ : Nat → Int} {g g' : Int} {x : Nat} (h : ∀ y, y < 9 → oz_P g y = oz_P g' y) : oz_nb κ g x = oz_nb κ g' x := by
  have hb : ∀ y, y < 9 → oz_but (oz_P g) x y = oz_but (oz_P g') x y := fun y hy => by unfold oz_but; rw [h y hy]
  unfold oz_nb
  rw [oz_cnt_congr hb, oz_w_congr hb]
/-- the reference's odds are the class's, over 2520 times as much -/
theorem oz_same {A : ab_SG} (hi : RI A) (κ : Nat → Int) {n s : Int} (hn : 1 ≤ n ∧ n ≤ 9) (hs : 1 ≤ s ∧ s < 512) (ht : ∀ z : Nat, z < 9 → pr_hs s (z : Int) = true → (z : Int) < A 49 11) : oz_ro κ A n s = 2520 * oz_ch κ (oz_grp A n s) s := by
  have nT := (N_n hi).1
  have cp := oz_cnt_pos hs.1 hs.2
  have lh : ∀ x z : Nat, z < 9 → (pr_hs (v_lk A (x : Int) n 0 s (A 49 11).toNat) (z : Int) = true ↔ z < (A 49 11).toNat ∧ pr_hs s (z : Int) = true ∧ n ≤ pr_cs A (x : Int) (z : Int) 0 9 0) := fun x z hz => v_lk_h A (x : Int) n 0 s hz (A 49 11).toNat (by omega)
  have lb : ∀ x : Nat, 0 ≤ v_lk A (x : Int) n 0 s (A 49 11).toNat ∧ v_lk A (x : Int) n 0 s (A 49 11).toNat < 512 := fun x => v_lk_b A (x : Int) n 0 s (A 49 11).toNat (by omega)
  have pin : ∀ x z : Nat, z < 9 → (oz_P (v_lk A (x : Int) n 0 s (A 49 11).toNat) z = true ↔ oz_P s z = true ∧ oz_E A n x z) := by
    intro x z hz
    constructor
    · intro q
      have := (lh x z hz).mp q
      exact ⟨this.2.1, this.2.2⟩
    · intro q
      exact (lh x z hz).mpr ⟨by have := ht z hz q.1; omega, q.1, q.2⟩
  have self : ∀ x : Nat, x < 9 → oz_P s x = true → oz_P (v_lk A (x : Int) n 0 s (A 49 11).toNat) x = true := fun x hx q => (pin x x hx).mpr ⟨q, oz_E_refl A hn.2 x⟩
  have same : ∀ x z : Nat, x < 9 → z < 9 → oz_P s x = true → oz_P (v_lk A (x : Int) n 0 s (A 49 11).toNat) z = true → ∀ y : Nat, y < 9 → oz_P (v_lk A (z : Int) n 0 s (A 49 11).toNat) y = oz_P (v_lk A (x : Int) n 0 s (A 49 11).toNat) y := by
    intro x z hx hz _ q y hy
    have e := ((pin x z hz).mp q).2
    rw [Bool.eq_iff_iff, pin z y hy, pin x y hy]
    exact ⟨fun w => ⟨w.1, oz_E_tr hn.2 e w.2⟩, fun w => ⟨w.1, oz_E_tr hn.2 (oz_E_sym hn.2 e) w.2⟩⟩
  have key : oz_sum (fun x => cond (oz_P s x) (oz_nb κ (v_lk A (x : Int) n 0 s (A 49 11).toNat) x) 0) 9 = 2520 * oz_sm κ (oz_grp A n s) s 9 := by
    rw [oz_groups (P := fun x => oz_P (v_lk A (x : Int) n 0 s (A 49 11).toNat)) (fun x z _ hz q => ((pin x z hz).mp q).1) self same, oz_sm_sum, ← oz_sum_mul]
    refine oz_sum_congr (fun r hr => ?_)
    cases hS : oz_P s r with
    | false => exact (Int.mul_zero _).symm
    | true =>
      have eg : oz_grp A n s r = v_lk A (r : Int) n 0 s (A 49 11).toNat := if_pos hS
      rw [eg]
      have el : oz_lst (v_lk A (r : Int) n 0 s (A 49 11).toNat) r = decide (∀ z : Nat, z < r → oz_P (v_lk A (r : Int) n 0 s (A 49 11).toNat) z = false) := by
        rw [Bool.eq_iff_iff, decide_eq_true_eq]
        exact lst_tb (lb r).1 (lb r).2 hr (self r hr hS)
      rw [el]
      cases decide (∀ z : Nat, z < r → oz_P (v_lk A (r : Int) n 0 s (A 49 11).toNat) z = false) with
      | false => exact (Int.mul_zero _).symm
      | true =>
        show oz_sum (fun x => cond (oz_P (v_lk A (r : Int) n 0 s (A 49 11).toNat) x) (oz_nb κ (v_lk A (x : Int) n 0 s (A 49 11).toNat) x) 0) 9 = 2520 * oz_any κ (v_lk A (r : Int) n 0 s (A 49 11).toNat)
        have e1 : oz_sum (fun x => cond (oz_P (v_lk A (r : Int) n 0 s (A 49 11).toNat) x) (oz_nb κ (v_lk A (x : Int) n 0 s (A 49 11).toNat) x) 0) 9 = oz_sum (fun x => 9 ^ (9 - oz_cnt (oz_P (v_lk A (r : Int) n 0 s (A 49 11).toNat)) 9) * cond (oz_P (v_lk A (r : Int) n 0 s (A 49 11).toNat) x) (κ x * oz_sum (fun j => oz_w κ (oz_but (oz_P (v_lk A (r : Int) n 0 s (A 49 11).toNat)) x) 9 j * (((2520 / (j + 1) : Nat)) : Int)) 9) 0) 9 := by
          refine oz_sum_congr (fun x hx => ?_)
          cases hP : oz_P (v_lk A (r : Int) n 0 s (A 49 11).toNat) x with
          | false => exact (Int.mul_zero _).symm
          | true =>
            show oz_nb κ (v_lk A (x : Int) n 0 s (A 49 11).toNat) x = 9 ^ (9 - oz_cnt (oz_P (v_lk A (r : Int) n 0 s (A 49 11).toNat)) 9) * (κ x * oz_sum (fun j => oz_w κ (oz_but (oz_P (v_lk A (r : Int) n 0 s (A 49 11).toNat)) x) 9 j * (((2520 / (j + 1) : Nat)) : Int)) 9)
            rw [oz_nb_congr (same r x hr hx hS hP)]
            unfold oz_nb
            rw [oz_cnt_in hP hx, show 9 - (oz_cnt (oz_but (oz_P (v_lk A (r : Int) n 0 s (A 49 11).toNat)) x) 9 + 1) = 8 - oz_cnt (oz_but (oz_P (v_lk A (r : Int) n 0 s (A 49 11).toNat)) x) 9 by omega, Int.mul_left_comm]
        rw [e1, oz_sum_mul, oz_group]
        unfold oz_any
        rw [Int.mul_left_comm, Int.mul_comm (9 ^ (9 - _))]
  unfold oz_ro oz_ch oz_sh
  rw [key, show oz_cnt (oz_P s) 9 - 1 + 1 = oz_cnt (oz_P s) 9 by omega, Int.mul_assoc]
/-- between nought and all -/
theorem oz_non_b {κ : Nat → Int} {P : Nat → Bool} : ∀ {Y : Nat}, (∀ y, y < Y → 0 ≤ κ y ∧ κ y ≤ 9) → 0 ≤ oz_non κ P Y ∧ oz_non κ P Y ≤ 9 ^ oz_cnt P Y := by
  intro Y
  induction Y with
  | zero =>
    intro _
    show (0 : Int) ≤ 1 ∧ (1 : Int) ≤ 9 ^ 0
    decide
  | succ Y ih =>
    intro h
    have ih := ih (fun y hy => h y (Nat.lt_succ_of_lt hy))
    have b := h Y (Nat.lt_succ_self Y)
    show 0 ≤ cond (P Y) (oz_non κ P Y * (9 - κ Y)) (oz_non κ P Y) ∧ cond (P Y) (oz_non κ P Y * (9 - κ Y)) (oz_non κ P Y) ≤ 9 ^ cond (P Y) (oz_cnt P Y + 1) (oz_cnt P Y)
    cases P Y with
    | false => exact ih
    | true =>
      show 0 ≤ oz_non κ P Y * (9 - κ Y) ∧ oz_non κ P Y * (9 - κ Y) ≤ 9 ^ (oz_cnt P Y + 1)
      refine ⟨Int.mul_nonneg ih.1 (by omega), ?_⟩
      rw [Int.pow_succ]
      have a := Int.mul_le_mul_of_nonneg_left (show 9 - κ Y ≤ 9 by omega) ih.1
      have c := Int.mul_le_mul_of_nonneg_right ih.2 (show (0 : Int) ≤ 9 by decide)
      omega
theorem oz_any_b {κ : Nat → Int} (hk : ∀ y, y < 9 → 0 ≤ κ y ∧ κ y ≤ 9) (g : Int) : 0 ≤ oz_any κ g ∧ oz_any κ g ≤ 387420489 := by
  have b := oz_non_b (P := oz_P g) hk
  have c := oz_cnt_le (oz_P g) 9
  have p : ∀ m : Nat, m ≤ 9 → (9 : Int) ^ m * 9 ^ (9 - m) = 387420489 ∧ 0 ≤ (9 : Int) ^ (9 - m) := by decide
  have q := p _ c
  unfold oz_any
  refine ⟨Int.mul_nonneg (by omega) q.2, ?_⟩
  rw [← q.1]
  exact Int.mul_le_mul_of_nonneg_right (by omega) q.2
theorem oz_sm_b {κ γ : Nat → Int} (hk : ∀ y, y < 9 → 0 ≤ κ y ∧ κ y ≤ 9) (s : Int) : ∀ X : Nat, 0 ≤ oz_sm κ γ s X ∧ oz_sm κ γ s X ≤ ((oz_cnt (oz_P s) X : Nat) : Int) * 387420489 := by
  intro X
  induction X with
  | zero =>
    show (0 : Int) ≤ 0 ∧ (0 : Int) ≤ ((0 : Nat) : Int) * 387420489
    decide
  | succ X ih =>
    have b := oz_any_b hk (γ X)
    show 0 ≤ cond (oz_P s X && oz_lst (γ X) X) (oz_sm κ γ s X + oz_any κ (γ X)) (oz_sm κ γ s X) ∧ cond (oz_P s X && oz_lst (γ X) X) (oz_sm κ γ s X + oz_any κ (γ X)) (oz_sm κ γ s X) ≤ ((cond (oz_P s X) (oz_cnt (oz_P s) X + 1) (oz_cnt (oz_P s) X) : Nat) : Int) * 387420489
    cases oz_P s X with
    | false => exact ih
    | true =>
      cases oz_lst (γ X) X with
      | false =>
        show 0 ≤ oz_sm κ γ s X ∧ oz_sm κ γ s X ≤ ((oz_cnt (oz_P s) X + 1 : Nat) : Int) * 387420489
        omega
      | true =>
        show 0 ≤ oz_sm κ γ s X + oz_any κ (γ X) ∧ oz_sm κ γ s X + oz_any κ (γ X) ≤ ((oz_cnt (oz_P s) X + 1 : Nat) : Int) * 387420489
        omega
theorem oz_odds_bk {A : ab_SG} {p : Nat} (hk : ∀ y : Nat, y < 9 → 0 ≤ A 55 (9 * p + y) ∧ A 55 (9 * p + y) ≤ 9) {n s : Int} (hs : 1 ≤ s ∧ s < 512) : 0 ≤ oz_odds A p n s ∧ oz_odds A p n s ≤ 976299632280 := by
  have cp := oz_cnt_pos hs.1 hs.2
  have cl := oz_cnt_le (oz_P s) 9
  have b := oz_sm_b (κ := oz_kp A p) (γ := oz_grp A n s) hk s 9
  unfold oz_odds oz_ch oz_sh
  rw [show oz_cnt (oz_P s) 9 - 1 + 1 = oz_cnt (oz_P s) 9 by omega]
  have sh : ∀ m : Nat, m ≤ 9 → 1 ≤ m → ((m : Nat) : Int) * 387420489 * ((2520 / m : Nat) : Int) = 976299632280 ∧ 0 ≤ ((2520 / m : Nat) : Int) := by decide +kernel
  have q := sh _ cl cp
  refine ⟨Int.mul_nonneg b.1 q.2, ?_⟩
  rw [← q.1]
  exact Int.mul_le_mul_of_nonneg_right b.2 q.2
theorem oz_odds_b {A : ab_SG} {σ : ab_SG} (hN : NC σ A) {p : Nat} (hp : p < 5) {n s : Int} (hs : 1 ≤ s ∧ s < 512) : 0 ≤ oz_odds A p n s ∧ oz_odds A p n s ≤ 976299632280 := oz_odds_bk (fun y hy => oz_kn_b hN (by omega)) hs
theorem oz_odds_bm {A : ab_SG} {σ : ab_SG} (hN : NM σ A) {p : Nat} (hp : p < 5) {n s : Int} (hs : 1 ≤ s ∧ s < 512) : 0 ≤ oz_odds A p n s ∧ oz_odds A p n s ≤ 976299632280 := oz_odds_bk (fun y hy => on_kn_b hN (by omega)) hs
end
section
/-! questions that ask for odds -/
theorem oz_c_pe {σ A : ab_SG} (h : NC σ A) {x : Int} (hx : fw_c x = x) : m_b (c_pe σ x) = fw_bo (0 ≤ x ∧ x < A 49 13) := by
  have n := N_n h.1
  unfold c_pe
  rw [hx, (NC_n h).2.2, fw_s (x := A 49 13) (by omega) (by omega)]
  by_cases q : 0 ≤ x ∧ x < A 49 13
  · rw [fw_bo_t q, m_b1 q.1 q.2]
  · rw [fw_bo_f q, m_b0 q]
theorem oz_m_pe {σ A : ab_SG} (h : NM σ A) {x : Int} (hx : fw_c x = x) : m_b (m_pe σ x) = fw_bo (0 ≤ x ∧ x < A 49 13) := by
  have n := N_n h.1
  unfold m_pe
  rw [hx, (NM_n h).2.2, fw_s (x := A 49 13) (by omega) (by omega)]
  by_cases q : 0 ≤ x ∧ x < A 49 13
  · rw [fw_bo_t q, m_b1 q.1 q.2]
  · rw [fw_bo_f q, m_b0 q]
theorem oz_clue {A : ab_SG} (hi : RI A) (hb : nb_is A) {c : Int} (h1 : 0 ≤ c) (h2 : c < A 49 12) : (1 ≤ v_set A c ∧ v_set A c < 512) ∧ ∀ z : Nat, z < 9 → pr_hs (v_set A c) (z : Int) = true → (z : Int) < A 49 11 := by
  have b := v_set_512 hi hb (c := c) (by omega) h2
  refine ⟨⟨?_, b.2⟩, fun z hz q => v_set_top hi hb (by omega) h2 hz q⟩
  unfold v_set
  rw [if_neg (by omega)]
  have := (hb.2.1 c.toNat (by omega)).1
  exact this
def sp_m_oddsBy : fw_SP := fun as σ K => ∃ (A : ab_SG) (n s : Int), as = [(2, 93, 0), (0, 0, n), (0, 0, s)] ∧ NM σ A ∧ (1 ≤ n ∧ n ≤ 9) ∧ (1 ≤ s ∧ s < 512) ∧ (∀ z : Nat, z < 9 → pr_hs s (z : Int) = true → (z : Int) < A 49 11) ∧ (∀ y : Nat, y < 9 → 0 ≤ σ 106 y ∧ σ 106 y ≤ 9) ∧ ∀ σ' : ab_SG, ab_okM [(107, 1000000)] σ σ' → K (some (1, 0, oz_ro (σ 106) A n s)) σ'
def sp_m_oddsOf : fw_SP := fun as σ K => ∃ (A : ab_SG) (p : Nat) (n s : Int), as = [(2, 93, 0), (0, 0, (p : Int)), (0, 0, n), (0, 0, s)] ∧ NM σ A ∧ p < 5 ∧ (1 ≤ n ∧ n ≤ 9) ∧ (1 ≤ s ∧ s < 512) ∧ (∀ z : Nat, z < 9 → pr_hs s (z : Int) = true → (z : Int) < A 49 11) ∧ ∀ σ' : ab_SG, ab_okM on_M σ σ' → K (some (1, 0, 2520 * oz_odds A p n s)) σ'
theorem od_up {M N : ab_ML} {σ σ' : ab_SG} (h : ab_okM M σ σ') (hm : M.all (fun q => N.any (fun r => r.1.beq q.1 && (r.2.beq q.2 || r.2.beq 1000000))) = true) : ab_okM N σ σ' := by
  intro a b q
  refine h a b (fun r hr w => ?_)
  obtain ⟨t, ht, h2⟩ := List.any_eq_true.mp (List.all_eq_true.mp hm r hr)
  rw [Bool.and_eq_true, Bool.or_eq_true] at h2
  refine q t ht ⟨(Nat.eq_of_beq_eq_true h2.1).trans w.1, ?_⟩
  rcases h2.2 with e | e
  · rw [Nat.eq_of_beq_eq_true e]; exact w.2
  · exact Or.inr (Nat.eq_of_beq_eq_true e)
/-- rows that nothing speaks of -/
def fr_L : List Nat := [1, 2, 3, 18, 33, 85, 93, 94, 95, 97, 102] ++ (sw_T.map (fun q => q.1) ++ sw_L.map (fun q => q.1))
theorem vW_free {M : ab_ML} {σ σ1 σm : ab_SG} (hm : M.all (fun q => fr_L.all (fun k => !(q.1.beq k))) = true) (h1 : ab_okM M σ σ1) (hv : vW σm σ1) : vW σm σ := by
  have e : ∀ k j : Nat, k ∈ fr_L → σ1 k j = σ k j := fun k j hk => h1 k j (fun q hq hh => by
    have g := List.all_eq_true.mp (List.all_eq_true.mp hm q hq) k hk
    rw [hh.1, show k.beq k = true from Nat.beq_refl k] at g
    cases g)
  have hT : ∀ q ∈ sw_T, q.1 ∈ fr_L := fun q hq => List.mem_append_right _ (List.mem_append_left _ (List.mem_map.mpr ⟨q, hq, rfl⟩))
  have hL : ∀ q ∈ sw_L, q.1 ∈ fr_L := fun q hq => List.mem_append_right _ (List.mem_append_right _ (List.mem_map.mpr ⟨q, hq, rfl⟩))
  have c : ∀ k : Nat, k ∈ [1, 2, 3, 18, 33, 85, 93, 94, 95, 97, 102] → k ∈ fr_L := fun k hk => List.mem_append_left _ hk
  have su_in : ∀ k j : Nat, su k j → k ∈ fr_L := by
    intro k j h
    unfold su at h
    rcases h with h | h | h | h | h | h | h | h | h | h <;> (rw [h.1]; exact c _ (by decide))
  have sw_in : ∀ k j : Nat, sw k j → k ∈ fr_L := by
    intro k j h
    rcases h with ⟨q, hq, rfl, -⟩ | ⟨rfl, -⟩ | ⟨rfl, -⟩
    · exact hT q hq
    · exact c _ (by decide)
    · exact c _ (by decide)
  refine ⟨fun k j hs => ?_, fun k j hs => ?_⟩
  · rw [hv.1 k j hs, e k j (hs.elim (su_in k j) (sw_in k j))]
  · obtain ⟨q, hq, rfl, hj⟩ := hs
    rw [hv.2 _ j ⟨q, hq, rfl, hj⟩, e _ j (hL q hq)]
abbrev fk_m_oddsBy : List fw_CR := [(216, 2, false, 0, 0, sp_m_has), (261, 0, true, 11, 0, sp_m_tunes), (322, 1, false, 0, 0, sp_m_bits9), (331, 3, true, 11, 6, sp_m_namedBy)]
abbrev st_m_oddsBy : fw_K → fw_KR → fw_K := fw_st vwCl nn_sh nn_kd fw_kv fw_wc (nn_KI20.map (fun x => x.1)) (nn_KJ20.map (fun x => x.1)) (nn_PF20.map (fun x => x.1)) (nn_PS20.map (fun x => x.1)) fk_m_oddsBy 7 nn_dt284 6 2
theorem fs_m_oddsBy_0 {G : fw_K} {R : fw_KR} (hG : fw_cls st_m_oddsBy R G) {n s : Int} {σ : ab_SG} (h : G 5 [some (2, 93, 0), some (0, 0, n), some (0, 0, s), some (1, 0, ((0 : Nat) : Int)), none, some (0, 0, 0)] [] σ) : G 0 [some (2, 93, 0), some (0, 0, n), some (0, 0, s), none, none, none] [] σ := fw_on hG [5, 11, 20, 32, 34, 48] 200 h
theorem fs_m_oddsBy_5 {G : fw_K} {R : fw_KR} (hG : fw_cls st_m_oddsBy R G) {a1 a2 a3 a5 : Int} {σ : ab_SG} (h : sp_m_tunes [(2, 93, 0)] σ (fun rv σ2 => G 11 [some (2, 93, 0), some (0, 0, a1), some (0, 0, a2), some (1, 0, a3), none, some (0, 0, a5)] (rv.toList ++ [(0, 0, a5)]) σ2)) : G 5 [some (2, 93, 0), some (0, 0, a1), some (0, 0, a2), some (1, 0, a3), none, some (0, 0, a5)] [] σ := fw_on hG [5, 11, 20, 32, 34, 48] 200 h
theorem fs_m_oddsBy_11 {G : fw_K} {R : fw_KR} (hG : fw_cls st_m_oddsBy R G) {a1 a2 a3 a5 b0 b1 : Int} {σ : ab_SG} (h : (fw_c b0 ≤ fw_c b1 → sp_m_bits9 [(0, 0, a2)] σ (fun rv σ2 => G 48 [some (2, 93, 0), some (0, 0, a1), some (0, 0, a2), some (1, 0, a3), none, some (0, 0, a5)] (rv.toList ++ [(1, 0, 2520), (1, 0, a3)]) σ2)) ∧ (fw_c b1 < fw_c b0 → sp_m_has [(0, 0, a2), (0, 0, a5)] σ (fun rv σ2 => G 20 [some (2, 93, 0), some (0, 0, a1), some (0, 0, a2), some (1, 0, a3), none, some (0, 0, a5)] (rv.toList ++ []) σ2))) : G 11 [some (2, 93, 0), some (0, 0, a1), some (0, 0, a2), some (1, 0, a3), none, some (0, 0, a5)] [(0, 0, b0), (0, 0, b1)] σ := fw_on hG [5, 11, 20, 32, 34, 48] 200 h
theorem fs_m_oddsBy_48 {G : fw_K} {R : fw_KR} (hG : fw_cls st_m_oddsBy R G) {b0 b1 b2 : Int} {o1 o2 o3 o5 : Option ab_AV} {σ : ab_SG} (h : fw_d (fw_c b0) ≠ 0 ∧ (R (some (1, 0, b2 * (fw_lop 3 b1 (fw_c b0)))) σ)) : G 48 [some (2, 93, 0), o1, o2, o3, none, o5] [(0, 0, b0), (1, 0, b1), (1, 0, b2)] σ := fw_on hG [5, 11, 20, 32, 34, 48] 200 h
theorem fs_m_oddsBy_20 {G : fw_K} {R : fw_KR} (hG : fw_cls st_m_oddsBy R G) {a1 a2 a3 a5 b0 : Int} {σ : ab_SG} (h : (fw_c b0 = 0 → G 34 [some (2, 93, 0), some (0, 0, a1), some (0, 0, a2), some (1, 0, a3), none, some (0, 0, a5)] [] σ) ∧ (fw_c b0 ≠ 0 → sp_m_namedBy [(2, 93, 0), (0, 0, a5), (0, 0, a1), (0, 0, a2)] σ (fun rv σ2 => G 32 [some (2, 93, 0), some (0, 0, a1), some (0, 0, a2), some (1, 0, a3), none, some (0, 0, a5)] (rv.toList ++ [(1, 0, a3)]) σ2))) : G 20 [some (2, 93, 0), some (0, 0, a1), some (0, 0, a2), some (1, 0, a3), none, some (0, 0, a5)] [(0, 0, b0)] σ := fw_on hG [5, 11, 20, 32, 34, 48] 200 h
theorem fs_m_oddsBy_34 {G : fw_K} {R : fw_KR} (hG : fw_cls st_m_oddsBy R G) {a1 a2 a3 a5 : Int} {σ : ab_SG} (h : G 5 [some (2, 93, 0), some (0, 0, a1), some (0, 0, a2), some (1, 0, a3), none, some (0, 0, a5 + 1)] [] σ) : G 34 [some (2, 93, 0), some (0, 0, a1), some (0, 0, a2), some (1, 0, a3), none, some (0, 0, a5)] [] σ := fw_on hG [5, 11, 20, 32, 34, 48] 200 h
theorem fs_m_oddsBy_32 {G : fw_K} {R : fw_KR} (hG : fw_cls st_m_oddsBy R G) {a1 a2 a5 b0 b1 : Int} {o3 : Option ab_AV} {σ : ab_SG} (h : G 34 [some (2, 93, 0), some (0, 0, a1), some (0, 0, a2), some (1, 0, b1 + b0), none, some (0, 0, a5)] [] σ) : G 32 [some (2, 93, 0), some (0, 0, a1), some (0, 0, a2), o3, none, some (0, 0, a5)] [(1, 0, b0), (1, 0, b1)] σ := fw_on hG [5, 11, 20, 32, 34, 48] 200 h
abbrev fk_m_oddsOf : List fw_CR := [(335, 1, true, 11, 2, sp_m_layMind), (338, 2, true, 11, 7, sp_m_oddsBy)]
abbrev st_m_oddsOf : fw_K → fw_KR → fw_K := fw_st vwCl nn_sh nn_kd fw_kv fw_wc (nn_KI20.map (fun x => x.1)) (nn_KJ20.map (fun x => x.1)) (nn_PF20.map (fun x => x.1)) (nn_PS20.map (fun x => x.1)) fk_m_oddsOf 8 nn_dt283 4 2
theorem fs_m_oddsOf_0 {G : fw_K} {R : fw_KR} (hG : fw_cls st_m_oddsOf R G) {p n s : Int} {σ : ab_SG} (h : sp_m_layMind [(2, 93, 0), (0, 0, p)] σ (fun rv σ2 => G 5 [some (2, 93, 0), some (0, 0, p), some (0, 0, n), some (0, 0, s)] (rv.toList ++ []) σ2)) : G 0 [some (2, 93, 0), some (0, 0, p), some (0, 0, n), some (0, 0, s)] [] σ := fw_on hG [5, 11] 200 h
theorem fs_m_oddsOf_5 {G : fw_K} {R : fw_KR} (hG : fw_cls st_m_oddsOf R G) {a1 a2 a3 : Int} {σ : ab_SG} (h : sp_m_oddsBy [(2, 93, 0), (0, 0, a2), (0, 0, a3)] σ (fun rv σ2 => G 11 [some (2, 93, 0), some (0, 0, a1), some (0, 0, a2), some (0, 0, a3)] (rv.toList ++ []) σ2)) : G 5 [some (2, 93, 0), some (0, 0, a1), some (0, 0, a2), some (0, 0, a3)] [] σ := fw_on hG [5, 11] 200 h
theorem fs_m_oddsOf_11 {G : fw_K} {R : fw_KR} (hG : fw_cls st_m_oddsOf R G) {a1 a2 a3 b0 : Int} {σ : ab_SG} (h : R (some (1, 0, b0)) σ) : G 11 [some (2, 93, 0), some (0, 0, a1), some (0, 0, a2), some (0, 0, a3)] [(1, 0, b0)] σ := fw_on hG [5, 11] 200 h
section
variable {l : Launch} {cy : Nat → ClassId} {ad wr cr : Nat → Nat} {D : va_G}
theorem fm_m_oddsBy (hinj : nn_inj ad) : fw_H l cy ad wr cr D 284 7 sp_m_oddsBy := fw_mk hinj (⟨"NameNotesModel", "oddsBy", "(II)J"⟩, prog_14_method_78_code, 6, (Option.some Jvm.ClassFile.FieldType.long), 2, true, 2) rfl rfl nn_KI20_ok nn_KJ20_ok nn_PF20_ok nn_PS20_ok (by decide +kernel) rfl rfl (List.forall_mem_cons.mpr ⟨fw_row nn_PM20_ok (x := 216) (k := 0) (mn := 230) (np := 2) (ob := false) (ci := 0) (⟨"NameNotesModel", "has", "(II)Z"⟩, prog_14_method_9_code, 2, (Option.some Jvm.ClassFile.FieldType.boolean), 2, false, 1) rfl (by decide +kernel) rfl rfl (by decide) (fun q => by cases q) (fm_m_has hinj), (List.forall_mem_cons.mpr ⟨fw_row nn_PM20_ok (x := 261) (k := 0) (mn := 240) (np := 0) (ob := true) (ci := 11) (⟨"NameNotesModel", "tunes", "()I"⟩, prog_14_method_41_code, 1, (Option.some Jvm.ClassFile.FieldType.int), 0, true, 0) rfl (by decide +kernel) rfl rfl (by decide) (fun _ => ⟨_, _, rfl⟩) (fm_m_tunes hinj), (List.forall_mem_cons.mpr ⟨fw_row nn_PM20_ok (x := 322) (k := 0) (mn := 274) (np := 1) (ob := false) (ci := 0) (⟨"NameNotesModel", "bits", "(I)I"⟩, prog_14_method_10_code, 3, (Option.some Jvm.ClassFile.FieldType.int), 1, false, 0) rfl (by decide +kernel) rfl rfl (by decide) (fun q => by cases q) (fm_m_bits9 hinj), (List.forall_mem_cons.mpr ⟨fw_row nn_PM20_ok (x := 331) (k := 0) (mn := 279) (np := 3) (ob := true) (ci := 11) (⟨"NameNotesModel", "namedBy", "(III)J"⟩, prog_14_method_77_code, 9, (Option.some Jvm.ClassFile.FieldType.long), 3, true, 2) rfl (by decide +kernel) rfl rfl (by decide) (fun _ => ⟨_, _, rfl⟩) (fm_m_namedBy hinj), (fun _ h => absurd h List.not_mem_nil)⟩)⟩)⟩)⟩) (fun as σ K h => by
  obtain ⟨A, n, s, rfl, hN, hn, hs, ht, hk, h⟩ := h
  have nT := (N_n hN.1).1
  obtain ⟨T, eT⟩ := Int.eq_ofNat_of_zero_le nT.1
  have cT : fw_c (T : Int) = (T : Int) := fw_s (by omega) (by omega)
  have cp := oz_cnt_pos hs.1 hs.2
  have cl := oz_cnt_le (oz_P s) 9
  have m106 : ∀ τ : ab_SG, ab_okM [(107, 1000000)] σ τ → τ 106 = σ 106 := fun τ M => funext fun y => M 106 y (fun q hq => by rw [List.mem_singleton] at hq; rw [hq]; exact fun z => absurd z.1 (by decide))
  have m95 : ∀ τ : ab_SG, ab_okM [(107, 1000000)] σ τ → τ 95 0 = (T : Int) := fun τ M => ((M 95 0 (fun q hq => by rw [List.mem_singleton] at hq; rw [hq]; exact fun z => absurd z.1 (by decide))).trans (NM_n hN).1).trans eT
  have fin : oz_sum (fun x => cond (oz_P s x) (oz_nb (σ 106) (v_lk A (x : Int) n 0 s (A 49 11).toNat) x) 0) 9 = oz_sum (fun x => cond (oz_P s x) (oz_nb (σ 106) (v_lk A (x : Int) n 0 s (A 49 11).toNat) x) 0) T := by
    have tail : ∀ d : Nat, T + d ≤ 9 → oz_sum (fun x => cond (oz_P s x) (oz_nb (σ 106) (v_lk A (x : Int) n 0 s (A 49 11).toNat) x) 0) (T + d) = oz_sum (fun x => cond (oz_P s x) (oz_nb (σ 106) (v_lk A (x : Int) n 0 s (A 49 11).toNat) x) 0) T := by
      intro d
      induction d with
      | zero => intro _; rfl
      | succ d ih =>
        intro hd
        have q : oz_P s (T + d) = false := by
          rw [← Bool.not_eq_true]
          intro z
          have := ht (T + d) (by omega) z
          omega
        show oz_sum _ (T + d) + cond (oz_P s (T + d)) _ 0 = _
        rw [q, ih (by omega)]
        exact Int.add_zero _
    have := tail (9 - T) (by omega)
    rw [show T + (9 - T) = 9 by omega] at this
    exact this
  refine ⟨rfl, fun G hG => fs_m_oddsBy_0 hG ?_⟩
  have loop : ∀ (f x : Nat) (τ : ab_SG), x + f = T → ab_okM [(107, 1000000)] σ τ → G 5 [some (2, 93, 0), some (0, 0, n), some (0, 0, s), some (1, 0, oz_sum (fun x => cond (oz_P s x) (oz_nb (σ 106) (v_lk A (x : Int) n 0 s (A 49 11).toNat) x) 0) x), none, some (0, 0, (x : Int))] [] τ := by
    intro f
    induction f with
    | zero =>
      intro x τ hx M
      have e : x = T := by omega
      subst e
      refine fs_m_oddsBy_5 hG ⟨rfl, fs_m_oddsBy_11 hG ?_⟩
      rw [m95 τ M, cT]
      refine ⟨fun _ => ⟨s, rfl, by omega, fs_m_oddsBy_48 hG ?_⟩, fun z => absurd z (by omega)⟩
      have cc : fw_c ((oz_cnt (oz_P s) 9 : Nat) : Int) = ((oz_cnt (oz_P s) 9 : Nat) : Int) := fw_s (by omega) (by omega)
      have ee := oz_each (oz_cnt (oz_P s) 9 - 1) (by omega)
      rw [show ((oz_cnt (oz_P s) 9 - 1 : Nat) : Int) + 1 = ((oz_cnt (oz_P s) 9 : Nat) : Int) by omega, show oz_cnt (oz_P s) 9 - 1 + 1 = oz_cnt (oz_P s) 9 by omega] at ee
      rw [cc, ee, fw_d_id (by omega) (by omega)]
      refine ⟨by omega, ?_⟩
      have hh := h τ M
      unfold oz_ro at hh
      rw [fin] at hh
      exact hh
    | succ f ih =>
      intro x τ hx M
      have cx : fw_c (x : Int) = (x : Int) := fw_s (by omega) (by omega)
      refine fs_m_oddsBy_5 hG ⟨rfl, fs_m_oddsBy_11 hG ?_⟩
      rw [m95 τ M, cT, cx]
      refine ⟨fun z => absurd z (by omega), fun _ => ⟨s, (x : Int), rfl, fs_m_oddsBy_20 hG ⟨fun q => fs_m_oddsBy_34 hG ?_, fun q => ?_⟩⟩⟩
      · have q1 : oz_P s x = false := by
          rw [← Bool.not_eq_true]
          exact fun z => fw_bo_eq q z
        have k := ih (x + 1) τ (by omega) M
        have e : oz_sum (fun x => cond (oz_P s x) (oz_nb (σ 106) (v_lk A (x : Int) n 0 s (A 49 11).toNat) x) 0) (x + 1) = oz_sum (fun x => cond (oz_P s x) (oz_nb (σ 106) (v_lk A (x : Int) n 0 s (A 49 11).toNat) x) 0) x := by
          show oz_sum _ x + cond (oz_P s x) _ 0 = _
          rw [q1]
          exact Int.add_zero _
        rw [e, show ((x + 1 : Nat) : Int) = (x : Int) + 1 from rfl] at k
        exact k
      · have q1 : oz_P s x = true := fw_bo_ne q
        refine ⟨A, x, n, s, rfl, oz_NMM M (by decide +kernel) hN, by omega, hn, by omega, fun y hy => by rw [m106 τ M]; exact hk y hy, fun τ' M' => fs_m_oddsBy_32 hG (fs_m_oddsBy_34 hG ?_)⟩
        have k := ih (x + 1) τ' (by omega) (on_trans M M')
        have e : oz_sum (fun x => cond (oz_P s x) (oz_nb (σ 106) (v_lk A (x : Int) n 0 s (A 49 11).toNat) x) 0) (x + 1) = oz_sum (fun x => cond (oz_P s x) (oz_nb (σ 106) (v_lk A (x : Int) n 0 s (A 49 11).toNat) x) 0) x + oz_nb (σ 106) (v_lk A (x : Int) n 0 s (A 49 11).toNat) x := by
          show oz_sum _ x + cond (oz_P s x) _ 0 = _
          rw [q1]
          rfl
        rw [e, show ((x + 1 : Nat) : Int) = (x : Int) + 1 from rfl] at k
        rw [m106 τ M]
        exact k
  exact loop T 0 σ (Nat.zero_add T) (fw_okM_refl _ _))
theorem fm_m_oddsOf (hinj : nn_inj ad) : fw_H l cy ad wr cr D 283 8 sp_m_oddsOf := fw_mk hinj (⟨"NameNotesModel", "oddsOf", "(III)J"⟩, prog_14_method_79_code, 4, (Option.some Jvm.ClassFile.FieldType.long), 3, true, 2) rfl rfl nn_KI20_ok nn_KJ20_ok nn_PF20_ok nn_PS20_ok (by decide +kernel) rfl rfl (List.forall_mem_cons.mpr ⟨fw_row nn_PM20_ok (x := 335) (k := 0) (mn := 278) (np := 1) (ob := true) (ci := 11) (⟨"NameNotesModel", "layMind", "(I)V"⟩, prog_14_method_76_code, 3, (Option.none : Option Jvm.ClassFile.FieldType), 1, true, 4) rfl (by decide +kernel) rfl rfl (by decide) (fun _ => ⟨_, _, rfl⟩) (fm_m_layMind hinj), (List.forall_mem_cons.mpr ⟨fw_row nn_PM20_ok (x := 338) (k := 0) (mn := 284) (np := 2) (ob := true) (ci := 11) (⟨"NameNotesModel", "oddsBy", "(II)J"⟩, prog_14_method_78_code, 6, (Option.some Jvm.ClassFile.FieldType.long), 2, true, 2) rfl (by decide +kernel) rfl rfl (by decide) (fun _ => ⟨_, _, rfl⟩) (fm_m_oddsBy hinj), (fun _ h => absurd h List.not_mem_nil)⟩)⟩) (fun as σ K h => by
  obtain ⟨A, p, n, s, rfl, hN, hp, hn, hs, ht, h⟩ := h
  refine ⟨rfl, fun G hG => fs_m_oddsOf_0 hG ⟨A, p, rfl, hN, hp, fun σ1 M1 I1 => fs_m_oddsOf_5 hG ⟨A, n, s, rfl, oz_NMM M1 (by decide +kernel) hN, hn, hs, ht, fun y hy => by rw [I1 y hy]; exact on_kn_b hN (by omega), fun σ2 M2 => fs_m_oddsOf_11 hG ?_⟩⟩⟩
  have e : oz_ro (σ1 106) A n s = 2520 * oz_odds A p n s := by
    rw [oz_same hN.1 (σ1 106) hn hs ht]
    unfold oz_odds oz_ch
    rw [oz_sm_congr (κ' := oz_kp A p) (γ' := oz_grp A n s) (fun y hy => I1 y hy) (fun x _ => rfl)]
  rw [e]
  exact h σ2 (on_trans M1 (od_up M2 (by decide))))
end
end
section
/-! the duel: values in row 79, moves in row 80, ten of either side -/
def atl_k (k n : Nat) : fw_SP := fun as σ K => ∃ x : Int, as = [(2, k, 0), (0, 0, x)] ∧ (0 ≤ fw_c x ∧ fw_c x < (n : Int) → K (some (1, 0, σ k (fw_c x).toNat)) σ) ∧ (¬ (0 ≤ fw_c x ∧ fw_c x < (n : Int)) → K (some (1, 0, 0)) σ)
theorem atl_gen {k n : Nat} (hn : n ≤ 1000) {K : fw_KR} {σ : ab_SG} {x : Int} {P : Prop}
    (s0 : (fw_c x < 0 → K (some (1, 0, ((0 : Nat) : Int))) σ) ∧ (0 ≤ fw_c x → (fw_c ((n : Nat) : Int) ≤ fw_c x → K (some (1, 0, ((0 : Nat) : Int))) σ) ∧ (fw_c x < fw_c ((n : Nat) : Int) → (0 ≤ fw_c x ∧ fw_c x < ((n : Nat) : Int)) ∧ (K (some (1, 0, σ k (fw_c x).toNat)) σ))) → P)
    (h1 : 0 ≤ fw_c x ∧ fw_c x < (n : Int) → K (some (1, 0, σ k (fw_c x).toNat)) σ) (h2 : ¬ (0 ≤ fw_c x ∧ fw_c x < (n : Int)) → K (some (1, 0, 0)) σ) : P := by
  have en : fw_c ((n : Nat) : Int) = ((n : Nat) : Int) := fw_c_id (by omega) (by omega)
  rw [en] at s0
  exact s0 ⟨fun q => h2 (by omega), fun q => ⟨fun q2 => h2 (by omega), fun q2 => ⟨⟨q, q2⟩, h1 ⟨q, q2⟩⟩⟩⟩
def dj_T : List (Nat × Nat) := [(78, 20), (79, 20), (76, 9)]
def sp_atj : fw_SP := sp_of atl_k dj_T
def sp_put78 : fw_SP := putl_k 78 20
def sp_put79 : fw_SP := putl_k 79 20
def sp_put80 : fw_SP := put_k 80 20
def sp_at80 : fw_SP := at_k 80 20
def dl_s (W : Int) (V : Nat → Int) : Nat → Int × Int → Int × Int
  | 0, st => st
  | b + 1, st => dl_s W V b (if st.1 < W - V (b + 1) then (W - V (b + 1), ((b + 1 : Nat) : Int)) else st)
theorem dl_ss (W : Int) (V : Nat → Int) (b : Nat) (v mv : Int) : dl_s W V (b + 1) (v, mv) = if v < W - V (b + 1) then dl_s W V b (W - V (b + 1), ((b + 1 : Nat) : Int)) else dl_s W V b (v, mv) := by
  show dl_s W V b (if v < W - V (b + 1) then (W - V (b + 1), ((b + 1 : Nat) : Int)) else (v, mv)) = _
  by_cases q : v < W - V (b + 1)
  · rw [if_pos q, if_pos q]
  · rw [if_neg q, if_neg q]
theorem dl_sc (W : Int) {V V' : Nat → Int} : ∀ (m : Nat) (v mv : Int), (∀ b : Nat, 1 ≤ b → b ≤ m → V b = V' b) → dl_s W V m (v, mv) = dl_s W V' m (v, mv)
  | 0, _, _, _ => rfl
  | m + 1, v, mv, h => by
    rw [dl_ss, dl_ss, h (m + 1) (by omega) (by omega), dl_sc W m (W - V' (m + 1)) ((m + 1 : Nat) : Int) (fun b h1 h2 => h b h1 (by omega)), dl_sc W m v mv (fun b h1 h2 => h b h1 (by omega))]
theorem dl_sz {V V' : Nat → Int} : ∀ (m : Nat) (v mv : Int), (∀ b : Nat, 1 ≤ b → b ≤ m → V' b = 2520 * V b) → dl_s 2460275073345600 V' m (2520 * v, mv) = (2520 * (dl_s 976299632280 V m (v, mv)).1, (dl_s 976299632280 V m (v, mv)).2)
  | 0, _, _, _ => rfl
  | m + 1, v, mv, h => by
    have e := h (m + 1) (by omega) (by omega)
    rw [dl_ss, dl_ss]
    by_cases q : v < 976299632280 - V (m + 1)
    · rw [if_pos q, if_pos (show 2520 * v < 2460275073345600 - V' (m + 1) by omega), show 2460275073345600 - V' (m + 1) = 2520 * (976299632280 - V (m + 1)) by omega]
      exact dl_sz m _ _ (fun b h1 h2 => h b h1 (by omega))
    · rw [if_neg q, if_neg (show ¬ 2520 * v < 2460275073345600 - V' (m + 1) by omega)]
      exact dl_sz m _ _ (fun b h1 h2 => h b h1 (by omega))
theorem dl_sb {V : Nat → Int} {lo : Int} (hl : lo ≤ 0) {T : Nat} : ∀ (m : Nat) (v mv : Int), (∀ b : Nat, 1 ≤ b → b ≤ m → 0 ≤ V b ∧ V b ≤ 976299632280) → (lo ≤ v ∧ v ≤ 976299632280) → (0 ≤ mv ∧ mv ≤ (T : Int)) → m ≤ T → (lo ≤ (dl_s 976299632280 V m (v, mv)).1 ∧ (dl_s 976299632280 V m (v, mv)).1 ≤ 976299632280) ∧ (0 ≤ (dl_s 976299632280 V m (v, mv)).2 ∧ (dl_s 976299632280 V m (v, mv)).2 ≤ (T : Int))
  | 0, _, _, _, h1, h2, _ => ⟨h1, h2⟩
  | m + 1, v, mv, h, h1, h2, h3 => by
    have e := h (m + 1) (by omega) (by omega)
    rw [dl_ss]
    by_cases q : v < 976299632280 - V (m + 1)
    · rw [if_pos q]
      exact dl_sb hl m _ _ (fun b g1 g2 => h b g1 (by omega)) ⟨by omega, by omega⟩ ⟨by omega, by omega⟩ (by omega)
    · rw [if_neg q]
      exact dl_sb hl m _ _ (fun b g1 g2 => h b g1 (by omega)) h1 h2 (by omega)
def dl_st (W : Int) (C : Nat → Int) (o n : Nat) : Int := if n = 0 then -1 else W - C (o + n)
/-- a side's value and move behind a bid of n, a bid of m at most open to her -/
def dl_r (W : Int) (C V : Nat → Int) (side n m : Nat) : Int × Int := dl_s W (fun b => V (10 - 10 * side + b)) m (dl_st W C (10 - 10 * side) n, 0)
def dl_put (f : Nat → Int) (i : Nat) (v : Int) : Nat → Int := fun j => if j = i then v else f j
theorem dl_put_eq (f : Nat → Int) (i : Nat) (v : Int) : dl_put f i v i = v := if_pos rfl
theorem dl_put_ne (f : Nat → Int) {i j : Nat} (v : Int) (h : j ≠ i) : dl_put f i v j = f j := if_neg h
def dl_1 (C : Nat → Int) (side n m : Nat) (st : (Nat → Int) × (Nat → Int)) : (Nat → Int) × (Nat → Int) := (dl_put st.1 (10 * side + n) (dl_r 976299632280 C st.1 side n m).1, dl_put st.2 (10 * side + n) (dl_r 976299632280 C st.1 side n m).2)
def dl_m (f : Nat) : Nat → Nat
  | 0 => f
  | n + 1 => n
def dl_n (C : Nat → Int) (f : Nat) : Nat → (Nat → Int) × (Nat → Int)
  | 0 => (fun _ => 0, fun _ => 0)
  | k + 1 => dl_1 C 1 ((k + 1) % 10) (dl_m f ((k + 1) % 10)) (dl_1 C 0 ((k + 1) % 10) (dl_m f ((k + 1) % 10)) (dl_n C f k))
theorem dl_nn (C : Nat → Int) (f : Nat) {k : Nat} (h : k < 9) : dl_n C f (k + 1) = dl_1 C 1 (k + 1) k (dl_1 C 0 (k + 1) k (dl_n C f k)) := by
  show dl_1 C 1 ((k + 1) % 10) (dl_m f ((k + 1) % 10)) (dl_1 C 0 ((k + 1) % 10) (dl_m f ((k + 1) % 10)) (dl_n C f k)) = _
  rw [Nat.mod_eq_of_lt (show k + 1 < 10 by omega)]
  rfl
theorem dl_nt (C : Nat → Int) (f : Nat) : dl_n C f (9 + 1) = dl_1 C 1 0 f (dl_1 C 0 0 f (dl_n C f 9)) := rfl
def dl_B (st : (Nat → Int) × (Nat → Int)) : Prop := ∀ i : Nat, (0 ≤ st.1 i ∧ st.1 i ≤ 976299632280) ∧ (0 ≤ st.2 i ∧ st.2 i ≤ 9) ∧ (1 ≤ i % 10 → st.2 i ≤ ((i % 10 : Nat) : Int) - 1)
def dl_C (C : Nat → Int) : Prop := ∀ i : Nat, i < 20 → 1 ≤ i % 10 → 0 ≤ C i ∧ C i ≤ 976299632280
theorem dl_rb {C V : Nat → Int} {side n m : Nat} (hs : side < 2) (hn : n < 10) (hz : n = 0 → 1 ≤ m) (hC : dl_C C) (hV : ∀ b : Nat, 1 ≤ b → b ≤ m → 0 ≤ V (10 - 10 * side + b) ∧ V (10 - 10 * side + b) ≤ 976299632280) : (0 ≤ (dl_r 976299632280 C V side n m).1 ∧ (dl_r 976299632280 C V side n m).1 ≤ 976299632280) ∧ (0 ≤ (dl_r 976299632280 C V side n m).2 ∧ (dl_r 976299632280 C V side n m).2 ≤ (m : Int)) := by
  unfold dl_r dl_st
  by_cases c : n = 0
  · rw [if_pos c]
    obtain ⟨m, rfl⟩ : ∃ k : Nat, m = k + 1 := ⟨m - 1, by have := hz c; omega⟩
    have e := hV (m + 1) (by omega) (by omega)
    rw [dl_ss, if_pos (show (-1 : Int) < 976299632280 - V (10 - 10 * side + (m + 1)) by omega)]
    exact dl_sb (Int.le_refl 0) m _ _ (fun b h1 h2 => hV b h1 (by omega)) ⟨by omega, by omega⟩ ⟨by omega, by omega⟩ (by omega)
  · rw [if_neg c]
    have e := hC (10 - 10 * side + n) (by omega) (by omega)
    exact dl_sb (Int.le_refl 0) m _ _ hV ⟨by omega, by omega⟩ ⟨Int.le_refl 0, by omega⟩ (Nat.le_refl m)
theorem dl_1b {C : Nat → Int} {st : (Nat → Int) × (Nat → Int)} {side n m : Nat} (hB : dl_B st) (hC : dl_C C) (hs : side < 2) (hn : n < 10) (hm : m < 10) (hz : n = 0 → 1 ≤ m) (hk : n ≠ 0 → m + 1 ≤ n) : dl_B (dl_1 C side n m st) := by
  have r := dl_rb (V := st.1) hs hn hz hC (fun b _ _ => (hB _).1)
  intro i
  show (0 ≤ dl_put _ _ _ i ∧ dl_put _ _ _ i ≤ 976299632280) ∧ (0 ≤ dl_put _ _ _ i ∧ dl_put _ _ _ i ≤ 9) ∧ (_ → dl_put _ _ _ i ≤ _)
  by_cases c : i = 10 * side + n
  · subst c
    rw [dl_put_eq, dl_put_eq]
    refine ⟨r.1, ⟨r.2.1, by omega⟩, fun q => ?_⟩
    have e : (10 * side + n) % 10 = n := by omega
    rw [e] at q ⊢
    have := hk (by omega)
    omega
  · rw [dl_put_ne _ _ c, dl_put_ne _ _ c]
    exact hB i
theorem dl_nb {C : Nat → Int} {f : Nat} (hC : dl_C C) (hf : 1 ≤ f ∧ f ≤ 9) : ∀ k : Nat, dl_B (dl_n C f k)
  | 0 => fun i => ⟨⟨Int.le_refl 0, show (0 : Int) ≤ 976299632280 by decide⟩, ⟨Int.le_refl 0, show (0 : Int) ≤ 9 by decide⟩, fun q => by show (0 : Int) ≤ _; omega⟩
  | k + 1 => by
    have b := dl_nb hC hf k
    have m : dl_m f ((k + 1) % 10) < 10 ∧ ((k + 1) % 10 = 0 → 1 ≤ dl_m f ((k + 1) % 10)) ∧ ((k + 1) % 10 ≠ 0 → dl_m f ((k + 1) % 10) + 1 ≤ (k + 1) % 10) := by
      have lt : (k + 1) % 10 < 10 := Nat.mod_lt _ (by decide)
      generalize (k + 1) % 10 = n at lt ⊢
      cases n with
      | zero => exact ⟨by show f < 10; omega, fun _ => hf.1, fun z => absurd rfl z⟩
      | succ n => exact ⟨by show n < 10; omega, fun z => absurd z (Nat.succ_ne_zero n), fun _ => Nat.le_refl _⟩
    have lt : (k + 1) % 10 < 10 := Nat.mod_lt _ (by decide)
    exact dl_1b (dl_1b b hC (by decide) lt m.1 m.2.1 m.2.2) hC (by decide) lt m.1 m.2.1 m.2.2
theorem dl_rc (W : Int) {C C' V V' : Nat → Int} {side n m : Nat} (hC : n ≠ 0 → C (10 - 10 * side + n) = C' (10 - 10 * side + n)) (hV : ∀ b : Nat, 1 ≤ b → b ≤ m → V (10 - 10 * side + b) = V' (10 - 10 * side + b)) : dl_r W C V side n m = dl_r W C' V' side n m := by
  unfold dl_r dl_st
  by_cases c : n = 0
  · rw [if_pos c, if_pos c]
    exact dl_sc W m _ _ hV
  · rw [if_neg c, if_neg c, hC c]
    exact dl_sc W m _ _ hV
theorem dl_rz {C C' V V' : Nat → Int} {side n m : Nat} (hz : n = 0 → 1 ≤ m) (hC : n ≠ 0 → C' (10 - 10 * side + n) = 2520 * C (10 - 10 * side + n)) (hV : ∀ b : Nat, 1 ≤ b → b ≤ m → V' (10 - 10 * side + b) = 2520 * V (10 - 10 * side + b)) (hb : ∀ b : Nat, 1 ≤ b → b ≤ m → 0 ≤ V (10 - 10 * side + b) ∧ V (10 - 10 * side + b) ≤ 976299632280) : dl_r 2460275073345600 C' V' side n m = (2520 * (dl_r 976299632280 C V side n m).1, (dl_r 976299632280 C V side n m).2) := by
  unfold dl_r dl_st
  by_cases c : n = 0
  · rw [if_pos c, if_pos c]
    obtain ⟨m, rfl⟩ : ∃ k : Nat, m = k + 1 := ⟨m - 1, by have := hz c; omega⟩
    have e := hV (m + 1) (by omega) (by omega)
    have e2 := hb (m + 1) (by omega) (by omega)
    rw [dl_ss, dl_ss, if_pos (show (-1 : Int) < 2460275073345600 - V' (10 - 10 * side + (m + 1)) by omega), if_pos (show (-1 : Int) < 976299632280 - V (10 - 10 * side + (m + 1)) by omega), show 2460275073345600 - V' (10 - 10 * side + (m + 1)) = 2520 * (976299632280 - V (10 - 10 * side + (m + 1))) by omega]
    exact dl_sz (V := fun b => V (10 - 10 * side + b)) m _ _ (fun b h1 h2 => hV b h1 (by omega))
  · rw [if_neg c, if_neg c, hC c, show 2460275073345600 - 2520 * C (10 - 10 * side + n) = 2520 * (976299632280 - C (10 - 10 * side + n)) by omega]
    exact dl_sz (V := fun b => V (10 - 10 * side + b)) m _ _ hV
theorem dl_nc {C C' : Nat → Int} {f : Nat} (h : ∀ i : Nat, i < 20 → 1 ≤ i % 10 → C i = C' i) : ∀ k : Nat, dl_n C f k = dl_n C' f k
  | 0 => rfl
  | k + 1 => by
    have one : ∀ (side n m : Nat) (st : (Nat → Int) × (Nat → Int)), side < 2 → n < 10 → dl_1 C side n m st = dl_1 C' side n m st := by
      intro side n m st hs hn
      unfold dl_1
      rw [dl_rc 976299632280 (C' := C') (V' := st.1) (fun c => h _ (by omega) (by omega)) (fun _ _ _ => rfl)]
    have lt : (k + 1) % 10 < 10 := Nat.mod_lt _ (by decide)
    show dl_1 C 1 _ _ (dl_1 C 0 _ _ (dl_n C f k)) = dl_1 C' 1 _ _ (dl_1 C' 0 _ _ (dl_n C' f k))
    rw [dl_nc h k, one 0 _ _ _ (by decide) lt, one 1 _ _ _ (by decide) lt]
/-- one side speaks: what it writes -/
def du_u (σ : ab_SG) (side n m : Nat) : ab_SG := ab_ups (ab_ups σ 79 (10 * side + n) (dl_r 976299632280 (σ 78) (σ 79) side n m).1) 80 (10 * side + n) (dl_r 976299632280 (σ 78) (σ 79) side n m).2
def du_B : ab_ML := [(79, 1000000), (80, 1000000)]
theorem du_uM {σ τ : ab_SG} (h : ab_okM du_B σ τ) (side n m : Nat) : ab_okM du_B σ (du_u τ side n m) := fw_okM_upa (fw_okM_upa h (by decide)) (by decide)
theorem du_B78 {σ τ : ab_SG} (h : ab_okM du_B σ τ) : τ 78 = σ 78 := funext fun j => h 78 j (fun q hq hh => by
  have : ∀ q ∈ du_B, q.1 ≠ 78 := by decide
  exact this q hq hh.1)
def du_A (S : Nat → Prop) (τ : ab_SG) (st : (Nat → Int) × (Nat → Int)) : Prop := ∀ i : Nat, S i → τ 79 i = st.1 i ∧ τ 80 i = st.2 i
theorem du_uA {S : Nat → Prop} {τ : ab_SG} {st : (Nat → Int) × (Nat → Int)} {C : Nat → Int} {side n m : Nat} (hA : du_A S τ st) (eC : τ 78 = C) (hr : ∀ b : Nat, 1 ≤ b → b ≤ m → S (10 - 10 * side + b)) : du_A (fun i => S i ∨ i = 10 * side + n) (du_u τ side n m) (dl_1 C side n m st) := by
  have e : dl_r 976299632280 (τ 78) (τ 79) side n m = dl_r 976299632280 C st.1 side n m := dl_rc _ (fun _ => by rw [eC]) (fun b h1 h2 => (hA _ (hr b h1 h2)).1)
  intro i hi
  unfold du_u
  rw [e]
  show _ = dl_put _ _ _ i ∧ _ = dl_put _ _ _ i
  rw [ab_ups_ne (fun z => absurd z.1 (by decide))]
  by_cases c : i = 10 * side + n
  · subst c
    rw [ab_ups_eq, ab_ups_eq, dl_put_eq, dl_put_eq]
    exact ⟨rfl, rfl⟩
  · have s := hA i (hi.resolve_right c)
    rw [ab_ups_ne (fun z => c z.2), ab_ups_ne (fun z => c z.2), ab_ups_ne (fun z => absurd z.1 (by decide)), dl_put_ne _ _ c, dl_put_ne _ _ c]
    exact s
def sp_speakBest : fw_SP := fun as σ K => ∃ (side n m : Nat) (a b c : Int), as = [(2, 77, 0), (0, 0, a), (0, 0, b), (0, 0, c)] ∧ (a = (side : Int) ∧ b = (n : Int) ∧ c = (m : Int)) ∧ (side < 2 ∧ n < 10 ∧ m < 10) ∧ (n ≠ 0 → 0 ≤ σ 78 (10 - 10 * side + n) ∧ σ 78 (10 - 10 * side + n) ≤ 976299632280) ∧ (∀ b : Nat, 1 ≤ b → b ≤ m → 0 ≤ σ 79 (10 - 10 * side + b) ∧ σ 79 (10 - 10 * side + b) ≤ 976299632280) ∧ K none (du_u σ side n m)
def sp_doBest : fw_SP := fun as σ K => ∃ f : Nat, as = [(2, 77, 0), (0, 0, (f : Int))] ∧ (1 ≤ f ∧ f ≤ 9) ∧ dl_C (σ 78) ∧ ∀ σ' : ab_SG, ab_okM du_B σ σ' → (∀ i : Nat, i < 20 → σ' 79 i = (dl_n (σ 78) f 10).1 i ∧ σ' 80 i = (dl_n (σ 78) f 10).2 i) → K none σ'
def sp_dmove : fw_SP := fun as σ K => ∃ (side n : Nat) (a b : Int), as = [(2, 77, 0), (0, 0, a), (0, 0, b)] ∧ (a = (side : Int) ∧ b = (n : Int)) ∧ (side < 2 ∧ n < 10) ∧ K (some (0, 0, σ 80 (10 * side + n))) σ
/-- the odds of p and q, in the duel's order -/
def v_ch (A : ab_SG) (p q : Nat) (s : Int) : Nat → Int := fun i => if i < 10 then oz_odds A p (i : Int) s else oz_odds A q ((i - 10 : Nat) : Int) s
def du_H : ab_ML := [(73, 3), (74, 1000000), (75, 1000000), (78, 1000000)]
def du_M : ab_ML := [(73, 3), (74, 1000000), (75, 1000000), (78, 1000000), (79, 1000000), (80, 1000000)]
def sp_hear : fw_SP := fun as σ K => ∃ (A : ab_SG) (p q : Nat) (s : Int), as = [(2, 77, 0), (2, 3, 0), (2, 73, 0), (0, 0, (p : Int)), (0, 0, (q : Int)), (0, 0, s)] ∧ NC σ A ∧ p < 5 ∧ q < 5 ∧ (1 ≤ s ∧ s < 512) ∧ (∀ z : Nat, z < 9 → pr_hs s (z : Int) = true → (z : Int) < A 49 11) ∧ ∀ σ' : ab_SG, ab_okM du_H σ σ' → (∀ i : Nat, i < 20 → 1 ≤ i % 10 → σ' 78 i = v_ch A p q s i) → K none σ'
/-- a round is possible, and a bid of n behind it -/
abbrev v_bd (A : ab_SG) (p q n c : Int) : Prop := (0 ≤ p ∧ p < A 49 13) ∧ (0 ≤ q ∧ q < A 49 13) ∧ p ≠ q ∧ (0 ≤ n ∧ n ≤ 9) ∧ (0 ≤ c ∧ c < A 49 12)
def sp_canBid : fw_SP := fun as σ K => ∃ (A : ab_SG) (p q n c : Int), as = [(2, 0, 0), (0, 0, p), (0, 0, q), (0, 0, n), (0, 0, c)] ∧ (fw_c p = p ∧ fw_c q = q ∧ fw_c n = n ∧ fw_c c = c) ∧ NC σ A ∧ K (some (0, 0, fw_bo (v_bd A p q n c))) σ
def sp_m_isRound : fw_SP := fun as σ K => ∃ (A : ab_SG) (p q c : Int), as = [(2, 93, 0), (0, 0, p), (0, 0, q), (0, 0, c)] ∧ (fw_c p = p ∧ fw_c q = q ∧ fw_c c = c) ∧ NM σ A ∧ K (some (0, 0, fw_bo (v_bd A p q 0 c))) σ
/-- the duel of p and q at a clue: values, moves -/
def v_du (A : ab_SG) (p q c : Int) : (Nat → Int) × (Nat → Int) := dl_n (v_ch A p.toNat q.toNat (v_set A c)) (A 49 14).toNat 10
def sp_weigh : fw_SP := fun as σ K => ∃ (A : ab_SG) (p q c : Int), as = [(2, 0, 0), (0, 0, p), (0, 0, q), (0, 0, c)] ∧ NC σ A ∧ v_bd A p q 0 c ∧ ∀ σ' : ab_SG, ab_okM du_M σ σ' → (∀ i : Nat, i < 20 → σ' 79 i = (v_du A p q c).1 i ∧ σ' 80 i = (v_du A p q c).2 i) → K none σ'
theorem du_ch {A τ : ab_SG} {p : Nat} {n s : Int} (h4 : ∀ y : Nat, y < 9 → τ 74 y = if pr_hs 0 (y : Int) = true then 9 else A 55 (9 * p + y)) (h5 : ∀ x : Nat, x < 9 → τ 75 x = oz_grp A n s x) : oz_ch (τ 74) (τ 75) s = oz_odds A p n s := by
  unfold oz_odds oz_ch
  rw [oz_sm_congr (κ' := oz_kp A p) (γ' := oz_grp A n s) (fun y hy => by rw [h4 y hy, if_neg (by rw [hs_0 y hy]; exact Bool.false_ne_true)]; rfl) h5]
theorem du_78 {σ τ : ab_SG} (h : ab_okM oz_M σ τ) (j : Nat) : τ 78 j = σ 78 j := h 78 j (fun q hq hh => by
  have : ∀ q ∈ oz_M, q.1 ≠ 78 := by decide
  exact this q hq hh.1)
theorem v_chb {σ A : ab_SG} (hN : NC σ A) {p q : Nat} (hp : p < 5) (hq : q < 5) {s : Int} (hs : 1 ≤ s ∧ s < 512) : dl_C (v_ch A p q s) := fun i _ _ => by
  unfold v_ch
  split
  · exact oz_odds_b hN hp hs
  · exact oz_odds_b hN hq hs
abbrev fk_at78 : List fw_CR := []
abbrev st_at78 : fw_K → fw_KR → fw_K := fw_st vwCl nn_sh nn_kd fw_kv fw_wc (nn_KI1.map (fun x => x.1)) (nn_KJ1.map (fun x => x.1)) (nn_PF1.map (fun x => x.1)) (nn_PS1.map (fun x => x.1)) fk_at78 0 nn_dt87 2 2
theorem fs_at78_0 {G : fw_K} {R : fw_KR} (hG : fw_cls st_at78 R G) {x : Int} {σ : ab_SG} (h : (fw_c x < 0 → R (some (1, 0, ((0 : Nat) : Int))) σ) ∧ (0 ≤ fw_c x → (fw_c ((20 : Nat) : Int) ≤ fw_c x → R (some (1, 0, ((0 : Nat) : Int))) σ) ∧ (fw_c x < fw_c ((20 : Nat) : Int) → (0 ≤ fw_c x ∧ fw_c x < ((20 : Nat) : Int)) ∧ (R (some (1, 0, σ 78 (fw_c x).toNat)) σ)))) : G 0 [some (2, 78, 0), some (0, 0, x)] [] σ := fw_on hG [] 200 h
abbrev fk_at79 : List fw_CR := []
abbrev st_at79 : fw_K → fw_KR → fw_K := fw_st vwCl nn_sh nn_kd fw_kv fw_wc (nn_KI1.map (fun x => x.1)) (nn_KJ1.map (fun x => x.1)) (nn_PF1.map (fun x => x.1)) (nn_PS1.map (fun x => x.1)) fk_at79 0 nn_dt87 2 2
theorem fs_at79_0 {G : fw_K} {R : fw_KR} (hG : fw_cls st_at79 R G) {x : Int} {σ : ab_SG} (h : (fw_c x < 0 → R (some (1, 0, ((0 : Nat) : Int))) σ) ∧ (0 ≤ fw_c x → (fw_c ((20 : Nat) : Int) ≤ fw_c x → R (some (1, 0, ((0 : Nat) : Int))) σ) ∧ (fw_c x < fw_c ((20 : Nat) : Int) → (0 ≤ fw_c x ∧ fw_c x < ((20 : Nat) : Int)) ∧ (R (some (1, 0, σ 79 (fw_c x).toNat)) σ)))) : G 0 [some (2, 79, 0), some (0, 0, x)] [] σ := fw_on hG [] 200 h
abbrev fk_at76 : List fw_CR := []
abbrev st_at76 : fw_K → fw_KR → fw_K := fw_st vwCl nn_sh nn_kd fw_kv fw_wc (nn_KI1.map (fun x => x.1)) (nn_KJ1.map (fun x => x.1)) (nn_PF1.map (fun x => x.1)) (nn_PS1.map (fun x => x.1)) fk_at76 0 nn_dt87 2 2
theorem fs_at76_0 {G : fw_K} {R : fw_KR} (hG : fw_cls st_at76 R G) {x : Int} {σ : ab_SG} (h : (fw_c x < 0 → R (some (1, 0, ((0 : Nat) : Int))) σ) ∧ (0 ≤ fw_c x → (fw_c ((9 : Nat) : Int) ≤ fw_c x → R (some (1, 0, ((0 : Nat) : Int))) σ) ∧ (fw_c x < fw_c ((9 : Nat) : Int) → (0 ≤ fw_c x ∧ fw_c x < ((9 : Nat) : Int)) ∧ (R (some (1, 0, σ 76 (fw_c x).toNat)) σ)))) : G 0 [some (2, 76, 0), some (0, 0, x)] [] σ := fw_on hG [] 200 h
abbrev fk_put78 : List fw_CR := []
abbrev st_put78 : fw_K → fw_KR → fw_K := fw_st vwCl nn_sh nn_kd fw_kv fw_wc (nn_KI1.map (fun x => x.1)) (nn_KJ1.map (fun x => x.1)) (nn_PF1.map (fun x => x.1)) (nn_PS1.map (fun x => x.1)) fk_put78 0 nn_dt26 4 4
theorem fs_put78_0 {G : fw_K} {R : fw_KR} (hG : fw_cls st_put78 R G) {x v : Int} {σ : ab_SG} (h : (fw_c x < 0 → R none σ) ∧ (0 ≤ fw_c x → (fw_c ((20 : Nat) : Int) ≤ fw_c x → R none σ) ∧ (fw_c x < fw_c ((20 : Nat) : Int) → (0 ≤ fw_c x ∧ fw_c x < ((20 : Nat) : Int)) ∧ True ∧ (R none (ab_ups σ 78 (fw_c x).toNat (fw_d v)))))) : G 0 [some (2, 78, 0), some (0, 0, x), some (1, 0, v), none] [] σ := fw_on hG [] 200 h
abbrev fk_put79 : List fw_CR := []
abbrev st_put79 : fw_K → fw_KR → fw_K := fw_st vwCl nn_sh nn_kd fw_kv fw_wc (nn_KI1.map (fun x => x.1)) (nn_KJ1.map (fun x => x.1)) (nn_PF1.map (fun x => x.1)) (nn_PS1.map (fun x => x.1)) fk_put79 0 nn_dt26 4 4
theorem fs_put79_0 {G : fw_K} {R : fw_KR} (hG : fw_cls st_put79 R G) {x v : Int} {σ : ab_SG} (h : (fw_c x < 0 → R none σ) ∧ (0 ≤ fw_c x → (fw_c ((20 : Nat) : Int) ≤ fw_c x → R none σ) ∧ (fw_c x < fw_c ((20 : Nat) : Int) → (0 ≤ fw_c x ∧ fw_c x < ((20 : Nat) : Int)) ∧ True ∧ (R none (ab_ups σ 79 (fw_c x).toNat (fw_d v)))))) : G 0 [some (2, 79, 0), some (0, 0, x), some (1, 0, v), none] [] σ := fw_on hG [] 200 h
abbrev fk_put80 : List fw_CR := []
abbrev st_put80 : fw_K → fw_KR → fw_K := fw_st vwCl nn_sh nn_kd fw_kv fw_wc (nn_KI1.map (fun x => x.1)) (nn_KJ1.map (fun x => x.1)) (nn_PF1.map (fun x => x.1)) (nn_PS1.map (fun x => x.1)) fk_put80 0 nn_dt27 3 4
theorem fs_put80_0 {G : fw_K} {R : fw_KR} (hG : fw_cls st_put80 R G) {x v : Int} {σ : ab_SG} (h : (fw_c x < 0 → R none σ) ∧ (0 ≤ fw_c x → (fw_c ((20 : Nat) : Int) ≤ fw_c x → R none σ) ∧ (fw_c x < fw_c ((20 : Nat) : Int) → (0 ≤ fw_c x ∧ fw_c x < ((20 : Nat) : Int)) ∧ True ∧ (R none (ab_ups σ 80 (fw_c x).toNat (fw_c v)))))) : G 0 [some (2, 80, 0), some (0, 0, x), some (0, 0, v)] [] σ := fw_on hG [] 200 h
abbrev fk_at80 : List fw_CR := []
abbrev st_at80 : fw_K → fw_KR → fw_K := fw_st vwCl nn_sh nn_kd fw_kv fw_wc (nn_KI1.map (fun x => x.1)) (nn_KJ1.map (fun x => x.1)) (nn_PF1.map (fun x => x.1)) (nn_PS1.map (fun x => x.1)) fk_at80 0 nn_dt29 2 0
theorem fs_at80_0 {G : fw_K} {R : fw_KR} (hG : fw_cls st_at80 R G) {x : Int} {σ : ab_SG} (h : (fw_c x < 0 → R (some (0, 0, 0)) σ) ∧ (0 ≤ fw_c x → (fw_c ((20 : Nat) : Int) ≤ fw_c x → R (some (0, 0, 0)) σ) ∧ (fw_c x < fw_c ((20 : Nat) : Int) → (0 ≤ fw_c x ∧ fw_c x < ((20 : Nat) : Int)) ∧ (R (some (0, 0, σ 80 (fw_c x).toNat)) σ)))) : G 0 [some (2, 80, 0), some (0, 0, x)] [] σ := fw_on hG [] 200 h
abbrev fk_speakBest : List fw_CR := [(35, 3, false, 0, 0, sp_put79), (45, 2, false, 0, 0, sp_atj), (51, 3, false, 0, 0, sp_put80)]
abbrev st_speakBest : fw_K → fw_KR → fw_K := fw_st vwCl nn_sh nn_kd fw_kv fw_wc (nn_KI10.map (fun x => x.1)) (nn_KJ10.map (fun x => x.1)) (nn_PF10.map (fun x => x.1)) (nn_PS10.map (fun x => x.1)) fk_speakBest 1 nn_dt95 11 4
theorem fs_speakBest_0 {G : fw_K} {R : fw_KR} (hG : fw_cls st_speakBest R G) {side n m : Int} {σ : ab_SG} (h : (fw_c n ≤ 0 → G 33 [some (2, 77, 0), some (0, 0, side), some (0, 0, n), some (0, 0, m), some (0, 0, (1 - side) * 10), none, none, none, none, none, none] [(1, 0, (-1))] σ) ∧ (0 < fw_c n → sp_atj [(2, 78, 0), (0, 0, ((1 - side) * 10) + n)] σ (fun rv σ2 => G 26 [some (2, 77, 0), some (0, 0, side), some (0, 0, n), some (0, 0, m), some (0, 0, (1 - side) * 10), none, none, none, none, none, none] (rv.toList ++ [(1, 0, 976299632280)]) σ2))) : G 0 [some (2, 77, 0), some (0, 0, side), some (0, 0, n), some (0, 0, m), none, none, none, none, none, none, none] [] σ := fw_on hG [26, 33, 41, 61, 80, 101, 116] 200 h
theorem fs_speakBest_33 {G : fw_K} {R : fw_KR} (hG : fw_cls st_speakBest R G) {a1 a2 a3 a4 b0 : Int} {o5 o6 o7 o8 o9 o10 : Option ab_AV} {σ : ab_SG} (h : G 41 [some (2, 77, 0), some (0, 0, a1), some (0, 0, a2), some (0, 0, a3), some (0, 0, a4), some (1, 0, b0), none, some (0, 0, 0), some (0, 0, a3), o9, o10] [] σ) : G 33 [some (2, 77, 0), some (0, 0, a1), some (0, 0, a2), some (0, 0, a3), some (0, 0, a4), o5, o6, o7, o8, o9, o10] [(1, 0, b0)] σ := fw_on hG [26, 33, 41, 61, 80, 101, 116] 200 h
theorem fs_speakBest_26 {G : fw_K} {R : fw_KR} (hG : fw_cls st_speakBest R G) {a1 a2 a3 a4 b0 b1 : Int} {o5 o6 o7 o8 o9 o10 : Option ab_AV} {σ : ab_SG} (h : G 33 [some (2, 77, 0), some (0, 0, a1), some (0, 0, a2), some (0, 0, a3), some (0, 0, a4), o5, o6, o7, o8, o9, o10] [(1, 0, b1 - b0)] σ) : G 26 [some (2, 77, 0), some (0, 0, a1), some (0, 0, a2), some (0, 0, a3), some (0, 0, a4), o5, o6, o7, o8, o9, o10] [(1, 0, b0), (1, 0, b1)] σ := fw_on hG [26, 33, 41, 61, 80, 101, 116] 200 h
theorem fs_speakBest_41 {G : fw_K} {R : fw_KR} (hG : fw_cls st_speakBest R G) {a1 a2 a4 a5 a7 a8 : Int} {o3 o6 o9 o10 : Option ab_AV} {σ : ab_SG} (h : (fw_c a8 ≤ 0 → sp_put79 [(2, 79, 0), (0, 0, (a1 * 10) + a2), (1, 0, a5)] σ (fun rv σ2 => G 101 [some (2, 77, 0), some (0, 0, a1), some (0, 0, a2), o3, some (0, 0, a4), some (1, 0, a5), o6, some (0, 0, a7), some (0, 0, a8), o9, o10] (rv.toList ++ []) σ2)) ∧ (0 < fw_c a8 → sp_atj [(2, 79, 0), (0, 0, a4 + a8)] σ (fun rv σ2 => G 61 [some (2, 77, 0), some (0, 0, a1), some (0, 0, a2), o3, some (0, 0, a4), some (1, 0, a5), o6, some (0, 0, a7), some (0, 0, a8), o9, o10] (rv.toList ++ [(1, 0, 976299632280)]) σ2))) : G 41 [some (2, 77, 0), some (0, 0, a1), some (0, 0, a2), o3, some (0, 0, a4), some (1, 0, a5), o6, some (0, 0, a7), some (0, 0, a8), o9, o10] [] σ := fw_on hG [26, 33, 41, 61, 80, 101, 116] 200 h
theorem fs_speakBest_101 {G : fw_K} {R : fw_KR} (hG : fw_cls st_speakBest R G) {a1 a2 a7 : Int} {o3 o4 o5 o6 o8 o9 o10 : Option ab_AV} {σ : ab_SG} (h : sp_put80 [(2, 80, 0), (0, 0, (a1 * 10) + a2), (0, 0, a7)] σ (fun rv σ2 => G 116 [some (2, 77, 0), some (0, 0, a1), some (0, 0, a2), o3, o4, o5, o6, some (0, 0, a7), o8, o9, o10] (rv.toList ++ []) σ2)) : G 101 [some (2, 77, 0), some (0, 0, a1), some (0, 0, a2), o3, o4, o5, o6, some (0, 0, a7), o8, o9, o10] [] σ := fw_on hG [26, 33, 41, 61, 80, 101, 116] 200 h
theorem fs_speakBest_61 {G : fw_K} {R : fw_KR} (hG : fw_cls st_speakBest R G) {a1 a2 a4 a5 a7 a8 b0 b1 : Int} {o3 o6 o9 o10 : Option ab_AV} {σ : ab_SG} (h : (fw_d (b1 - b0) ≤ fw_d a5 → G 80 [some (2, 77, 0), some (0, 0, a1), some (0, 0, a2), o3, some (0, 0, a4), some (1, 0, a5), o6, some (0, 0, a7), some (0, 0, a8), some (1, 0, b1 - b0), none] [] σ) ∧ (fw_d a5 < fw_d (b1 - b0) → G 80 [some (2, 77, 0), some (0, 0, a1), some (0, 0, a2), o3, some (0, 0, a4), some (1, 0, b1 - b0), none, some (0, 0, a8), some (0, 0, a8), some (1, 0, b1 - b0), none] [] σ)) : G 61 [some (2, 77, 0), some (0, 0, a1), some (0, 0, a2), o3, some (0, 0, a4), some (1, 0, a5), o6, some (0, 0, a7), some (0, 0, a8), o9, o10] [(1, 0, b0), (1, 0, b1)] σ := fw_on hG [26, 33, 41, 61, 80, 101, 116] 200 h
theorem fs_speakBest_116 {G : fw_K} {R : fw_KR} (hG : fw_cls st_speakBest R G) {o1 o2 o3 o4 o5 o6 o7 o8 o9 o10 : Option ab_AV} {σ : ab_SG} (h : R none σ) : G 116 [some (2, 77, 0), o1, o2, o3, o4, o5, o6, o7, o8, o9, o10] [] σ := fw_on hG [26, 33, 41, 61, 80, 101, 116] 200 h
theorem fs_speakBest_80 {G : fw_K} {R : fw_KR} (hG : fw_cls st_speakBest R G) {a1 a2 a4 a5 a7 a8 : Int} {o3 o6 o9 o10 : Option ab_AV} {σ : ab_SG} (h : G 41 [some (2, 77, 0), some (0, 0, a1), some (0, 0, a2), o3, some (0, 0, a4), some (1, 0, a5), o6, some (0, 0, a7), some (0, 0, a8 + (-1)), o9, o10] [] σ) : G 80 [some (2, 77, 0), some (0, 0, a1), some (0, 0, a2), o3, some (0, 0, a4), some (1, 0, a5), o6, some (0, 0, a7), some (0, 0, a8), o9, o10] [] σ := fw_on hG [26, 33, 41, 61, 80, 101, 116] 200 h
abbrev fk_doBest : List fw_CR := [(39, 3, true, 0, 1, sp_speakBest)]
abbrev st_doBest : fw_K → fw_KR → fw_K := fw_st vwCl nn_sh nn_kd fw_kv fw_wc (nn_KI10.map (fun x => x.1)) (nn_KJ10.map (fun x => x.1)) (nn_PF10.map (fun x => x.1)) (nn_PS10.map (fun x => x.1)) fk_doBest 2 nn_dt94 3 4
theorem fs_doBest_0 {G : fw_K} {R : fw_KR} (hG : fw_cls st_doBest R G) {f : Int} {σ : ab_SG} (h : G 2 [some (2, 77, 0), some (0, 0, f), some (0, 0, 1)] [] σ) : G 0 [some (2, 77, 0), some (0, 0, f), none] [] σ := fw_on hG [2, 17, 26, 39, 46] 200 h
theorem fs_doBest_2 {G : fw_K} {R : fw_KR} (hG : fw_cls st_doBest R G) {a1 a2 : Int} {σ : ab_SG} (h : (fw_c 9 < fw_c a2 → sp_speakBest [(2, 77, 0), (0, 0, 0), (0, 0, 0), (0, 0, a1)] σ (fun rv σ2 => G 39 [some (2, 77, 0), some (0, 0, a1), some (0, 0, a2)] (rv.toList ++ []) σ2)) ∧ (fw_c a2 ≤ fw_c 9 → sp_speakBest [(2, 77, 0), (0, 0, 0), (0, 0, a2), (0, 0, a2 - 1)] σ (fun rv σ2 => G 17 [some (2, 77, 0), some (0, 0, a1), some (0, 0, a2)] (rv.toList ++ []) σ2))) : G 2 [some (2, 77, 0), some (0, 0, a1), some (0, 0, a2)] [] σ := fw_on hG [2, 17, 26, 39, 46] 200 h
theorem fs_doBest_39 {G : fw_K} {R : fw_KR} (hG : fw_cls st_doBest R G) {a1 a2 : Int} {σ : ab_SG} (h : sp_speakBest [(2, 77, 0), (0, 0, 1), (0, 0, 0), (0, 0, a1)] σ (fun rv σ2 => G 46 [some (2, 77, 0), some (0, 0, a1), some (0, 0, a2)] (rv.toList ++ []) σ2)) : G 39 [some (2, 77, 0), some (0, 0, a1), some (0, 0, a2)] [] σ := fw_on hG [2, 17, 26, 39, 46] 200 h
theorem fs_doBest_17 {G : fw_K} {R : fw_KR} (hG : fw_cls st_doBest R G) {a1 a2 : Int} {σ : ab_SG} (h : sp_speakBest [(2, 77, 0), (0, 0, 1), (0, 0, a2), (0, 0, a2 - 1)] σ (fun rv σ2 => G 26 [some (2, 77, 0), some (0, 0, a1), some (0, 0, a2)] (rv.toList ++ []) σ2)) : G 17 [some (2, 77, 0), some (0, 0, a1), some (0, 0, a2)] [] σ := fw_on hG [2, 17, 26, 39, 46] 200 h
theorem fs_doBest_46 {G : fw_K} {R : fw_KR} (hG : fw_cls st_doBest R G) {a1 a2 : Int} {σ : ab_SG} (h : R none σ) : G 46 [some (2, 77, 0), some (0, 0, a1), some (0, 0, a2)] [] σ := fw_on hG [2, 17, 26, 39, 46] 200 h
theorem fs_doBest_26 {G : fw_K} {R : fw_KR} (hG : fw_cls st_doBest R G) {a1 a2 : Int} {σ : ab_SG} (h : G 2 [some (2, 77, 0), some (0, 0, a1), some (0, 0, a2 + 1)] [] σ) : G 26 [some (2, 77, 0), some (0, 0, a1), some (0, 0, a2)] [] σ := fw_on hG [2, 17, 26, 39, 46] 200 h
abbrev fk_dmove : List fw_CR := [(61, 2, false, 0, 0, sp_at80)]
abbrev st_dmove : fw_K → fw_KR → fw_K := fw_st vwCl nn_sh nn_kd fw_kv fw_wc (nn_KI10.map (fun x => x.1)) (nn_KJ10.map (fun x => x.1)) (nn_PF10.map (fun x => x.1)) (nn_PS10.map (fun x => x.1)) fk_dmove 1 nn_dt96 3 0
theorem fs_dmove_0 {G : fw_K} {R : fw_KR} (hG : fw_cls st_dmove R G) {side n : Int} {σ : ab_SG} (h : sp_at80 [(2, 80, 0), (0, 0, (side * 10) + n)] σ (fun rv σ2 => G 13 [some (2, 77, 0), some (0, 0, side), some (0, 0, n)] (rv.toList ++ []) σ2)) : G 0 [some (2, 77, 0), some (0, 0, side), some (0, 0, n)] [] σ := fw_on hG [13] 200 h
theorem fs_dmove_13 {G : fw_K} {R : fw_KR} (hG : fw_cls st_dmove R G) {a1 a2 b0 : Int} {σ : ab_SG} (h : R (some (0, 0, b0)) σ) : G 13 [some (2, 77, 0), some (0, 0, a1), some (0, 0, a2)] [(0, 0, b0)] σ := fw_on hG [13] 200 h
abbrev fk_hear : List fw_CR := [(22, 3, true, 1, 3, sp_group), (28, 3, true, 1, 3, sp_listen), (31, 0, true, 1, 3, sp_chance), (35, 3, false, 0, 0, sp_put78)]
abbrev st_hear : fw_K → fw_KR → fw_K := fw_st vwCl nn_sh nn_kd fw_kv fw_wc (nn_KI10.map (fun x => x.1)) (nn_KJ10.map (fun x => x.1)) (nn_PF10.map (fun x => x.1)) (nn_PS10.map (fun x => x.1)) fk_hear 4 nn_dt93 7 4
theorem fs_hear_0 {G : fw_K} {R : fw_KR} (hG : fw_cls st_hear R G) {p q s : Int} {σ : ab_SG} (h : G 3 [some (2, 77, 0), some (2, 3, 0), some (2, 73, 0), some (0, 0, p), some (0, 0, q), some (0, 0, s), some (0, 0, 1)] [] σ) : G 0 [some (2, 77, 0), some (2, 3, 0), some (2, 73, 0), some (0, 0, p), some (0, 0, q), some (0, 0, s), none] [] σ := fw_on hG [3, 19, 26, 36, 39, 47, 60, 63] 200 h
theorem fs_hear_3 {G : fw_K} {R : fw_KR} (hG : fw_cls st_hear R G) {a3 a4 a5 a6 : Int} {σ : ab_SG} (h : (fw_c 9 < fw_c a6 → R none σ) ∧ (fw_c a6 ≤ fw_c 9 → sp_group [(2, 73, 0), (2, 3, 0), (0, 0, a6), (0, 0, a5)] σ (fun rv σ2 => G 19 [some (2, 77, 0), some (2, 3, 0), some (2, 73, 0), some (0, 0, a3), some (0, 0, a4), some (0, 0, a5), some (0, 0, a6)] (rv.toList ++ []) σ2))) : G 3 [some (2, 77, 0), some (2, 3, 0), some (2, 73, 0), some (0, 0, a3), some (0, 0, a4), some (0, 0, a5), some (0, 0, a6)] [] σ := fw_on hG [3, 19, 26, 36, 39, 47, 60, 63] 200 h
theorem fs_hear_19 {G : fw_K} {R : fw_KR} (hG : fw_cls st_hear R G) {a3 a4 a5 a6 : Int} {σ : ab_SG} (h : sp_listen [(2, 73, 0), (2, 3, 0), (0, 0, a3), (0, 0, 0)] σ (fun rv σ2 => G 26 [some (2, 77, 0), some (2, 3, 0), some (2, 73, 0), some (0, 0, a3), some (0, 0, a4), some (0, 0, a5), some (0, 0, a6)] (rv.toList ++ []) σ2)) : G 19 [some (2, 77, 0), some (2, 3, 0), some (2, 73, 0), some (0, 0, a3), some (0, 0, a4), some (0, 0, a5), some (0, 0, a6)] [] σ := fw_on hG [3, 19, 26, 36, 39, 47, 60, 63] 200 h
theorem fs_hear_26 {G : fw_K} {R : fw_KR} (hG : fw_cls st_hear R G) {a3 a4 a5 a6 : Int} {σ : ab_SG} (h : sp_chance [(2, 73, 0)] σ (fun rv σ2 => G 36 [some (2, 77, 0), some (2, 3, 0), some (2, 73, 0), some (0, 0, a3), some (0, 0, a4), some (0, 0, a5), some (0, 0, a6)] (rv.toList ++ [(0, 0, a6), (2, 78, 0)]) σ2)) : G 26 [some (2, 77, 0), some (2, 3, 0), some (2, 73, 0), some (0, 0, a3), some (0, 0, a4), some (0, 0, a5), some (0, 0, a6)] [] σ := fw_on hG [3, 19, 26, 36, 39, 47, 60, 63] 200 h
theorem fs_hear_36 {G : fw_K} {R : fw_KR} (hG : fw_cls st_hear R G) {a3 a4 a5 a6 b0 b1 : Int} {σ : ab_SG} (h : sp_put78 [(2, 78, 0), (0, 0, b1), (1, 0, b0)] σ (fun rv σ2 => G 39 [some (2, 77, 0), some (2, 3, 0), some (2, 73, 0), some (0, 0, a3), some (0, 0, a4), some (0, 0, a5), some (0, 0, a6)] (rv.toList ++ []) σ2)) : G 36 [some (2, 77, 0), some (2, 3, 0), some (2, 73, 0), some (0, 0, a3), some (0, 0, a4), some (0, 0, a5), some (0, 0, a6)] [(1, 0, b0), (0, 0, b1), (2, 78, 0)] σ := fw_on hG [3, 19, 26, 36, 39, 47, 60, 63] 200 h
theorem fs_hear_39 {G : fw_K} {R : fw_KR} (hG : fw_cls st_hear R G) {a3 a4 a5 a6 : Int} {σ : ab_SG} (h : sp_listen [(2, 73, 0), (2, 3, 0), (0, 0, a4), (0, 0, 0)] σ (fun rv σ2 => G 47 [some (2, 77, 0), some (2, 3, 0), some (2, 73, 0), some (0, 0, a3), some (0, 0, a4), some (0, 0, a5), some (0, 0, a6)] (rv.toList ++ []) σ2)) : G 39 [some (2, 77, 0), some (2, 3, 0), some (2, 73, 0), some (0, 0, a3), some (0, 0, a4), some (0, 0, a5), some (0, 0, a6)] [] σ := fw_on hG [3, 19, 26, 36, 39, 47, 60, 63] 200 h
theorem fs_hear_47 {G : fw_K} {R : fw_KR} (hG : fw_cls st_hear R G) {a3 a4 a5 a6 : Int} {σ : ab_SG} (h : sp_chance [(2, 73, 0)] σ (fun rv σ2 => G 60 [some (2, 77, 0), some (2, 3, 0), some (2, 73, 0), some (0, 0, a3), some (0, 0, a4), some (0, 0, a5), some (0, 0, a6)] (rv.toList ++ [(0, 0, 10 + a6), (2, 78, 0)]) σ2)) : G 47 [some (2, 77, 0), some (2, 3, 0), some (2, 73, 0), some (0, 0, a3), some (0, 0, a4), some (0, 0, a5), some (0, 0, a6)] [] σ := fw_on hG [3, 19, 26, 36, 39, 47, 60, 63] 200 h
theorem fs_hear_60 {G : fw_K} {R : fw_KR} (hG : fw_cls st_hear R G) {a3 a4 a5 a6 b0 b1 : Int} {σ : ab_SG} (h : sp_put78 [(2, 78, 0), (0, 0, b1), (1, 0, b0)] σ (fun rv σ2 => G 63 [some (2, 77, 0), some (2, 3, 0), some (2, 73, 0), some (0, 0, a3), some (0, 0, a4), some (0, 0, a5), some (0, 0, a6)] (rv.toList ++ []) σ2)) : G 60 [some (2, 77, 0), some (2, 3, 0), some (2, 73, 0), some (0, 0, a3), some (0, 0, a4), some (0, 0, a5), some (0, 0, a6)] [(1, 0, b0), (0, 0, b1), (2, 78, 0)] σ := fw_on hG [3, 19, 26, 36, 39, 47, 60, 63] 200 h
theorem fs_hear_63 {G : fw_K} {R : fw_KR} (hG : fw_cls st_hear R G) {a3 a4 a5 a6 : Int} {σ : ab_SG} (h : G 3 [some (2, 77, 0), some (2, 3, 0), some (2, 73, 0), some (0, 0, a3), some (0, 0, a4), some (0, 0, a5), some (0, 0, a6 + 1)] [] σ) : G 63 [some (2, 77, 0), some (2, 3, 0), some (2, 73, 0), some (0, 0, a3), some (0, 0, a4), some (0, 0, a5), some (0, 0, a6)] [] σ := fw_on hG [3, 19, 26, 36, 39, 47, 60, 63] 200 h
abbrev fk_canBid : List fw_CR := [(166, 1, true, 6, 0, sp_isClue3), (173, 1, true, 6, 0, sp_isPerson3), (184, 1, false, 0, 0, sp_isBid)]
abbrev st_canBid : fw_K → fw_KR → fw_K := fw_st vwCl nn_sh nn_kd fw_kv fw_wc (nn_KI1.map (fun x => x.1)) (nn_KJ1.map (fun x => x.1)) (nn_PF1.map (fun x => x.1)) (nn_PS1.map (fun x => x.1)) fk_canBid 2 nn_dt91 5 1
theorem fs_canBid_0 {G : fw_K} {R : fw_KR} (hG : fw_cls st_canBid R G) {p q n c : Int} {σ : ab_SG} (h : sp_isPerson3 [(2, 3, 0), (0, 0, p)] σ (fun rv σ2 => G 8 [some (2, 0, 0), some (0, 0, p), some (0, 0, q), some (0, 0, n), some (0, 0, c)] (rv.toList ++ []) σ2)) : G 0 [some (2, 0, 0), some (0, 0, p), some (0, 0, q), some (0, 0, n), some (0, 0, c)] [] σ := fw_on hG [8, 19, 35, 38, 47] 200 h
theorem fs_canBid_8 {G : fw_K} {R : fw_KR} (hG : fw_cls st_canBid R G) {a1 a2 a3 a4 b0 : Int} {σ : ab_SG} (h : (fw_c b0 = 0 → (0 ≤ fw_c 0 ∧ fw_c 0 ≤ 1) ∧ R (some (0, 0, 0)) σ) ∧ (fw_c b0 ≠ 0 → sp_isPerson3 [(2, 3, 0), (0, 0, a2)] σ (fun rv σ2 => G 19 [some (2, 0, 0), some (0, 0, a1), some (0, 0, a2), some (0, 0, a3), some (0, 0, a4)] (rv.toList ++ []) σ2))) : G 8 [some (2, 0, 0), some (0, 0, a1), some (0, 0, a2), some (0, 0, a3), some (0, 0, a4)] [(0, 0, b0)] σ := fw_on hG [8, 19, 35, 38, 47] 200 h
theorem fs_canBid_19 {G : fw_K} {R : fw_KR} (hG : fw_cls st_canBid R G) {a1 a2 a3 a4 b0 : Int} {σ : ab_SG} (h : (fw_c b0 = 0 → (0 ≤ fw_c 0 ∧ fw_c 0 ≤ 1) ∧ R (some (0, 0, 0)) σ) ∧ (fw_c b0 ≠ 0 → (fw_c a1 = fw_c a2 → (0 ≤ fw_c 0 ∧ fw_c 0 ≤ 1) ∧ R (some (0, 0, 0)) σ) ∧ (fw_c a1 ≠ fw_c a2 → (fw_c a3 = 0 → G 38 [some (2, 0, 0), some (0, 0, a1), some (0, 0, a2), some (0, 0, a3), some (0, 0, a4)] [] σ) ∧ (fw_c a3 ≠ 0 → sp_isBid [(0, 0, a3)] σ (fun rv σ2 => G 35 [some (2, 0, 0), some (0, 0, a1), some (0, 0, a2), some (0, 0, a3), some (0, 0, a4)] (rv.toList ++ []) σ2))))) : G 19 [some (2, 0, 0), some (0, 0, a1), some (0, 0, a2), some (0, 0, a3), some (0, 0, a4)] [(0, 0, b0)] σ := fw_on hG [8, 19, 35, 38, 47] 200 h
theorem fs_canBid_38 {G : fw_K} {R : fw_KR} (hG : fw_cls st_canBid R G) {a1 a2 a3 a4 : Int} {σ : ab_SG} (h : sp_isClue3 [(2, 3, 0), (0, 0, a4)] σ (fun rv σ2 => G 47 [some (2, 0, 0), some (0, 0, a1), some (0, 0, a2), some (0, 0, a3), some (0, 0, a4)] (rv.toList ++ []) σ2)) : G 38 [some (2, 0, 0), some (0, 0, a1), some (0, 0, a2), some (0, 0, a3), some (0, 0, a4)] [] σ := fw_on hG [8, 19, 35, 38, 47] 200 h
theorem fs_canBid_35 {G : fw_K} {R : fw_KR} (hG : fw_cls st_canBid R G) {a1 a2 a3 a4 b0 : Int} {σ : ab_SG} (h : (fw_c b0 = 0 → (0 ≤ fw_c 0 ∧ fw_c 0 ≤ 1) ∧ R (some (0, 0, 0)) σ) ∧ (fw_c b0 ≠ 0 → G 38 [some (2, 0, 0), some (0, 0, a1), some (0, 0, a2), some (0, 0, a3), some (0, 0, a4)] [] σ)) : G 35 [some (2, 0, 0), some (0, 0, a1), some (0, 0, a2), some (0, 0, a3), some (0, 0, a4)] [(0, 0, b0)] σ := fw_on hG [8, 19, 35, 38, 47] 200 h
theorem fs_canBid_47 {G : fw_K} {R : fw_KR} (hG : fw_cls st_canBid R G) {a1 a2 a3 a4 b0 : Int} {σ : ab_SG} (h : (fw_c b0 = 0 → (0 ≤ fw_c 0 ∧ fw_c 0 ≤ 1) ∧ R (some (0, 0, 0)) σ) ∧ (fw_c b0 ≠ 0 → (0 ≤ fw_c 1 ∧ fw_c 1 ≤ 1) ∧ R (some (0, 0, 1)) σ)) : G 47 [some (2, 0, 0), some (0, 0, a1), some (0, 0, a2), some (0, 0, a3), some (0, 0, a4)] [(0, 0, b0)] σ := fw_on hG [8, 19, 35, 38, 47] 200 h
abbrev fk_weigh : List fw_CR := [(169, 1, true, 6, 1, sp_setOf3), (463, 5, true, 0, 4, sp_hear), (467, 1, true, 0, 2, sp_doBest)]
abbrev st_weigh : fw_K → fw_KR → fw_K := fw_st vwCl nn_sh nn_kd fw_kv fw_wc (nn_KI1.map (fun x => x.1)) (nn_KJ1.map (fun x => x.1)) (nn_PF1.map (fun x => x.1)) (nn_PS1.map (fun x => x.1)) fk_weigh 5 nn_dt92 4 4
theorem fs_weigh_0 {G : fw_K} {R : fw_KR} (hG : fw_cls st_weigh R G) {p q c : Int} {σ : ab_SG} (h : sp_setOf3 [(2, 3, 0), (0, 0, c)] σ (fun rv σ2 => G 22 [some (2, 0, 0), some (0, 0, p), some (0, 0, q), some (0, 0, c)] (rv.toList ++ [(0, 0, q), (0, 0, p), (2, 73, 0), (2, 3, 0), (2, 77, 0)]) σ2)) : G 0 [some (2, 0, 0), some (0, 0, p), some (0, 0, q), some (0, 0, c)] [] σ := fw_on hG [22, 25, 39] 200 h
theorem fs_weigh_22 {G : fw_K} {R : fw_KR} (hG : fw_cls st_weigh R G) {a1 a2 a3 b0 b1 b2 : Int} {σ : ab_SG} (h : sp_hear [(2, 77, 0), (2, 3, 0), (2, 73, 0), (0, 0, b2), (0, 0, b1), (0, 0, b0)] σ (fun rv σ2 => G 25 [some (2, 0, 0), some (0, 0, a1), some (0, 0, a2), some (0, 0, a3)] (rv.toList ++ []) σ2)) : G 22 [some (2, 0, 0), some (0, 0, a1), some (0, 0, a2), some (0, 0, a3)] [(0, 0, b0), (0, 0, b1), (0, 0, b2), (2, 73, 0), (2, 3, 0), (2, 77, 0)] σ := fw_on hG [22, 25, 39] 200 h
theorem fs_weigh_25 {G : fw_K} {R : fw_KR} (hG : fw_cls st_weigh R G) {a1 a2 a3 : Int} {σ : ab_SG} (h : sp_doBest [(2, 77, 0), (0, 0, σ 3 14)] σ (fun rv σ2 => G 39 [some (2, 0, 0), some (0, 0, a1), some (0, 0, a2), some (0, 0, a3)] (rv.toList ++ []) σ2)) : G 25 [some (2, 0, 0), some (0, 0, a1), some (0, 0, a2), some (0, 0, a3)] [] σ := fw_on hG [22, 25, 39] 200 h
theorem fs_weigh_39 {G : fw_K} {R : fw_KR} (hG : fw_cls st_weigh R G) {a1 a2 a3 : Int} {σ : ab_SG} (h : R none σ) : G 39 [some (2, 0, 0), some (0, 0, a1), some (0, 0, a2), some (0, 0, a3)] [] σ := fw_on hG [22, 25, 39] 200 h
section
variable {l : Launch} {cy : Nat → ClassId} {ad wr cr : Nat → Nat} {D : va_G}
theorem fm_at78 (hinj : nn_inj ad) : fw_H l cy ad wr cr D 87 0 (atl_k 78 20) := fw_mk hinj (⟨"NameNotes", "at", "([JI)J"⟩, prog_1_method_85_code, 2, (Option.some Jvm.ClassFile.FieldType.long), 2, false, 2) rfl rfl nn_KI1_ok nn_KJ1_ok nn_PF1_ok nn_PS1_ok (by decide +kernel) rfl rfl (fun _ h => absurd h List.not_mem_nil) (fun as σ K h => by
  obtain ⟨x, rfl, h1, h2⟩ := h
  exact ⟨rfl, fun G hG => atl_gen (k := 78) (n := 20) (K := K) (σ := σ) (x := x) (by decide) (fs_at78_0 hG) h1 h2⟩)
theorem fm_at79 (hinj : nn_inj ad) : fw_H l cy ad wr cr D 87 0 (atl_k 79 20) := fw_mk hinj (⟨"NameNotes", "at", "([JI)J"⟩, prog_1_method_85_code, 2, (Option.some Jvm.ClassFile.FieldType.long), 2, false, 2) rfl rfl nn_KI1_ok nn_KJ1_ok nn_PF1_ok nn_PS1_ok (by decide +kernel) rfl rfl (fun _ h => absurd h List.not_mem_nil) (fun as σ K h => by
  obtain ⟨x, rfl, h1, h2⟩ := h
  exact ⟨rfl, fun G hG => atl_gen (k := 79) (n := 20) (K := K) (σ := σ) (x := x) (by decide) (fs_at79_0 hG) h1 h2⟩)
theorem fm_at76 (hinj : nn_inj ad) : fw_H l cy ad wr cr D 87 0 (atl_k 76 9) := fw_mk hinj (⟨"NameNotes", "at", "([JI)J"⟩, prog_1_method_85_code, 2, (Option.some Jvm.ClassFile.FieldType.long), 2, false, 2) rfl rfl nn_KI1_ok nn_KJ1_ok nn_PF1_ok nn_PS1_ok (by decide +kernel) rfl rfl (fun _ h => absurd h List.not_mem_nil) (fun as σ K h => by
  obtain ⟨x, rfl, h1, h2⟩ := h
  exact ⟨rfl, fun G hG => atl_gen (k := 76) (n := 9) (K := K) (σ := σ) (x := x) (by decide) (fs_at76_0 hG) h1 h2⟩)
theorem fm_atj (hinj : nn_inj ad) : fw_H l cy ad wr cr D 87 0 sp_atj := fw_H_of (List.forall_mem_cons.mpr ⟨fm_at78 hinj, List.forall_mem_cons.mpr ⟨fm_at79 hinj, List.forall_mem_cons.mpr ⟨fm_at76 hinj, (fun _ h => absurd h List.not_mem_nil)⟩⟩⟩)
theorem fm_put78 (hinj : nn_inj ad) : fw_H l cy ad wr cr D 26 0 (putl_k 78 20) := fw_mk hinj (⟨"NameNotes", "put", "([JIJ)V"⟩, prog_1_method_87_code, 4, (Option.none : Option Jvm.ClassFile.FieldType), 3, false, 4) rfl rfl nn_KI1_ok nn_KJ1_ok nn_PF1_ok nn_PS1_ok (by decide +kernel) rfl rfl (fun _ h => absurd h List.not_mem_nil) (fun as σ K h => by
  obtain ⟨x, v, rfl, h1, h2⟩ := h
  exact ⟨rfl, fun G hG => put_gen (k := 78) (n := 20) (K := K) (σ := σ) (x := x) (c := fw_d v) (by decide) (fs_put78_0 hG) h1 h2⟩)
theorem fm_put79 (hinj : nn_inj ad) : fw_H l cy ad wr cr D 26 0 (putl_k 79 20) := fw_mk hinj (⟨"NameNotes", "put", "([JIJ)V"⟩, prog_1_method_87_code, 4, (Option.none : Option Jvm.ClassFile.FieldType), 3, false, 4) rfl rfl nn_KI1_ok nn_KJ1_ok nn_PF1_ok nn_PS1_ok (by decide +kernel) rfl rfl (fun _ h => absurd h List.not_mem_nil) (fun as σ K h => by
  obtain ⟨x, v, rfl, h1, h2⟩ := h
  exact ⟨rfl, fun G hG => put_gen (k := 79) (n := 20) (K := K) (σ := σ) (x := x) (c := fw_d v) (by decide) (fs_put79_0 hG) h1 h2⟩)
theorem fm_put80 (hinj : nn_inj ad) : fw_H l cy ad wr cr D 27 0 (put_k 80 20) := fw_mk hinj (⟨"NameNotes", "put", "([III)V"⟩, prog_1_method_86_code, 3, (Option.none : Option Jvm.ClassFile.FieldType), 3, false, 4) rfl rfl nn_KI1_ok nn_KJ1_ok nn_PF1_ok nn_PS1_ok (by decide +kernel) rfl rfl (fun _ h => absurd h List.not_mem_nil) (fun as σ K h => by
  obtain ⟨x, v, rfl, h1, h2⟩ := h
  exact ⟨rfl, fun G hG => put_gen (k := 80) (n := 20) (K := K) (σ := σ) (x := x) (c := fw_c v) (by decide) (fs_put80_0 hG) h1 h2⟩)
theorem fm_at80 (hinj : nn_inj ad) : fw_H l cy ad wr cr D 29 0 (at_k 80 20) := fw_mk hinj (⟨"NameNotes", "at", "([II)I"⟩, prog_1_method_84_code, 2, (Option.some Jvm.ClassFile.FieldType.int), 2, false, 0) rfl rfl nn_KI1_ok nn_KJ1_ok nn_PF1_ok nn_PS1_ok (by decide +kernel) rfl rfl (fun _ h => absurd h List.not_mem_nil) (fun as σ K h => by
  obtain ⟨x, rfl, h1, h2⟩ := h
  exact ⟨rfl, fun G hG => at_gen (k := 80) (n := 20) (K := K) (σ := σ) (x := x) (by decide) (fs_at80_0 hG) h1 h2⟩)
theorem fm_speakBest (hinj : nn_inj ad) : fw_H l cy ad wr cr D 95 1 sp_speakBest := fw_mk hinj (⟨"NameNotes$Duel", "speakBest", "(III)V"⟩, prog_2_method_4_code, 11, (Option.none : Option Jvm.ClassFile.FieldType), 3, true, 4) rfl rfl nn_KI10_ok nn_KJ10_ok nn_PF10_ok nn_PS10_ok (by decide +kernel) rfl rfl (List.forall_mem_cons.mpr ⟨fw_row nn_PM10_ok (x := 35) (k := 2) (mn := 26) (np := 3) (ob := false) (ci := 0) (⟨"NameNotes", "put", "([JIJ)V"⟩, prog_1_method_87_code, 4, (Option.none : Option Jvm.ClassFile.FieldType), 3, false, 4) rfl (by decide +kernel) rfl rfl (by decide) (fun q => by cases q) (fm_put79 hinj), (List.forall_mem_cons.mpr ⟨fw_row nn_PM10_ok (x := 45) (k := 2) (mn := 87) (np := 2) (ob := false) (ci := 0) (⟨"NameNotes", "at", "([JI)J"⟩, prog_1_method_85_code, 2, (Option.some Jvm.ClassFile.FieldType.long), 2, false, 2) rfl (by decide +kernel) rfl rfl (by decide) (fun q => by cases q) (fm_atj hinj), (List.forall_mem_cons.mpr ⟨fw_row nn_PM10_ok (x := 51) (k := 2) (mn := 27) (np := 3) (ob := false) (ci := 0) (⟨"NameNotes", "put", "([III)V"⟩, prog_1_method_86_code, 3, (Option.none : Option Jvm.ClassFile.FieldType), 3, false, 4) rfl (by decide +kernel) rfl rfl (by decide) (fun q => by cases q) (fm_put80 hinj), (fun _ h => absurd h List.not_mem_nil)⟩)⟩)⟩) (fun as σ K h => by
  obtain ⟨side, n, m, a, b, c, rfl, ⟨rfl, rfl, rfl⟩, ⟨hs, hn, hm⟩, hC, hV, h⟩ := h
  unfold du_u dl_r dl_st at h
  obtain ⟨i, ei⟩ : ∃ i : Nat, i = 10 * side + n := ⟨_, rfl⟩
  obtain ⟨o, eo⟩ : ∃ o : Nat, o = 10 - 10 * side := ⟨_, rfl⟩
  rw [← ei, ← eo] at h
  rw [← eo] at hC hV
  obtain ⟨V, eV⟩ : ∃ V : Nat → Int, V = fun b => σ 79 (o + b) := ⟨_, rfl⟩
  have hVb : ∀ b : Nat, σ 79 (o + b) = V b := fun b => by rw [eV]
  rw [← eV] at h
  generalize hR : dl_s 976299632280 V m (if n = 0 then -1 else 976299632280 - σ 78 (o + n), 0) = R at h
  have ci : fw_c ((side : Int) * 10 + (n : Int)) = (i : Int) := by
    rw [show (side : Int) * 10 + (n : Int) = (i : Int) by omega]
    exact fw_s (by omega) (by omega)
  have cj : ∀ b : Nat, b < 10 → fw_c ((1 - (side : Int)) * 10 + (b : Int)) = ((o + b : Nat) : Int) := fun b hb => by
    rw [show (1 - (side : Int)) * 10 + (b : Int) = ((o + b : Nat) : Int) by omega]
    exact fw_s (by omega) (by omega)
  refine ⟨rfl, fun G hG => ?_⟩
  have loop : ∀ (f b : Nat) (v mv : Int) (o3 o6 o9 o10 : Option ab_AV), b = f → b ≤ m → (-1 ≤ v ∧ v ≤ 976299632280) → (0 ≤ mv ∧ mv ≤ 9) → dl_s 976299632280 V b (v, mv) = R → G 41 [some (2, 77, 0), some (0, 0, (side : Int)), some (0, 0, (n : Int)), o3, some (0, 0, (1 - (side : Int)) * 10), some (1, 0, v), o6, some (0, 0, mv), some (0, 0, (b : Int)), o9, o10] [] σ := by
    intro f
    induction f with
    | zero =>
      intro b v mv o3 o6 o9 o10 hb hbm hv hmv e
      have cb : fw_c (b : Int) = (b : Int) := oz_c9 b (by omega)
      have e2 : (v, mv) = R := by rw [← e, hb]; rfl
      refine fs_speakBest_41 hG ?_
      rw [cb]
      refine ⟨fun _ => ⟨_, _, rfl, fun _ => ?_, fun z => absurd (by rw [ci]; omega) z⟩, fun z => absurd z (by omega)⟩
      rw [ci, Int.toNat_natCast, fw_d_id (x := v) (by omega) (by omega)]
      refine fs_speakBest_101 hG ⟨_, _, rfl, fun _ => ?_, fun z => absurd (by rw [ci]; omega) z⟩
      rw [ci, Int.toNat_natCast, fw_s (x := mv) (by omega) (by omega)]
      refine fs_speakBest_116 hG ?_
      rw [← e2] at h
      exact h
    | succ f ih =>
      intro b v mv o3 o6 o9 o10 hb hbm hv hmv e
      subst hb
      have cb : fw_c ((f + 1 : Nat) : Int) = ((f + 1 : Nat) : Int) := oz_c9 (f + 1) (by omega)
      have vb := hV (f + 1) (by omega) hbm
      rw [hVb (f + 1)] at vb
      refine fs_speakBest_41 hG ?_
      rw [cb]
      refine ⟨fun z => absurd z (by omega), fun _ => ⟨(79, 20), by decide, _, rfl, fun _ => ?_, fun z => absurd (by rw [cj (f + 1) (by omega)]; show _ ∧ _ < (20 : Int); omega) z⟩⟩
      rw [cj (f + 1) (by omega), Int.toNat_natCast]
      refine fs_speakBest_61 hG ?_
      rw [hVb (f + 1), fw_d_id (x := 976299632280 - V (f + 1)) (by omega) (by omega), fw_d_id (x := v) (by omega) (by omega)]
      rw [dl_ss] at e
      refine ⟨fun z => fs_speakBest_80 hG ?_, fun z => fs_speakBest_80 hG ?_⟩
      · rw [if_neg (by omega)] at e
        have g := ih f v mv o3 o6 (some (1, 0, 976299632280 - V (f + 1))) none rfl (by omega) hv hmv e
        rw [show ((f : Nat) : Int) = ((f + 1 : Nat) : Int) + (-1) by omega] at g
        exact g
      · rw [if_pos z] at e
        have g := ih f (976299632280 - V (f + 1)) ((f + 1 : Nat) : Int) o3 none (some (1, 0, 976299632280 - V (f + 1))) none rfl (by omega) (by omega) (by omega) e
        rw [show ((f : Nat) : Int) = ((f + 1 : Nat) : Int) + (-1) by omega] at g
        exact g
  refine fs_speakBest_0 hG ?_
  rw [oz_c9 n hn]
  refine ⟨fun z => fs_speakBest_33 hG ?_, fun z => ⟨(78, 20), by decide, _, rfl, fun _ => ?_, fun y => absurd (by rw [cj n hn]; show _ ∧ _ < (20 : Int); omega) y⟩⟩
  · rw [if_pos (show n = 0 by omega)] at hR
    exact loop m m (-1) 0 _ _ _ _ rfl (Nat.le_refl m) (by decide) (by decide) hR
  · rw [cj n hn, Int.toNat_natCast]
    rw [if_neg (show ¬ n = 0 by omega)] at hR
    have b := hC (by omega)
    exact fs_speakBest_26 hG (fs_speakBest_33 hG (loop m m (976299632280 - σ 78 (o + n)) 0 _ _ _ _ rfl (Nat.le_refl m) (by omega) (by decide) hR)))
theorem fm_doBest (hinj : nn_inj ad) : fw_H l cy ad wr cr D 94 2 sp_doBest := fw_mk hinj (⟨"NameNotes$Duel", "doBest", "(I)V"⟩, prog_2_method_3_code, 3, (Option.none : Option Jvm.ClassFile.FieldType), 1, true, 4) rfl rfl nn_KI10_ok nn_KJ10_ok nn_PF10_ok nn_PS10_ok (by decide +kernel) rfl rfl (List.forall_mem_cons.mpr ⟨fw_row nn_PM10_ok (x := 39) (k := 0) (mn := 95) (np := 3) (ob := true) (ci := 0) (⟨"NameNotes$Duel", "speakBest", "(III)V"⟩, prog_2_method_4_code, 11, (Option.none : Option Jvm.ClassFile.FieldType), 3, true, 4) rfl (by decide +kernel) rfl rfl (by decide) (fun _ => ⟨_, _, rfl⟩) (fm_speakBest hinj), (fun _ h => absurd h List.not_mem_nil)⟩) (fun as σ K h => by
  obtain ⟨f, rfl, hf, hC, h⟩ := h
  have c9 : fw_c 9 = 9 := fw_s (by decide) (by decide)
  refine ⟨rfl, fun G hG => fs_doBest_0 hG ?_⟩
  have rd : ∀ {S : Nat → Prop} {τ : ab_SG} {st : (Nat → Int) × (Nat → Int)} {side m : Nat}, du_A S τ st → dl_B st → (∀ b : Nat, 1 ≤ b → b ≤ m → S (10 - 10 * side + b)) → ∀ b : Nat, 1 ≤ b → b ≤ m → 0 ≤ τ 79 (10 - 10 * side + b) ∧ τ 79 (10 - 10 * side + b) ≤ 976299632280 := by
    intro S τ st side m hA hB hS b h1 h2
    rw [(hA _ (hS b h1 h2)).1]
    exact (hB _).1
  have loop : ∀ (g k : Nat) (τ : ab_SG), k + g = 9 → ab_okM du_B σ τ → du_A (fun i => i < 20 ∧ 1 ≤ i % 10 ∧ i % 10 ≤ k) τ (dl_n (σ 78) f k) → G 2 [some (2, 77, 0), some (0, 0, (f : Int)), some (0, 0, ((k + 1 : Nat) : Int))] [] τ := by
    intro g
    induction g with
    | zero =>
      intro k τ hk M I
      have ek : k = 9 := by omega
      subst ek
      have B := dl_nb hC hf 9
      have e78 := du_B78 M
      have S0 : ∀ b : Nat, 1 ≤ b → b ≤ f → (fun i => i < 20 ∧ 1 ≤ i % 10 ∧ i % 10 ≤ 9) (10 - 10 * 0 + b) := fun b h1 h2 => by show _ ∧ _ ∧ _; omega
      have A1 := du_uA (n := 0) (C := σ 78) I e78 S0
      have B1 := dl_1b (n := 0) (m := f) B hC (show 0 < 2 by decide) (by decide) (by omega) (fun _ => hf.1) (fun z => absurd rfl z)
      have M1 := du_uM M 0 0 f
      have S1 : ∀ b : Nat, 1 ≤ b → b ≤ f → (fun i => (i < 20 ∧ 1 ≤ i % 10 ∧ i % 10 ≤ 9) ∨ i = 10 * 0 + 0) (10 - 10 * 1 + b) := fun b h1 h2 => Or.inl (by omega)
      have A2 := du_uA (n := 0) (C := σ 78) A1 (du_B78 M1) S1
      refine fs_doBest_2 hG ?_
      rw [c9, fw_s (x := ((9 + 1 : Nat) : Int)) (by decide) (by decide)]
      refine ⟨fun _ => ⟨0, 0, f, _, _, _, rfl, ⟨rfl, rfl, rfl⟩, ⟨by decide, by decide, by omega⟩, fun z => absurd rfl z, rd I B S0, fs_doBest_39 hG ⟨1, 0, f, _, _, _, rfl, ⟨rfl, rfl, rfl⟩, ⟨by decide, by decide, by omega⟩, fun z => absurd rfl z, rd A1 B1 S1, fs_doBest_46 hG (h _ (du_uM M1 1 0 f) (fun i hi => ?_))⟩⟩, fun z => absurd z (by decide)⟩
      have g := A2 i (by show (_ ∨ _) ∨ _; omega)
      rw [show (10 : Nat) = 9 + 1 from rfl, dl_nt]
      exact g
    | succ g ih =>
      intro k τ hk M I
      have B := dl_nb hC hf k
      have S0 : ∀ b : Nat, 1 ≤ b → b ≤ k → (fun i => i < 20 ∧ 1 ≤ i % 10 ∧ i % 10 ≤ k) (10 - 10 * 0 + b) := fun b h1 h2 => by show _ ∧ _ ∧ _; omega
      have A1 := du_uA (n := k + 1) (C := σ 78) I (du_B78 M) S0
      have B1 := dl_1b (n := k + 1) (m := k) B hC (show 0 < 2 by decide) (by omega) (by omega) (fun z => absurd z (Nat.succ_ne_zero k)) (fun _ => Nat.le_refl _)
      have M1 := du_uM M 0 (k + 1) k
      have S1 : ∀ b : Nat, 1 ≤ b → b ≤ k → (fun i => (i < 20 ∧ 1 ≤ i % 10 ∧ i % 10 ≤ k) ∨ i = 10 * 0 + (k + 1)) (10 - 10 * 1 + b) := fun b h1 h2 => Or.inl (by omega)
      have A2 := du_uA (n := k + 1) (C := σ 78) A1 (du_B78 M1) S1
      refine fs_doBest_2 hG ?_
      rw [c9, oz_c9 (k + 1) (by omega)]
      refine ⟨fun z => absurd z (by omega), fun _ => ⟨0, k + 1, k, _, _, _, rfl, ⟨rfl, rfl, by omega⟩, ⟨by decide, by omega, by omega⟩, fun _ => ?_, rd I B S0, fs_doBest_17 hG ⟨1, k + 1, k, _, _, _, rfl, ⟨rfl, rfl, by omega⟩, ⟨by decide, by omega, by omega⟩, fun _ => ?_, rd A1 B1 S1, fs_doBest_26 hG ?_⟩⟩⟩
      · rw [du_B78 M]
        exact hC _ (by omega) (by omega)
      · rw [du_B78 M1]
        exact hC _ (by omega) (by omega)
      · have w := ih (k + 1) _ (by omega) (du_uM M1 1 (k + 1) k) (fun i hi => by
          rw [dl_nn _ _ (by omega)]
          exact A2 i (by have := hi.1; have := hi.2.1; have := hi.2.2; show (_ ∨ _) ∨ _; omega))
        rw [show ((k + 1 + 1 : Nat) : Int) = ((k + 1 : Nat) : Int) + 1 from rfl] at w
        exact w
  exact loop 9 0 σ rfl (fw_okM_refl _ _) (fun i hi => absurd hi.2.1 (by have := hi.2.2; omega)))
theorem fm_dmove (hinj : nn_inj ad) : fw_H l cy ad wr cr D 96 1 sp_dmove := fw_mk hinj (⟨"NameNotes$Duel", "move", "(II)I"⟩, prog_2_method_8_code, 3, (Option.some Jvm.ClassFile.FieldType.int), 2, true, 0) rfl rfl nn_KI10_ok nn_KJ10_ok nn_PF10_ok nn_PS10_ok (by decide +kernel) rfl rfl (List.forall_mem_cons.mpr ⟨fw_row nn_PM10_ok (x := 61) (k := 2) (mn := 29) (np := 2) (ob := false) (ci := 0) (⟨"NameNotes", "at", "([II)I"⟩, prog_1_method_84_code, 2, (Option.some Jvm.ClassFile.FieldType.int), 2, false, 0) rfl (by decide +kernel) rfl rfl (by decide) (fun q => by cases q) (fm_at80 hinj), (fun _ h => absurd h List.not_mem_nil)⟩) (fun as σ K h => by
  obtain ⟨side, n, a, b, rfl, ⟨rfl, rfl⟩, ⟨hs, hn⟩, h⟩ := h
  have ci : fw_c ((side : Int) * 10 + (n : Int)) = ((10 * side + n : Nat) : Int) := by
    rw [show (side : Int) * 10 + (n : Int) = ((10 * side + n : Nat) : Int) by omega]
    exact fw_s (by omega) (by omega)
  refine ⟨rfl, fun G hG => fs_dmove_0 hG ⟨_, rfl, fun _ => ?_, fun z => absurd (by rw [ci]; omega) z⟩⟩
  rw [ci, Int.toNat_natCast]
  exact fs_dmove_13 hG h)
theorem fm_hear (hinj : nn_inj ad) : fw_H l cy ad wr cr D 93 4 sp_hear := fw_mk hinj (⟨"NameNotes$Duel", "hear", "(LNameNotes$Studio;LNameNotes$Ear;III)V"⟩, prog_2_method_2_code, 7, (Option.none : Option Jvm.ClassFile.FieldType), 5, true, 4) rfl rfl nn_KI10_ok nn_KJ10_ok nn_PF10_ok nn_PS10_ok (by decide +kernel) rfl rfl (List.forall_mem_cons.mpr ⟨fw_row nn_PM10_ok (x := 22) (k := 0) (mn := 83) (np := 3) (ob := true) (ci := 1) (⟨"NameNotes$Ear", "group", "(LNameNotes$Studio;II)V"⟩, prog_3_method_2_code, 5, (Option.none : Option Jvm.ClassFile.FieldType), 3, true, 4) rfl (by decide +kernel) rfl rfl (by decide) (fun _ => ⟨_, _, rfl⟩) (fm_group hinj), (List.forall_mem_cons.mpr ⟨fw_row nn_PM10_ok (x := 28) (k := 0) (mn := 84) (np := 3) (ob := true) (ci := 1) (⟨"NameNotes$Ear", "listen", "(LNameNotes$Studio;II)V"⟩, prog_3_method_3_code, 5, (Option.none : Option Jvm.ClassFile.FieldType), 3, true, 4) rfl (by decide +kernel) rfl rfl (by decide) (fun _ => ⟨_, _, rfl⟩) (fm_listen hinj), (List.forall_mem_cons.mpr ⟨fw_row nn_PM10_ok (x := 31) (k := 0) (mn := 85) (np := 0) (ob := true) (ci := 1) (⟨"NameNotes$Ear", "chance", "()J"⟩, prog_3_method_6_code, 4, (Option.some Jvm.ClassFile.FieldType.long), 0, true, 2) rfl (by decide +kernel) rfl rfl (by decide) (fun _ => ⟨_, _, rfl⟩) (fm_chance hinj), (List.forall_mem_cons.mpr ⟨fw_row nn_PM10_ok (x := 35) (k := 2) (mn := 26) (np := 3) (ob := false) (ci := 0) (⟨"NameNotes", "put", "([JIJ)V"⟩, prog_1_method_87_code, 4, (Option.none : Option Jvm.ClassFile.FieldType), 3, false, 4) rfl (by decide +kernel) rfl rfl (by decide) (fun q => by cases q) (fm_put78 hinj), (fun _ h => absurd h List.not_mem_nil)⟩)⟩)⟩)⟩) (fun as σ K h => by
  obtain ⟨A, p, q, s, rfl, hN, hp, hq, hs, ht, h⟩ := h
  have c9 : fw_c 9 = 9 := fw_s (by decide) (by decide)
  refine ⟨rfl, fun G hG => fs_hear_0 hG ?_⟩
  have loop : ∀ (f n : Nat) (τ : ab_SG), n + f = 10 → 1 ≤ n → ab_okM du_H σ τ → (∀ m : Nat, 1 ≤ m → m < n → τ 78 m = oz_odds A p (m : Int) s ∧ τ 78 (10 + m) = oz_odds A q (m : Int) s) → G 3 [some (2, 77, 0), some (2, 3, 0), some (2, 73, 0), some (0, 0, (p : Int)), some (0, 0, (q : Int)), some (0, 0, s), some (0, 0, (n : Int))] [] τ := by
    intro f
    induction f with
    | zero =>
      intro n τ hn h0 M I
      refine fs_hear_3 hG ?_
      rw [c9, fw_s (x := (n : Int)) (by omega) (by omega)]
      refine ⟨fun _ => h τ M (fun i hi hm => ?_), fun z => absurd z (by omega)⟩
      unfold v_ch
      by_cases c : i < 10
      · rw [if_pos c]
        exact (I i (by omega) (by omega)).1
      · rw [if_neg c]
        have e := (I (i - 10) (by omega) (by omega)).2
        rw [show 10 + (i - 10) = i by omega] at e
        exact e
    | succ f ih =>
      intro n τ hn h0 M I
      have cn : fw_c (n : Int) = (n : Int) := fw_s (by omega) (by omega)
      have c10 : fw_c (10 + (n : Int)) = ((10 + n : Nat) : Int) := by
        rw [show 10 + (n : Int) = ((10 + n : Nat) : Int) by omega]
        exact fw_s (by omega) (by omega)
      have Nt := oz_NCM M (by decide +kernel) hN
      have bp := oz_odds_b Nt hp (n := (n : Int)) hs
      have bq := oz_odds_b Nt hq (n := (n : Int)) hs
      have kb : ∀ {p : Nat}, p < 5 → ∀ y : Nat, y < 9 → 0 ≤ A 55 (9 * p + y) ∧ A 55 (9 * p + y) ≤ 9 := fun hp y hy => oz_kn_b Nt (by omega)
      have gb := fun x : Nat => oz_grp_b Nt.1 (n : Int) s x
      refine fs_hear_3 hG ?_
      rw [c9, cn]
      refine ⟨fun z => absurd z (by omega), fun _ => ⟨A, (n : Int), s, rfl, Nt, by omega, by omega, ht, fun σ1 M1 e1 I1 => fs_hear_19 hG ⟨A, p, 0, rfl, oz_NCM M1 (by decide +kernel) Nt, hp, by decide, fun σ2 M2 e2 I2 J2 => fs_hear_26 hG ⟨s, rfl, e2.trans e1, hs, fun x hx => by rw [I2 x, I1 x hx]; exact gb x, fun y hy => by rw [J2 y hy, if_neg (by rw [hs_0 y hy]; exact Bool.false_ne_true)]; exact kb hp y hy, fs_hear_36 hG ?_⟩⟩⟩⟩
      rw [du_ch J2 (fun x hx => (I2 x).trans (I1 x hx))]
      refine ⟨_, _, rfl, fun _ => ?_, fun z => absurd (by rw [cn]; omega) z⟩
      rw [cn, Int.toNat_natCast, fw_d_id (x := oz_odds A p (n : Int) s) (by omega) (by omega)]
      have Mm : ab_okM du_H τ (ab_ups σ2 78 n (oz_odds A p (n : Int) s)) := fw_okM_upa (on_trans (od_up M1 (by decide)) (od_up M2 (by decide))) (by decide)
      have m73 : (ab_ups σ2 78 n (oz_odds A p (n : Int) s)) 73 3 = s := by rw [ab_ups_ne (fun z => absurd z.1 (by decide))]; exact e2.trans e1
      have m75 : ∀ x : Nat, x < 9 → (ab_ups σ2 78 n (oz_odds A p (n : Int) s)) 75 x = oz_grp A (n : Int) s x := fun x hx => by rw [ab_ups_ne (fun z => absurd z.1 (by decide))]; exact (I2 x).trans (I1 x hx)
      have m78 : ∀ j : Nat, (ab_ups σ2 78 n (oz_odds A p (n : Int) s)) 78 j = if j = n then oz_odds A p (n : Int) s else τ 78 j := fun j => by
        by_cases c : j = n
        · rw [if_pos c, c, ab_ups_eq]
        · rw [if_neg c, ab_ups_ne (fun z => c z.2), du_78 M2, du_78 M1]
      generalize ab_ups σ2 78 n (oz_odds A p (n : Int) s) = ρ at Mm m73 m75 m78 ⊢
      refine fs_hear_39 hG ⟨A, q, 0, rfl, oz_NCM Mm (by decide +kernel) Nt, hq, by decide, fun σ3 M3 e3 I3 J3 => fs_hear_47 hG ⟨s, rfl, e3.trans m73, hs, fun x hx => by rw [I3 x, m75 x hx]; exact gb x, fun y hy => by rw [J3 y hy, if_neg (by rw [hs_0 y hy]; exact Bool.false_ne_true)]; exact kb hq y hy, fs_hear_60 hG ?_⟩⟩
      rw [du_ch J3 (fun x hx => (I3 x).trans (m75 x hx))]
      refine ⟨_, _, rfl, fun _ => ?_, fun z => absurd (by rw [c10]; omega) z⟩
      rw [c10, Int.toNat_natCast, fw_d_id (x := oz_odds A q (n : Int) s) (by omega) (by omega)]
      refine fs_hear_63 hG ?_
      have k := ih (n + 1) (ab_ups σ3 78 (10 + n) (oz_odds A q (n : Int) s)) (by omega) (by omega) (on_trans M (fw_okM_upa (on_trans Mm (od_up M3 (by decide))) (by decide))) (fun m h1 h2 => by
        rw [ab_ups_ne (b := m) (fun z => by have := z.2; omega), du_78 M3, m78 m]
        by_cases c : m = n
        · rw [if_pos c, c, ab_ups_eq]
          exact ⟨rfl, rfl⟩
        · rw [if_neg c, ab_ups_ne (fun z => by have := z.2; omega), du_78 M3, m78, if_neg (by omega)]
          exact I m h1 (by omega))
      rw [show ((n + 1 : Nat) : Int) = (n : Int) + 1 from rfl] at k
      exact k
  exact loop 9 1 σ rfl (Nat.le_refl 1) (fw_okM_refl _ _) (fun m h1 h2 => absurd h1 (by omega)))
theorem fm_canBid (hinj : nn_inj ad) : fw_H l cy ad wr cr D 91 2 sp_canBid := fw_mk hinj (⟨"NameNotes", "canBid", "(IIII)Z"⟩, prog_1_method_62_code, 5, (Option.some Jvm.ClassFile.FieldType.boolean), 4, true, 1) rfl rfl nn_KI1_ok nn_KJ1_ok nn_PF1_ok nn_PS1_ok (by decide +kernel) rfl rfl (List.forall_mem_cons.mpr ⟨fw_row nn_PM1_ok (x := 166) (k := 0) (mn := 63) (np := 1) (ob := true) (ci := 6) (⟨"NameNotes$Studio", "isClue", "(I)Z"⟩, prog_8_method_5_code, 2, (Option.some Jvm.ClassFile.FieldType.boolean), 1, true, 1) rfl (by decide +kernel) rfl rfl (by decide) (fun _ => ⟨_, _, rfl⟩) (fm_isClue3 hinj), (List.forall_mem_cons.mpr ⟨fw_row nn_PM1_ok (x := 173) (k := 0) (mn := 67) (np := 1) (ob := true) (ci := 6) (⟨"NameNotes$Studio", "isPerson", "(I)Z"⟩, prog_8_method_6_code, 2, (Option.some Jvm.ClassFile.FieldType.boolean), 1, true, 1) rfl (by decide +kernel) rfl rfl (by decide) (fun _ => ⟨_, _, rfl⟩) (fm_isPerson3 hinj), (List.forall_mem_cons.mpr ⟨fw_row nn_PM1_ok (x := 184) (k := 0) (mn := 71) (np := 1) (ob := false) (ci := 0) (⟨"NameNotes", "isBid", "(I)Z"⟩, prog_1_method_72_code, 1, (Option.some Jvm.ClassFile.FieldType.boolean), 1, false, 1) rfl (by decide +kernel) rfl rfl (by decide) (fun q => by cases q) (fm_isBid hinj), (fun _ h => absurd h List.not_mem_nil)⟩)⟩)⟩) (fun as σ K h => by
  obtain ⟨A, p, q, n, c, rfl, ⟨ep, eq, en, ec⟩, hN, h⟩ := h
  have no : ¬ v_bd A p q n c → (0 ≤ fw_c 0 ∧ fw_c 0 ≤ 1) ∧ K (some (0, 0, 0)) σ := fun z => ⟨fw_01, by rw [fw_bo_f z] at h; exact h⟩
  refine ⟨rfl, fun G hG => fs_canBid_0 hG ⟨p, rfl, fs_canBid_8 hG ?_⟩⟩
  rw [oz_c_pe hN ep]
  refine ⟨fun z => no (fun w => fw_bo_eq z w.1), fun z1 => ⟨q, rfl, fs_canBid_19 hG ?_⟩⟩
  rw [oz_c_pe hN eq]
  refine ⟨fun z => no (fun w => fw_bo_eq z w.2.1), fun z2 => ⟨fun z => no (fun w => w.2.2.1 (by rw [ep, eq] at z; exact z)), fun z3 => ?_⟩⟩
  rw [ep, eq] at z3
  have clue : (0 ≤ n ∧ n ≤ 9) → G 38 [some (2, 0, 0), some (0, 0, p), some (0, 0, q), some (0, 0, n), some (0, 0, c)] [] σ := fun hn => fs_canBid_38 hG ⟨A, c, rfl, ec, hN, fs_canBid_47 hG ⟨fun z => no (fun w => fw_bo_eq z w.2.2.2.2), fun z4 => ⟨by rw [fw_c1]; decide, by
    rw [fw_bo_t ⟨fw_bo_ne z1, fw_bo_ne z2, z3, hn, fw_bo_ne z4⟩] at h
    exact h⟩⟩⟩
  rw [en]
  refine ⟨fun z => clue (by omega), fun z => ⟨n, rfl, en, fs_canBid_35 hG ⟨fun y => no (fun w => fw_bo_eq y ⟨by have := w.2.2.2.1.1; omega, w.2.2.2.1.2⟩), fun y => clue (by have := fw_bo_ne y; omega)⟩⟩⟩)
theorem fm_weigh (hinj : nn_inj ad) : fw_H l cy ad wr cr D 92 5 sp_weigh := fw_mk hinj (⟨"NameNotes", "weigh", "(III)V"⟩, prog_1_method_66_code, 4, (Option.none : Option Jvm.ClassFile.FieldType), 3, true, 4) rfl rfl nn_KI1_ok nn_KJ1_ok nn_PF1_ok nn_PS1_ok (by decide +kernel) rfl rfl (List.forall_mem_cons.mpr ⟨fw_row nn_PM1_ok (x := 169) (k := 0) (mn := 64) (np := 1) (ob := true) (ci := 6) (⟨"NameNotes$Studio", "setOf", "(I)I"⟩, prog_8_method_8_code, 2, (Option.some Jvm.ClassFile.FieldType.int), 1, true, 0) rfl (by decide +kernel) rfl rfl (by decide) (fun _ => ⟨_, _, rfl⟩) (fm_setOf3 hinj), (List.forall_mem_cons.mpr ⟨fw_row nn_PM1_ok (x := 463) (k := 0) (mn := 93) (np := 5) (ob := true) (ci := 0) (⟨"NameNotes$Duel", "hear", "(LNameNotes$Studio;LNameNotes$Ear;III)V"⟩, prog_2_method_2_code, 7, (Option.none : Option Jvm.ClassFile.FieldType), 5, true, 4) rfl (by decide +kernel) rfl rfl (by decide) (fun _ => ⟨_, _, rfl⟩) (fm_hear hinj), (List.forall_mem_cons.mpr ⟨fw_row nn_PM1_ok (x := 467) (k := 0) (mn := 94) (np := 1) (ob := true) (ci := 0) (⟨"NameNotes$Duel", "doBest", "(I)V"⟩, prog_2_method_3_code, 3, (Option.none : Option Jvm.ClassFile.FieldType), 1, true, 4) rfl (by decide +kernel) rfl rfl (by decide) (fun _ => ⟨_, _, rfl⟩) (fm_doBest hinj), (fun _ h => absurd h List.not_mem_nil)⟩)⟩)⟩) (fun as σ K h => by
  obtain ⟨A, p, q, c, rfl, hN, hb, h⟩ := h
  have nn := N_n hN.1
  obtain ⟨h1, h2, h3, h4, h5⟩ := hb
  obtain ⟨p, rfl⟩ := Int.eq_ofNat_of_zero_le h1.1
  obtain ⟨q, rfl⟩ := Int.eq_ofNat_of_zero_le h2.1
  have fb := hN.2.1.2.2.2.2
  have e14 : ∀ τ : ab_SG, NC τ A → τ 3 14 = A 49 14 := fun τ t => t.2.2.2.2.2.1
  obtain ⟨f, ef⟩ := Int.eq_ofNat_of_zero_le (show 0 ≤ A 49 14 by omega)
  have cl := oz_clue hN.1 hN.2.1 h5.1 h5.2
  unfold v_du at h
  rw [ef] at h fb
  rw [Int.toNat_natCast, Int.toNat_natCast, Int.toNat_natCast] at h
  refine ⟨rfl, fun G hG => fs_weigh_0 hG ⟨A, c, rfl, hN, by omega, fs_weigh_22 hG ⟨A, p, q, v_set A c, rfl, hN, by omega, by omega, cl.1, cl.2, fun σ1 M1 I1 => fs_weigh_25 hG ?_⟩⟩⟩
  have N1 := oz_NCM M1 (by decide +kernel) hN
  have cb := v_chb hN (show p < 5 by omega) (show q < 5 by omega) cl.1
  rw [e14 σ1 N1, ef]
  refine ⟨f, rfl, by omega, fun i hi hm => by rw [I1 i hi hm]; exact cb i hi hm, fun σ2 M2 I2 => fs_weigh_39 hG (h σ2 (on_trans (od_up M1 (by decide)) (od_up M2 (by decide))) (fun i hi => ?_))⟩
  rw [← dl_nc I1 10]
  exact I2 i hi)
theorem du_B20 {σ A : ab_SG} {p q c : Int} (hN : NC σ A) (hb : v_bd A p q 0 c) : dl_B (v_du A p q c) := by
  have nn := N_n hN.1
  have fb := hN.2.1.2.2.2.2
  exact dl_nb (v_chb hN (by omega) (by omega) (oz_clue hN.1 hN.2.1 hb.2.2.2.2.1 hb.2.2.2.2.2).1) ⟨by omega, by omega⟩ 10
end
end
section
/-! the duel as the reference reckons it: odds in row 108, values in row 109, moves in row 111 -/
def dm_H : ab_ML := [(106, 1000000), (107, 1000000), (108, 1000000)]
def dm_B : ab_ML := [(109, 1000000), (111, 1000000)]
def dm_M : ab_ML := [(106, 1000000), (107, 1000000), (108, 1000000), (109, 1000000), (111, 1000000)]
def dm_N : ab_ML := [(93, 0), (106, 1000000), (107, 1000000), (108, 1000000), (109, 1000000), (111, 1000000)]
theorem dm_93 (σ : ab_SG) : ab_okM dm_N σ (ab_ups σ 93 0 0) := fun a b q => ab_ups_ne (fun z => q (93, 0) (by decide) ⟨z.1.symm, Or.inl z.2.symm⟩)
def dm_A (S : Nat → Prop) (τ : ab_SG) (st : (Nat → Int) × (Nat → Int)) : Prop := ∀ i : Nat, S i → τ 109 i = 2520 * st.1 i ∧ τ 111 i = st.2 i
theorem dm_op : ∀ k : Nat, k < 11 → fw_op 4 (k : Int) 10 = ((k % 10 : Nat) : Int) := by decide +kernel
theorem dm_108 {σ τ : ab_SG} (h : ab_okM on_M σ τ) (j : Nat) : τ 108 j = σ 108 j := h 108 j (fun q hq hh => by
  have : ∀ q ∈ on_M, q.1 ≠ 108 := by decide
  exact this q hq hh.1)
theorem dm_k {k : Nat} (hk : k ≠ 109 ∧ k ≠ 111) {σ τ : ab_SG} (h : ab_okM dm_B σ τ) (j : Nat) : τ k j = σ k j := h k j (fun q hq hh => by
  have : ∀ q ∈ dm_B, q.1 = 109 ∨ q.1 = 111 := by decide
  rcases this q hq with e | e
  · exact hk.1 (hh.1.symm.trans e)
  · exact hk.2 (hh.1.symm.trans e))
def sp_m_highest : fw_SP := fun as σ K => ∃ n : Nat, as = [(2, 93, 0), (0, 0, (n : Int))] ∧ n < 10 ∧ (n ≠ 0 → K (some (0, 0, ((n - 1 : Nat) : Int))) σ) ∧ (n = 0 → K (some (0, 0, σ 95 3)) σ)
def sp_m_layOdds : fw_SP := fun as σ K => ∃ (A : ab_SG) (p q : Nat) (c : Int), as = [(2, 93, 0), (0, 0, (p : Int)), (0, 0, (q : Int)), (0, 0, c)] ∧ NM σ A ∧ p < 5 ∧ q < 5 ∧ (0 ≤ c ∧ c < A 49 12) ∧ ∀ σ' : ab_SG, ab_okM dm_H σ σ' → (∀ i : Nat, i < 20 → 1 ≤ i % 10 → σ' 108 i = 2520 * v_ch A p q (v_set A c) i) → K none σ'
def sp_m_layBest : fw_SP := fun as σ K => ∃ (A : ab_SG) (p q c : Int), as = [(2, 93, 0), (0, 0, p), (0, 0, q), (0, 0, c)] ∧ NM σ A ∧ σ 95 3 = A 49 14 ∧ v_bd A p q 0 c ∧ ∀ σ' : ab_SG, ab_okM dm_M σ σ' → (∀ i : Nat, i < 20 → σ' 109 i = 2520 * (v_du A p q c).1 i ∧ σ' 111 i = (v_du A p q c).2 i) → K none σ'
theorem v_chm {σ A : ab_SG} (hN : NM σ A) {p q : Nat} (hp : p < 5) (hq : q < 5) {s : Int} (hs : 1 ≤ s ∧ s < 512) : dl_C (v_ch A p q s) := fun i _ _ => by
  unfold v_ch
  split
  · exact oz_odds_bm hN hp hs
  · exact oz_odds_bm hN hq hs
theorem dm_B20 {σ A : ab_SG} {p q c : Int} (hN : NM σ A) (hb : v_bd A p q 0 c) : dl_B (v_du A p q c) := by
  have nn := N_n hN.1
  have fb := hN.2.1.2.2.2.2
  exact dl_nb (v_chm hN (by omega) (by omega) (oz_clue hN.1 hN.2.1 hb.2.2.2.2.1 hb.2.2.2.2.2).1) ⟨by omega, by omega⟩ 10
abbrev fk_m_highest : List fw_CR := []
abbrev st_m_highest : fw_K → fw_KR → fw_K := fw_st vwCl nn_sh nn_kd fw_kv fw_wc (nn_KI20.map (fun x => x.1)) (nn_KJ20.map (fun x => x.1)) (nn_PF20.map (fun x => x.1)) (nn_PS20.map (fun x => x.1)) fk_m_highest 0 nn_dt298 2 0
theorem fs_m_highest_0 {G : fw_K} {R : fw_KR} (hG : fw_cls st_m_highest R G) {n : Int} {σ : ab_SG} (h : (fw_c n ≠ 0 → R (some (0, 0, n - 1)) σ) ∧ (fw_c n = 0 → (0 ≤ fw_c 3 ∧ fw_c 3 < ((474 : Nat) : Int)) ∧ (R (some (0, 0, σ 95 (fw_c 3).toNat)) σ))) : G 0 [some (2, 93, 0), some (0, 0, n)] [] σ := fw_on hG [] 200 h
abbrev fk_m_layOdds : List fw_CR := [(303, 1, true, 11, 1, sp_m_left), (355, 3, true, 11, 8, sp_m_oddsOf)]
abbrev st_m_layOdds : fw_K → fw_KR → fw_K := fw_st vwCl nn_sh nn_kd fw_kv fw_wc (nn_KI20.map (fun x => x.1)) (nn_KJ20.map (fun x => x.1)) (nn_PF20.map (fun x => x.1)) (nn_PS20.map (fun x => x.1)) fk_m_layOdds 9 nn_dt297 5 4
theorem fs_m_layOdds_0 {G : fw_K} {R : fw_KR} (hG : fw_cls st_m_layOdds R G) {p q c : Int} {σ : ab_SG} (h : G 3 [some (2, 93, 0), some (0, 0, p), some (0, 0, q), some (0, 0, c), some (0, 0, 1)] [] σ) : G 0 [some (2, 93, 0), some (0, 0, p), some (0, 0, q), some (0, 0, c), none] [] σ := fw_on hG [3, 25, 28, 47, 50] 200 h
theorem fs_m_layOdds_3 {G : fw_K} {R : fw_KR} (hG : fw_cls st_m_layOdds R G) {a1 a2 a3 a4 : Int} {σ : ab_SG} (h : (fw_c 9 < fw_c a4 → R none σ) ∧ (fw_c a4 ≤ fw_c 9 → sp_m_left [(2, 93, 0), (0, 0, a3)] σ (fun rv σ2 => G 25 [some (2, 93, 0), some (0, 0, a1), some (0, 0, a2), some (0, 0, a3), some (0, 0, a4)] (rv.toList ++ [(0, 0, a4), (0, 0, a1), (2, 93, 0), (0, 0, a4), (2, 108, 0)]) σ2))) : G 3 [some (2, 93, 0), some (0, 0, a1), some (0, 0, a2), some (0, 0, a3), some (0, 0, a4)] [] σ := fw_on hG [3, 25, 28, 47, 50] 200 h
theorem fs_m_layOdds_25 {G : fw_K} {R : fw_KR} (hG : fw_cls st_m_layOdds R G) {a1 a2 a3 a4 b0 b1 b2 b4 : Int} {σ : ab_SG} (h : sp_m_oddsOf [(2, 93, 0), (0, 0, b2), (0, 0, b1), (0, 0, b0)] σ (fun rv σ2 => G 28 [some (2, 93, 0), some (0, 0, a1), some (0, 0, a2), some (0, 0, a3), some (0, 0, a4)] (rv.toList ++ [(0, 0, b4), (2, 108, 0)]) σ2)) : G 25 [some (2, 93, 0), some (0, 0, a1), some (0, 0, a2), some (0, 0, a3), some (0, 0, a4)] [(0, 0, b0), (0, 0, b1), (0, 0, b2), (2, 93, 0), (0, 0, b4), (2, 108, 0)] σ := fw_on hG [3, 25, 28, 47, 50] 200 h
theorem fs_m_layOdds_28 {G : fw_K} {R : fw_KR} (hG : fw_cls st_m_layOdds R G) {a1 a2 a3 a4 b0 b1 : Int} {σ : ab_SG} (h : (0 ≤ fw_c b1 ∧ fw_c b1 < ((20 : Nat) : Int)) ∧ True ∧ (sp_m_left [(2, 93, 0), (0, 0, a3)] (ab_ups σ 108 (fw_c b1).toNat (fw_d b0)) (fun rv σ2 => G 47 [some (2, 93, 0), some (0, 0, a1), some (0, 0, a2), some (0, 0, a3), some (0, 0, a4)] (rv.toList ++ [(0, 0, a4), (0, 0, a2), (2, 93, 0), (0, 0, 10 + a4), (2, 108, 0)]) σ2))) : G 28 [some (2, 93, 0), some (0, 0, a1), some (0, 0, a2), some (0, 0, a3), some (0, 0, a4)] [(1, 0, b0), (0, 0, b1), (2, 108, 0)] σ := fw_on hG [3, 25, 28, 47, 50] 200 h
theorem fs_m_layOdds_47 {G : fw_K} {R : fw_KR} (hG : fw_cls st_m_layOdds R G) {a1 a2 a3 a4 b0 b1 b2 b4 : Int} {σ : ab_SG} (h : sp_m_oddsOf [(2, 93, 0), (0, 0, b2), (0, 0, b1), (0, 0, b0)] σ (fun rv σ2 => G 50 [some (2, 93, 0), some (0, 0, a1), some (0, 0, a2), some (0, 0, a3), some (0, 0, a4)] (rv.toList ++ [(0, 0, b4), (2, 108, 0)]) σ2)) : G 47 [some (2, 93, 0), some (0, 0, a1), some (0, 0, a2), some (0, 0, a3), some (0, 0, a4)] [(0, 0, b0), (0, 0, b1), (0, 0, b2), (2, 93, 0), (0, 0, b4), (2, 108, 0)] σ := fw_on hG [3, 25, 28, 47, 50] 200 h
theorem fs_m_layOdds_50 {G : fw_K} {R : fw_KR} (hG : fw_cls st_m_layOdds R G) {a1 a2 a3 a4 b0 b1 : Int} {σ : ab_SG} (h : (0 ≤ fw_c b1 ∧ fw_c b1 < ((20 : Nat) : Int)) ∧ True ∧ (G 3 [some (2, 93, 0), some (0, 0, a1), some (0, 0, a2), some (0, 0, a3), some (0, 0, a4 + 1)] [] (ab_ups σ 108 (fw_c b1).toNat (fw_d b0)))) : G 50 [some (2, 93, 0), some (0, 0, a1), some (0, 0, a2), some (0, 0, a3), some (0, 0, a4)] [(1, 0, b0), (0, 0, b1), (2, 108, 0)] σ := fw_on hG [3, 25, 28, 47, 50] 200 h
abbrev fk_m_layBest : List fw_CR := [(374, 3, true, 11, 9, sp_m_layOdds), (378, 1, true, 11, 0, sp_m_highest)]
abbrev st_m_layBest : fw_K → fw_KR → fw_K := fw_st vwCl nn_sh nn_kd fw_kv fw_wc (nn_KI20.map (fun x => x.1)) (nn_KJ20.map (fun x => x.1)) (nn_PF20.map (fun x => x.1)) (nn_PS20.map (fun x => x.1)) fk_m_layBest 10 nn_dt296 13 4
theorem fs_m_layBest_0 {G : fw_K} {R : fw_KR} (hG : fw_cls st_m_layBest R G) {p q c : Int} {σ : ab_SG} (h : sp_m_layOdds [(2, 93, 0), (0, 0, p), (0, 0, q), (0, 0, c)] σ (fun rv σ2 => G 7 [some (2, 93, 0), some (0, 0, p), some (0, 0, q), some (0, 0, c), none, none, none, none, none, none, none, none, none] (rv.toList ++ []) σ2)) : G 0 [some (2, 93, 0), some (0, 0, p), some (0, 0, q), some (0, 0, c), none, none, none, none, none, none, none, none, none] [] σ := fw_on hG [7, 10, 27, 74, 90, 92, 144] 200 h
theorem fs_m_layBest_7 {G : fw_K} {R : fw_KR} (hG : fw_cls st_m_layBest R G) {a3 : Int} {o1 o2 o4 o5 o6 o7 o8 o10 o11 o12 : Option ab_AV} {σ : ab_SG} (h : G 10 [some (2, 93, 0), o1, o2, some (0, 0, a3), some (0, 0, 1), o5, o6, o7, o8, none, o10, o11, o12] [] σ) : G 7 [some (2, 93, 0), o1, o2, some (0, 0, a3), o4, o5, o6, o7, o8, none, o10, o11, o12] [] σ := fw_on hG [7, 10, 27, 74, 90, 92, 144] 200 h
theorem fs_m_layBest_10 {G : fw_K} {R : fw_KR} (hG : fw_cls st_m_layBest R G) {a3 a4 : Int} {o1 o2 o5 o6 o7 o8 o10 o11 o12 : Option ab_AV} {σ : ab_SG} (h : (fw_c 10 < fw_c a4 → R none σ) ∧ (fw_c a4 ≤ fw_c 10 → fw_c 10 ≠ 0 ∧ (G 27 [some (2, 93, 0), o1, o2, some (0, 0, a3), some (0, 0, a4), some (0, 0, fw_op 4 a4 10), some (0, 0, 0), o7, o8, none, o10, o11, o12] [] σ))) : G 10 [some (2, 93, 0), o1, o2, some (0, 0, a3), some (0, 0, a4), o5, o6, o7, o8, none, o10, o11, o12] [] σ := fw_on hG [7, 10, 27, 74, 90, 92, 144] 200 h
theorem fs_m_layBest_27 {G : fw_K} {R : fw_KR} (hG : fw_cls st_m_layBest R G) {a3 a4 a5 a6 : Int} {o1 o2 o7 o8 o10 o11 o12 : Option ab_AV} {σ : ab_SG} (h : (fw_c 2 ≤ fw_c a6 → G 10 [some (2, 93, 0), o1, o2, some (0, 0, a3), some (0, 0, a4 + 1), some (0, 0, a5), some (0, 0, a6), o7, o8, none, o10, o11, o12] [] σ) ∧ (fw_c a6 < fw_c 2 → (fw_c a5 ≠ 0 → (0 ≤ fw_c ((10 - (10 * a6)) + a5) ∧ fw_c ((10 - (10 * a6)) + a5) < ((20 : Nat) : Int)) ∧ (G 74 [some (2, 93, 0), o1, o2, some (0, 0, a3), some (0, 0, a4), some (0, 0, a5), some (0, 0, a6), some (0, 0, (10 * a6) + a5), o8, none, o10, o11, o12] [(1, 0, 2460275073345600 - (σ 108 (fw_c ((10 - (10 * a6)) + a5)).toNat))] σ)) ∧ (fw_c a5 = 0 → G 74 [some (2, 93, 0), o1, o2, some (0, 0, a3), some (0, 0, a4), some (0, 0, a5), some (0, 0, a6), some (0, 0, (10 * a6) + a5), o8, none, o10, o11, o12] [(1, 0, (-1))] σ))) : G 27 [some (2, 93, 0), o1, o2, some (0, 0, a3), some (0, 0, a4), some (0, 0, a5), some (0, 0, a6), o7, o8, none, o10, o11, o12] [] σ := fw_on hG [7, 10, 27, 74, 90, 92, 144] 200 h
theorem fs_m_layBest_74 {G : fw_K} {R : fw_KR} (hG : fw_cls st_m_layBest R G) {a3 a4 a5 a6 a7 b0 : Int} {o1 o2 o8 o10 o11 o12 : Option ab_AV} {σ : ab_SG} (h : (0 ≤ fw_c a7 ∧ fw_c a7 < ((20 : Nat) : Int)) ∧ True ∧ (sp_m_highest [(2, 93, 0), (0, 0, a5)] (ab_ups σ 111 (fw_c a7).toNat (fw_c 0)) (fun rv σ2 => G 90 [some (2, 93, 0), o1, o2, some (0, 0, a3), some (0, 0, a4), some (0, 0, a5), some (0, 0, a6), some (0, 0, a7), some (1, 0, b0), none, o10, o11, o12] (rv.toList ++ []) σ2))) : G 74 [some (2, 93, 0), o1, o2, some (0, 0, a3), some (0, 0, a4), some (0, 0, a5), some (0, 0, a6), some (0, 0, a7), o8, none, o10, o11, o12] [(1, 0, b0)] σ := fw_on hG [7, 10, 27, 74, 90, 92, 144] 200 h
theorem fs_m_layBest_90 {G : fw_K} {R : fw_KR} (hG : fw_cls st_m_layBest R G) {a3 a4 a5 a6 a7 a8 b0 : Int} {o1 o2 o10 o11 o12 : Option ab_AV} {σ : ab_SG} (h : G 92 [some (2, 93, 0), o1, o2, some (0, 0, a3), some (0, 0, a4), some (0, 0, a5), some (0, 0, a6), some (0, 0, a7), some (1, 0, a8), none, some (0, 0, b0), o11, o12] [] σ) : G 90 [some (2, 93, 0), o1, o2, some (0, 0, a3), some (0, 0, a4), some (0, 0, a5), some (0, 0, a6), some (0, 0, a7), some (1, 0, a8), none, o10, o11, o12] [(0, 0, b0)] σ := fw_on hG [7, 10, 27, 74, 90, 92, 144] 200 h
theorem fs_m_layBest_92 {G : fw_K} {R : fw_KR} (hG : fw_cls st_m_layBest R G) {a3 a4 a5 a6 a7 a8 a10 : Int} {o1 o2 o11 o12 : Option ab_AV} {σ : ab_SG} (h : (fw_c a10 < fw_c 1 → (0 ≤ fw_c a7 ∧ fw_c a7 < ((20 : Nat) : Int)) ∧ True ∧ (G 27 [some (2, 93, 0), o1, o2, some (0, 0, a3), some (0, 0, a4), some (0, 0, a5), some (0, 0, a6 + 1), some (0, 0, a7), some (1, 0, a8), none, some (0, 0, a10), o11, o12] [] (ab_ups σ 109 (fw_c a7).toNat (fw_d a8)))) ∧ (fw_c 1 ≤ fw_c a10 → (0 ≤ fw_c ((10 - (10 * a6)) + a10) ∧ fw_c ((10 - (10 * a6)) + a10) < ((20 : Nat) : Int)) ∧ ((fw_d a8 < fw_d (2460275073345600 - (σ 109 (fw_c ((10 - (10 * a6)) + a10)).toNat)) → (0 ≤ fw_c a7 ∧ fw_c a7 < ((20 : Nat) : Int)) ∧ True ∧ (G 144 [some (2, 93, 0), o1, o2, some (0, 0, a3), some (0, 0, a4), some (0, 0, a5), some (0, 0, a6), some (0, 0, a7), some (1, 0, 2460275073345600 - (σ 109 (fw_c ((10 - (10 * a6)) + a10)).toNat)), none, some (0, 0, a10), some (1, 0, 2460275073345600 - (σ 109 (fw_c ((10 - (10 * a6)) + a10)).toNat)), none] [] (ab_ups σ 111 (fw_c a7).toNat (fw_c a10)))) ∧ (fw_d (2460275073345600 - (σ 109 (fw_c ((10 - (10 * a6)) + a10)).toNat)) ≤ fw_d a8 → G 144 [some (2, 93, 0), o1, o2, some (0, 0, a3), some (0, 0, a4), some (0, 0, a5), some (0, 0, a6), some (0, 0, a7), some (1, 0, a8), none, some (0, 0, a10), some (1, 0, 2460275073345600 - (σ 109 (fw_c ((10 - (10 * a6)) + a10)).toNat)), none] [] σ)))) : G 92 [some (2, 93, 0), o1, o2, some (0, 0, a3), some (0, 0, a4), some (0, 0, a5), some (0, 0, a6), some (0, 0, a7), some (1, 0, a8), none, some (0, 0, a10), o11, o12] [] σ := fw_on hG [7, 10, 27, 74, 90, 92, 144] 200 h
theorem fs_m_layBest_144 {G : fw_K} {R : fw_KR} (hG : fw_cls st_m_layBest R G) {a3 a4 a5 a6 a7 a8 a10 : Int} {o1 o2 o11 o12 : Option ab_AV} {σ : ab_SG} (h : G 92 [some (2, 93, 0), o1, o2, some (0, 0, a3), some (0, 0, a4), some (0, 0, a5), some (0, 0, a6), some (0, 0, a7), some (1, 0, a8), none, some (0, 0, a10 + (-1)), o11, o12] [] σ) : G 144 [some (2, 93, 0), o1, o2, some (0, 0, a3), some (0, 0, a4), some (0, 0, a5), some (0, 0, a6), some (0, 0, a7), some (1, 0, a8), none, some (0, 0, a10), o11, o12] [] σ := fw_on hG [7, 10, 27, 74, 90, 92, 144] 200 h
abbrev fk_m_isRound : List fw_CR := [(264, 1, true, 11, 0, sp_m_isClue), (281, 1, true, 11, 0, sp_m_isPerson)]
abbrev st_m_isRound : fw_K → fw_KR → fw_K := fw_st vwCl nn_sh nn_kd fw_kv fw_wc (nn_KI20.map (fun x => x.1)) (nn_KJ20.map (fun x => x.1)) (nn_PF20.map (fun x => x.1)) (nn_PS20.map (fun x => x.1)) fk_m_isRound 1 nn_dt295 4 1
theorem fs_m_isRound_0 {G : fw_K} {R : fw_KR} (hG : fw_cls st_m_isRound R G) {p q c : Int} {σ : ab_SG} (h : sp_m_isPerson [(2, 93, 0), (0, 0, p)] σ (fun rv σ2 => G 5 [some (2, 93, 0), some (0, 0, p), some (0, 0, q), some (0, 0, c)] (rv.toList ++ []) σ2)) : G 0 [some (2, 93, 0), some (0, 0, p), some (0, 0, q), some (0, 0, c)] [] σ := fw_on hG [5, 13, 26] 200 h
theorem fs_m_isRound_5 {G : fw_K} {R : fw_KR} (hG : fw_cls st_m_isRound R G) {a1 a2 a3 b0 : Int} {σ : ab_SG} (h : (fw_c b0 = 0 → (0 ≤ fw_c 0 ∧ fw_c 0 ≤ 1) ∧ R (some (0, 0, 0)) σ) ∧ (fw_c b0 ≠ 0 → sp_m_isPerson [(2, 93, 0), (0, 0, a2)] σ (fun rv σ2 => G 13 [some (2, 93, 0), some (0, 0, a1), some (0, 0, a2), some (0, 0, a3)] (rv.toList ++ []) σ2))) : G 5 [some (2, 93, 0), some (0, 0, a1), some (0, 0, a2), some (0, 0, a3)] [(0, 0, b0)] σ := fw_on hG [5, 13, 26] 200 h
theorem fs_m_isRound_13 {G : fw_K} {R : fw_KR} (hG : fw_cls st_m_isRound R G) {a1 a2 a3 b0 : Int} {σ : ab_SG} (h : (fw_c b0 = 0 → (0 ≤ fw_c 0 ∧ fw_c 0 ≤ 1) ∧ R (some (0, 0, 0)) σ) ∧ (fw_c b0 ≠ 0 → (fw_c a1 = fw_c a2 → (0 ≤ fw_c 0 ∧ fw_c 0 ≤ 1) ∧ R (some (0, 0, 0)) σ) ∧ (fw_c a1 ≠ fw_c a2 → sp_m_isClue [(2, 93, 0), (0, 0, a3)] σ (fun rv σ2 => G 26 [some (2, 93, 0), some (0, 0, a1), some (0, 0, a2), some (0, 0, a3)] (rv.toList ++ []) σ2)))) : G 13 [some (2, 93, 0), some (0, 0, a1), some (0, 0, a2), some (0, 0, a3)] [(0, 0, b0)] σ := fw_on hG [5, 13, 26] 200 h
theorem fs_m_isRound_26 {G : fw_K} {R : fw_KR} (hG : fw_cls st_m_isRound R G) {a1 a2 a3 b0 : Int} {σ : ab_SG} (h : (fw_c b0 = 0 → (0 ≤ fw_c 0 ∧ fw_c 0 ≤ 1) ∧ R (some (0, 0, 0)) σ) ∧ (fw_c b0 ≠ 0 → (0 ≤ fw_c 1 ∧ fw_c 1 ≤ 1) ∧ R (some (0, 0, 1)) σ)) : G 26 [some (2, 93, 0), some (0, 0, a1), some (0, 0, a2), some (0, 0, a3)] [(0, 0, b0)] σ := fw_on hG [5, 13, 26] 200 h
section
variable {l : Launch} {cy : Nat → ClassId} {ad wr cr : Nat → Nat} {D : va_G}
theorem fm_m_highest (hinj : nn_inj ad) : fw_H l cy ad wr cr D 298 0 sp_m_highest := fw_mk hinj (⟨"NameNotesModel", "highest", "(I)I"⟩, prog_14_method_93_code, 2, (Option.some Jvm.ClassFile.FieldType.int), 1, true, 0) rfl rfl nn_KI20_ok nn_KJ20_ok nn_PF20_ok nn_PS20_ok (by decide +kernel) rfl rfl (fun _ h => absurd h List.not_mem_nil) (fun as σ K h => by
  obtain ⟨n, rfl, hn, h1, h2⟩ := h
  refine ⟨rfl, fun G hG => fs_m_highest_0 hG ?_⟩
  rw [oz_c9 n hn, show fw_c 3 = 3 from fw_s (by decide) (by decide)]
  refine ⟨fun z => ?_, fun z => ⟨by decide, h2 (by omega)⟩⟩
  have k := h1 (by omega)
  rw [show ((n - 1 : Nat) : Int) = (n : Int) - 1 by omega] at k
  exact k)
theorem fm_m_layOdds (hinj : nn_inj ad) : fw_H l cy ad wr cr D 297 9 sp_m_layOdds := fw_mk hinj (⟨"NameNotesModel", "layOdds", "(III)V"⟩, prog_14_method_92_code, 5, (Option.none : Option Jvm.ClassFile.FieldType), 3, true, 4) rfl rfl nn_KI20_ok nn_KJ20_ok nn_PF20_ok nn_PS20_ok (by decide +kernel) rfl rfl (List.forall_mem_cons.mpr ⟨fw_row nn_PM20_ok (x := 303) (k := 0) (mn := 255) (np := 1) (ob := true) (ci := 11) (⟨"NameNotesModel", "left", "(I)I"⟩, prog_14_method_47_code, 2, (Option.some Jvm.ClassFile.FieldType.int), 1, true, 0) rfl (by decide +kernel) rfl rfl (by decide) (fun _ => ⟨_, _, rfl⟩) (fm_m_left hinj), (List.forall_mem_cons.mpr ⟨fw_row nn_PM20_ok (x := 355) (k := 0) (mn := 283) (np := 3) (ob := true) (ci := 11) (⟨"NameNotesModel", "oddsOf", "(III)J"⟩, prog_14_method_79_code, 4, (Option.some Jvm.ClassFile.FieldType.long), 3, true, 2) rfl (by decide +kernel) rfl rfl (by decide) (fun _ => ⟨_, _, rfl⟩) (fm_m_oddsOf hinj), (fun _ h => absurd h List.not_mem_nil)⟩)⟩) (fun as σ K h => by
  obtain ⟨A, p, q, c, rfl, hN, hp, hq, hc, h⟩ := h
  have nn := N_n hN.1
  have c9 : fw_c 9 = 9 := fw_s (by decide) (by decide)
  have cl := oz_clue hN.1 hN.2.1 hc.1 hc.2
  refine ⟨rfl, fun G hG => fs_m_layOdds_0 hG ?_⟩
  have loop : ∀ (f n : Nat) (τ : ab_SG), n + f = 10 → 1 ≤ n → ab_okM dm_H σ τ → (∀ m : Nat, 1 ≤ m → m < n → τ 108 m = 2520 * oz_odds A p (m : Int) (v_set A c) ∧ τ 108 (10 + m) = 2520 * oz_odds A q (m : Int) (v_set A c)) → G 3 [some (2, 93, 0), some (0, 0, (p : Int)), some (0, 0, (q : Int)), some (0, 0, c), some (0, 0, (n : Int))] [] τ := by
    intro f
    induction f with
    | zero =>
      intro n τ hn h0 M I
      refine fs_m_layOdds_3 hG ?_
      rw [c9, fw_s (x := (n : Int)) (by omega) (by omega)]
      refine ⟨fun _ => h τ M (fun i hi hm => ?_), fun z => absurd z (by omega)⟩
      unfold v_ch
      by_cases c : i < 10
      · rw [if_pos c]
        exact (I i (by omega) (by omega)).1
      · rw [if_neg c]
        have e := (I (i - 10) (by omega) (by omega)).2
        rw [show 10 + (i - 10) = i by omega] at e
        exact e
    | succ f ih =>
      intro n τ hn h0 M I
      have cn : fw_c (n : Int) = (n : Int) := fw_s (by omega) (by omega)
      have c10 : fw_c (10 + (n : Int)) = ((10 + n : Nat) : Int) := by
        rw [show 10 + (n : Int) = ((10 + n : Nat) : Int) by omega]
        exact fw_s (by omega) (by omega)
      have Nt := oz_NMM M (by decide +kernel) hN
      have bp := oz_odds_bm Nt hp (n := (n : Int)) cl.1
      have bq := oz_odds_bm Nt hq (n := (n : Int)) cl.1
      refine fs_m_layOdds_3 hG ?_
      rw [c9, cn]
      refine ⟨fun z => absurd z (by omega), fun _ => ⟨A, c, rfl, Nt, by omega, fs_m_layOdds_25 hG ⟨A, p, (n : Int), v_set A c, rfl, Nt, hp, by omega, cl.1, cl.2, fun σ1 M1 => fs_m_layOdds_28 hG ⟨by rw [cn]; omega, trivial, ?_⟩⟩⟩⟩
      rw [cn, Int.toNat_natCast, fw_d_id (x := 2520 * oz_odds A p (n : Int) (v_set A c)) (by omega) (by omega)]
      have Mm : ab_okM dm_H τ (ab_ups σ1 108 n (2520 * oz_odds A p (n : Int) (v_set A c))) := fw_okM_upa (od_up M1 (by decide)) (by decide)
      have m108 : ∀ j : Nat, (ab_ups σ1 108 n (2520 * oz_odds A p (n : Int) (v_set A c))) 108 j = if j = n then 2520 * oz_odds A p (n : Int) (v_set A c) else τ 108 j := fun j => by
        by_cases c : j = n
        · rw [if_pos c, c, ab_ups_eq]
        · rw [if_neg c, ab_ups_ne (fun z => c z.2), dm_108 M1]
      generalize ab_ups σ1 108 n (2520 * oz_odds A p (n : Int) (v_set A c)) = ρ at Mm m108 ⊢
      have Nr := oz_NMM Mm (by decide +kernel) Nt
      refine ⟨A, c, rfl, Nr, by omega, fs_m_layOdds_47 hG ⟨A, q, (n : Int), v_set A c, rfl, Nr, hq, by omega, cl.1, cl.2, fun σ3 M3 => fs_m_layOdds_50 hG ⟨by rw [c10]; omega, trivial, ?_⟩⟩⟩
      rw [c10, Int.toNat_natCast, fw_d_id (x := 2520 * oz_odds A q (n : Int) (v_set A c)) (by omega) (by omega)]
      have k := ih (n + 1) (ab_ups σ3 108 (10 + n) (2520 * oz_odds A q (n : Int) (v_set A c))) (by omega) (by omega) (on_trans M (fw_okM_upa (on_trans Mm (od_up M3 (by decide))) (by decide))) (fun m h1 h2 => by
        rw [ab_ups_ne (b := m) (fun z => by have := z.2; omega), dm_108 M3, m108 m]
        by_cases c : m = n
        · rw [if_pos c, c, ab_ups_eq]
          exact ⟨rfl, rfl⟩
        · rw [if_neg c, ab_ups_ne (fun z => by have := z.2; omega), dm_108 M3, m108, if_neg (by omega)]
          exact I m h1 (by omega))
      rw [show ((n + 1 : Nat) : Int) = (n : Int) + 1 from rfl] at k
      exact k
  exact loop 9 1 σ rfl (Nat.le_refl 1) (fw_okM_refl _ _) (fun m h1 h2 => absurd h1 (by omega)))
theorem fm_m_layBest (hinj : nn_inj ad) : fw_H l cy ad wr cr D 296 10 sp_m_layBest := fw_mk hinj (⟨"NameNotesModel", "layBest", "(III)V"⟩, prog_14_method_94_code, 13, (Option.none : Option Jvm.ClassFile.FieldType), 3, true, 4) rfl rfl nn_KI20_ok nn_KJ20_ok nn_PF20_ok nn_PS20_ok (by decide +kernel) rfl rfl (List.forall_mem_cons.mpr ⟨fw_row nn_PM20_ok (x := 374) (k := 0) (mn := 297) (np := 3) (ob := true) (ci := 11) (⟨"NameNotesModel", "layOdds", "(III)V"⟩, prog_14_method_92_code, 5, (Option.none : Option Jvm.ClassFile.FieldType), 3, true, 4) rfl (by decide +kernel) rfl rfl (by decide) (fun _ => ⟨_, _, rfl⟩) (fm_m_layOdds hinj), (List.forall_mem_cons.mpr ⟨fw_row nn_PM20_ok (x := 378) (k := 0) (mn := 298) (np := 1) (ob := true) (ci := 11) (⟨"NameNotesModel", "highest", "(I)I"⟩, prog_14_method_93_code, 2, (Option.some Jvm.ClassFile.FieldType.int), 1, true, 0) rfl (by decide +kernel) rfl rfl (by decide) (fun _ => ⟨_, _, rfl⟩) (fm_m_highest hinj), (fun _ h => absurd h List.not_mem_nil)⟩)⟩) (fun as σ K h => by
  obtain ⟨A, p, q, c, rfl, hN, h3, hb, h⟩ := h
  have nn := N_n hN.1
  obtain ⟨h1, h2, -, -, h5⟩ := hb
  obtain ⟨p, rfl⟩ := Int.eq_ofNat_of_zero_le h1.1
  obtain ⟨q, rfl⟩ := Int.eq_ofNat_of_zero_le h2.1
  have fb := hN.2.1.2.2.2.2
  obtain ⟨f, ef⟩ := Int.eq_ofNat_of_zero_le (show 0 ≤ A 49 14 by omega)
  have cl := oz_clue hN.1 hN.2.1 h5.1 h5.2
  have hCC := v_chm hN (show p < 5 by omega) (show q < 5 by omega) cl.1
  unfold v_du at h
  rw [ef] at h fb h3
  rw [Int.toNat_natCast, Int.toNat_natCast, Int.toNat_natCast] at h
  obtain ⟨C, eC⟩ : ∃ C : Nat → Int, C = v_ch A p q (v_set A c) := ⟨_, rfl⟩
  rw [← eC] at h hCC
  have c1 : fw_c 1 = 1 := fw_s (by decide) (by decide)
  have c2 : fw_c 2 = 2 := fw_s (by decide) (by decide)
  have c10 : fw_c 10 = 10 := fw_s (by decide) (by decide)
  refine ⟨rfl, fun G hG => fs_m_layBest_0 hG ⟨A, p, q, c, rfl, hN, by omega, by omega, h5, fun σ1 M0 I0 => fs_m_layBest_7 hG ?_⟩⟩
  have side : ∀ (S : Nat → Prop) (st : (Nat → Int) × (Nat → Int)) (sd n m : Nat) (k a : Int) (τ : ab_SG) (o7 o8 o10 o11 o12 : Option ab_AV), a = (sd : Int) → sd < 2 → n < 10 → m < 10 → (n = 0 → 1 ≤ m) → ((n ≠ 0 → m = n - 1) ∧ (n = 0 → τ 95 3 = (m : Int))) → dm_A S τ st → dl_B st → (∀ i : Nat, i < 20 → 1 ≤ i % 10 → τ 108 i = 2520 * C i) → (∀ b : Nat, 1 ≤ b → b ≤ m → S (10 - 10 * sd + b)) →
      (∀ (τ' : ab_SG) (o7 o8 o10 o11 o12 : Option ab_AV), ab_okM dm_B τ τ' → dm_A (fun i => S i ∨ i = 10 * sd + n) τ' (dl_1 C sd n m st) → G 27 [some (2, 93, 0), some (0, 0, (p : Int)), some (0, 0, (q : Int)), some (0, 0, c), some (0, 0, k), some (0, 0, (n : Int)), some (0, 0, a + 1), o7, o8, none, o10, o11, o12] [] τ') →
      G 27 [some (2, 93, 0), some (0, 0, (p : Int)), some (0, 0, (q : Int)), some (0, 0, c), some (0, 0, k), some (0, 0, (n : Int)), some (0, 0, a), o7, o8, none, o10, o11, o12] [] τ := by
    intro S st sd n m k a τ o7 o8 o10 o11 o12 ea hs hn hm hz hg hA hB hC hS kont
    subst ea
    have cell : ∀ b : Nat, 1 ≤ b → b ≤ m → τ 109 (10 - 10 * sd + b) = 2520 * st.1 (10 - 10 * sd + b) := fun b h1 h2 => (hA _ (hS b h1 h2)).1
    have e := dl_rz (C := C) (C' := τ 108) (V := st.1) (V' := τ 109) (side := sd) (n := n) (m := m) hz (fun z => hC _ (by omega) (by omega)) cell (fun b _ _ => (hB _).1)
    have c0 : n ≠ 0 → 0 ≤ C (10 - 10 * sd + n) ∧ C (10 - 10 * sd + n) ≤ 976299632280 := fun z => hCC _ (by omega) (by omega)
    have e108 : n ≠ 0 → τ 108 (10 - 10 * sd + n) = 2520 * C (10 - 10 * sd + n) := fun z => hC _ (by omega) (by omega)
    have vb : ∀ b : Nat, 1 ≤ b → b ≤ m → 0 ≤ τ 109 (10 - 10 * sd + b) ∧ τ 109 (10 - 10 * sd + b) ≤ 2460275073345600 := fun b h1 h2 => by
      have := (hB (10 - 10 * sd + b)).1
      rw [cell b h1 h2]
      omega
    unfold dm_A dl_1 at kont
    generalize dl_r 976299632280 C st.1 sd n m = r at e kont
    unfold dl_r dl_st at e
    obtain ⟨i, ei⟩ : ∃ i : Nat, i = 10 * sd + n := ⟨_, rfl⟩
    obtain ⟨o, eo⟩ : ∃ o : Nat, o = 10 - 10 * sd := ⟨_, rfl⟩
    rw [← ei] at kont
    rw [← eo] at e c0 e108 vb
    clear cell
    obtain ⟨V, eV⟩ : ∃ V : Nat → Int, V = fun b => τ 109 (o + b) := ⟨_, rfl⟩
    have hVb : ∀ b : Nat, τ 109 (o + b) = V b := fun b => by rw [eV]
    rw [← eV] at e
    have ci : fw_c (10 * (sd : Int) + (n : Int)) = (i : Int) := by
      rw [show 10 * (sd : Int) + (n : Int) = (i : Int) by omega]
      exact fw_s (by omega) (by omega)
    have cj : ∀ b : Nat, b < 10 → fw_c ((10 - (10 * (sd : Int))) + (b : Int)) = ((o + b : Nat) : Int) := fun b hb => by
      rw [show (10 - (10 * (sd : Int))) + (b : Int) = ((o + b : Nat) : Int) by omega]
      exact fw_s (by omega) (by omega)
    have loop : ∀ (g b : Nat) (v mv : Int) (τ' : ab_SG) (o11 o12 : Option ab_AV), b = g → b ≤ m → (-1 ≤ v ∧ v ≤ 2460275073345600) → ab_okM dm_B τ τ' → (∀ j : Nat, τ' 109 j = τ 109 j) → (∀ j : Nat, j ≠ i → τ' 111 j = τ 111 j) → τ' 111 i = mv → dl_s 2460275073345600 V b (v, mv) = (2520 * r.1, r.2) → G 92 [some (2, 93, 0), some (0, 0, (p : Int)), some (0, 0, (q : Int)), some (0, 0, c), some (0, 0, k), some (0, 0, (n : Int)), some (0, 0, (sd : Int)), some (0, 0, 10 * (sd : Int) + (n : Int)), some (1, 0, v), none, some (0, 0, (b : Int)), o11, o12] [] τ' := by
      intro g
      induction g with
      | zero =>
        intro b v mv τ' o11 o12 hbg hbm hv M h109 h111 hmv ee
        have cb : fw_c (b : Int) = (b : Int) := oz_c9 b (by omega)
        have e2 : (v, mv) = (2520 * r.1, r.2) := by rw [← ee, hbg]; rfl
        have ev : v = 2520 * r.1 := congrArg Prod.fst e2
        have em : mv = r.2 := congrArg Prod.snd e2
        refine fs_m_layBest_92 hG ?_
        rw [cb, c1]
        refine ⟨fun _ => ⟨by rw [ci]; omega, trivial, ?_⟩, fun z => absurd z (by omega)⟩
        rw [ci, Int.toNat_natCast, fw_d_id (x := v) (by omega) (by omega)]
        refine kont _ _ _ _ _ _ (fw_okM_upa M (by decide)) (fun j hj => ?_)
        show _ = 2520 * dl_put _ _ _ j ∧ _ = dl_put _ _ _ j
        by_cases z : j = i
        · subst z
          rw [ab_ups_eq, ab_ups_ne (fun z => absurd z.1 (by decide)), dl_put_eq, dl_put_eq]
          exact ⟨ev, hmv.trans em⟩
        · have s := hA j (hj.resolve_right z)
          rw [ab_ups_ne (fun y => z y.2), ab_ups_ne (fun z => absurd z.1 (by decide)), dl_put_ne _ _ z, dl_put_ne _ _ z, h109, h111 j z]
          exact s
      | succ g ih =>
        intro b v mv τ' o11 o12 hbg hbm hv M h109 h111 hmv ee
        subst hbg
        have cb : fw_c ((g + 1 : Nat) : Int) = ((g + 1 : Nat) : Int) := oz_c9 (g + 1) (by omega)
        have vb1 := vb (g + 1) (by omega) hbm
        rw [hVb (g + 1)] at vb1
        refine fs_m_layBest_92 hG ?_
        rw [cb, c1]
        refine ⟨fun z => absurd z (by omega), fun _ => ⟨by rw [cj (g + 1) (by omega)]; omega, ?_⟩⟩
        rw [cj (g + 1) (by omega), Int.toNat_natCast, h109, hVb (g + 1), fw_d_id (x := 2460275073345600 - V (g + 1)) (by omega) (by omega), fw_d_id (x := v) (by omega) (by omega)]
        rw [dl_ss] at ee
        refine ⟨fun z => ⟨by rw [ci]; omega, trivial, fs_m_layBest_144 hG ?_⟩, fun z => fs_m_layBest_144 hG ?_⟩
        · rw [if_pos z] at ee
          rw [ci, Int.toNat_natCast]
          have w := ih g (2460275073345600 - V (g + 1)) ((g + 1 : Nat) : Int) (ab_ups τ' 111 i ((g + 1 : Nat) : Int)) (some (1, 0, 2460275073345600 - V (g + 1))) none rfl (by omega) (by omega) (fw_okM_upa M (by decide)) (fun j => by rw [ab_ups_ne (fun z => absurd z.1 (by decide)), h109]) (fun j hj => by rw [ab_ups_ne (fun y => hj y.2), h111 j hj]) ab_ups_eq ee
          rw [show ((g : Nat) : Int) = ((g + 1 : Nat) : Int) + (-1) by omega] at w
          exact w
        · rw [if_neg (by omega)] at ee
          have w := ih g v mv τ' (some (1, 0, 2460275073345600 - V (g + 1))) none rfl (by omega) hv M h109 h111 hmv ee
          rw [show ((g : Nat) : Int) = ((g + 1 : Nat) : Int) + (-1) by omega] at w
          exact w
    have at74 : ∀ (v : Int) (o8 o10 o11 o12 : Option ab_AV), (-1 ≤ v ∧ v ≤ 2460275073345600) → dl_s 2460275073345600 V m (v, 0) = (2520 * r.1, r.2) → G 74 [some (2, 93, 0), some (0, 0, (p : Int)), some (0, 0, (q : Int)), some (0, 0, c), some (0, 0, k), some (0, 0, (n : Int)), some (0, 0, (sd : Int)), some (0, 0, 10 * (sd : Int) + (n : Int)), o8, none, o10, o11, o12] [(1, 0, v)] τ := by
      intro v o8 o10 o11 o12 hv ee
      refine fs_m_layBest_74 hG ⟨by rw [ci]; omega, trivial, ?_⟩
      rw [ci, Int.toNat_natCast, fw_c0]
      have go : ∀ (w : Int) (o10 : Option ab_AV), w = (m : Int) → G 90 [some (2, 93, 0), some (0, 0, (p : Int)), some (0, 0, (q : Int)), some (0, 0, c), some (0, 0, k), some (0, 0, (n : Int)), some (0, 0, (sd : Int)), some (0, 0, 10 * (sd : Int) + (n : Int)), some (1, 0, v), none, o10, o11, o12] [(0, 0, w)] (ab_ups τ 111 i 0) := by
        intro w o10 ew
        subst ew
        exact fs_m_layBest_90 hG (loop m m v 0 _ _ _ rfl (Nat.le_refl m) hv (fw_okM_upa (fw_okM_refl _ _) (by decide)) (fun j => ab_ups_ne (fun z => absurd z.1 (by decide))) (fun j hj => ab_ups_ne (fun z => hj z.2)) ab_ups_eq ee)
      refine ⟨n, rfl, hn, fun z => go _ _ (by rw [hg.1 z]), fun z => go _ _ ?_⟩
      rw [ab_ups_ne (fun z => absurd z.1 (by decide))]
      exact hg.2 z
    refine fs_m_layBest_27 hG ?_
    rw [c2, oz_c9 sd (by omega), oz_c9 n hn]
    refine ⟨fun z => absurd z (by omega), fun _ => ⟨fun z => ⟨by rw [cj n hn]; omega, ?_⟩, fun z => ?_⟩⟩
    · rw [cj n hn, Int.toNat_natCast]
      have a1 := c0 (by omega)
      have a2 := e108 (by omega)
      rw [if_neg (show ¬ n = 0 by omega)] at e
      exact at74 _ _ _ _ _ (by omega) e
    · rw [if_pos (show n = 0 by omega)] at e
      exact at74 _ _ _ _ _ (by decide) e
  have e95 : ∀ τ : ab_SG, ab_okM dm_B σ1 τ → τ 95 3 = (f : Int) := fun τ M => by
    rw [dm_k (by decide) M 3, M0 95 3 (fun q hq hh => by
      have : ∀ q ∈ dm_H, q.1 ≠ 95 := by decide
      exact this q hq hh.1)]
    exact h3
  have e108 : ∀ τ : ab_SG, ab_okM dm_B σ1 τ → ∀ i : Nat, i < 20 → 1 ≤ i % 10 → τ 108 i = 2520 * C i := fun τ M i hi hm => by
    rw [dm_k (by decide) M i, eC]
    exact I0 i hi hm
  have loop : ∀ (g k : Nat) (τ : ab_SG) (o5 o6 o7 o8 o10 o11 o12 : Option ab_AV), k + g = 9 → ab_okM dm_B σ1 τ → dm_A (fun i => i < 20 ∧ 1 ≤ i % 10 ∧ i % 10 ≤ k) τ (dl_n C f k) → G 10 [some (2, 93, 0), some (0, 0, (p : Int)), some (0, 0, (q : Int)), some (0, 0, c), some (0, 0, ((k + 1 : Nat) : Int)), o5, o6, o7, o8, none, o10, o11, o12] [] τ := by
    intro g
    induction g with
    | zero =>
      intro k τ o5 o6 o7 o8 o10 o11 o12 hk M I
      have ek : k = 9 := by omega
      subst ek
      refine fs_m_layBest_10 hG ?_
      rw [c10, fw_s (x := ((9 + 1 : Nat) : Int)) (by decide) (by decide), dm_op (9 + 1) (by decide)]
      refine ⟨fun z => absurd z (by decide), fun _ => ⟨by decide, ?_⟩⟩
      refine side _ _ 0 0 f _ 0 τ _ _ _ _ _ rfl (by decide) (by decide) (by omega) (fun _ => fb.1 |> fun w => by omega) ⟨fun z => absurd rfl z, fun _ => e95 τ M⟩ I (dl_nb hCC (by omega) 9) (e108 τ M) (fun b h1 h2 => by show _ ∧ _ ∧ _; omega) (fun τ1 o7 o8 o10 o11 o12 M1 A1 => ?_)
      have Ma := on_trans M M1
      refine side _ _ 1 0 f _ _ τ1 _ _ _ _ _ rfl (by decide) (by decide) (by omega) (fun _ => by omega) ⟨fun z => absurd rfl z, fun _ => e95 τ1 Ma⟩ A1 (dl_1b (dl_nb hCC (by omega) 9) hCC (by decide) (by decide) (by omega) (fun _ => by omega) (fun z => absurd rfl z)) (e108 τ1 Ma) (fun b h1 h2 => Or.inl (by show _ ∧ _ ∧ _; omega)) (fun τ2 o7 o8 o10 o11 o12 M2 A2 => ?_)
      refine fs_m_layBest_27 hG ?_
      rw [c2, fw_s (x := (0 + 1 + 1 : Int)) (by decide) (by decide)]
      refine ⟨fun _ => fs_m_layBest_10 hG ?_, fun z => absurd z (by decide)⟩
      rw [c10, fw_s (x := ((9 + 1 : Nat) : Int) + 1) (by decide) (by decide)]
      refine ⟨fun _ => h τ2 (on_trans (od_up M0 (by decide)) (od_up (on_trans Ma M2) (by decide))) (fun i hi => ?_), fun z => absurd z (by decide)⟩
      have w := A2 i (by show (_ ∨ _) ∨ _; omega)
      rw [show (10 : Nat) = 9 + 1 from rfl, dl_nt]
      exact w
    | succ g ih =>
      intro k τ o5 o6 o7 o8 o10 o11 o12 hk M I
      refine fs_m_layBest_10 hG ?_
      rw [c10, oz_c9 (k + 1) (by omega), dm_op (k + 1) (by omega), Nat.mod_eq_of_lt (show k + 1 < 10 by omega)]
      refine ⟨fun z => absurd z (by omega), fun _ => ⟨by decide, ?_⟩⟩
      refine side _ _ 0 (k + 1) k _ 0 τ _ _ _ _ _ rfl (by decide) (by omega) (by omega) (fun z => absurd z (Nat.succ_ne_zero k)) ⟨fun _ => rfl, fun z => absurd z (Nat.succ_ne_zero k)⟩ I (dl_nb hCC (by omega) k) (e108 τ M) (fun b h1 h2 => by show _ ∧ _ ∧ _; omega) (fun τ1 o7 o8 o10 o11 o12 M1 A1 => ?_)
      have Ma := on_trans M M1
      refine side _ _ 1 (k + 1) k _ _ τ1 _ _ _ _ _ rfl (by decide) (by omega) (by omega) (fun z => absurd z (Nat.succ_ne_zero k)) ⟨fun _ => rfl, fun z => absurd z (Nat.succ_ne_zero k)⟩ A1 (dl_1b (dl_nb hCC (by omega) k) hCC (by decide) (by omega) (by omega) (fun z => absurd z (Nat.succ_ne_zero k)) (fun _ => Nat.le_refl _)) (e108 τ1 Ma) (fun b h1 h2 => Or.inl (by show _ ∧ _ ∧ _; omega)) (fun τ2 o7 o8 o10 o11 o12 M2 A2 => ?_)
      refine fs_m_layBest_27 hG ?_
      rw [c2, fw_s (x := (0 + 1 + 1 : Int)) (by decide) (by decide)]
      refine ⟨fun _ => ?_, fun z => absurd z (by decide)⟩
      have w := ih (k + 1) τ2 (some (0, 0, ((k + 1 : Nat) : Int))) (some (0, 0, 0 + 1 + 1)) o7 o8 o10 o11 o12 (by omega) (on_trans Ma M2) (fun i hi => by
        rw [dl_nn _ _ (by omega)]
        exact A2 i (by have := hi.1; have := hi.2.1; have := hi.2.2; show (_ ∨ _) ∨ _; omega))
      rw [show ((k + 1 + 1 : Nat) : Int) = ((k + 1 : Nat) : Int) + 1 from rfl] at w
      exact w
  exact loop 9 0 σ1 _ _ _ _ _ _ _ rfl (fw_okM_refl _ _) (fun i hi => absurd hi.2.1 (by have := hi.2.2; omega)))
theorem fm_m_isRound (hinj : nn_inj ad) : fw_H l cy ad wr cr D 295 1 sp_m_isRound := fw_mk hinj (⟨"NameNotesModel", "isRound", "(III)Z"⟩, prog_14_method_91_code, 4, (Option.some Jvm.ClassFile.FieldType.boolean), 3, true, 1) rfl rfl nn_KI20_ok nn_KJ20_ok nn_PF20_ok nn_PS20_ok (by decide +kernel) rfl rfl (List.forall_mem_cons.mpr ⟨fw_row nn_PM20_ok (x := 264) (k := 0) (mn := 247) (np := 1) (ob := true) (ci := 11) (⟨"NameNotesModel", "isClue", "(I)Z"⟩, prog_14_method_43_code, 2, (Option.some Jvm.ClassFile.FieldType.boolean), 1, true, 1) rfl (by decide +kernel) rfl rfl (by decide) (fun _ => ⟨_, _, rfl⟩) (fm_m_isClue hinj), (List.forall_mem_cons.mpr ⟨fw_row nn_PM20_ok (x := 281) (k := 0) (mn := 249) (np := 1) (ob := true) (ci := 11) (⟨"NameNotesModel", "isPerson", "(I)Z"⟩, prog_14_method_44_code, 2, (Option.some Jvm.ClassFile.FieldType.boolean), 1, true, 1) rfl (by decide +kernel) rfl rfl (by decide) (fun _ => ⟨_, _, rfl⟩) (fm_m_isPerson hinj), (fun _ h => absurd h List.not_mem_nil)⟩)⟩) (fun as σ K h => by
  obtain ⟨A, p, q, c, rfl, ⟨ep, eq, ec⟩, hN, h⟩ := h
  have no : ¬ v_bd A p q 0 c → (0 ≤ fw_c 0 ∧ fw_c 0 ≤ 1) ∧ K (some (0, 0, 0)) σ := fun z => ⟨fw_01, by rw [fw_bo_f z] at h; exact h⟩
  refine ⟨rfl, fun G hG => fs_m_isRound_0 hG ⟨p, rfl, fs_m_isRound_5 hG ?_⟩⟩
  rw [oz_m_pe hN ep]
  refine ⟨fun z => no (fun w => fw_bo_eq z w.1), fun z1 => ⟨q, rfl, fs_m_isRound_13 hG ?_⟩⟩
  rw [oz_m_pe hN eq]
  refine ⟨fun z => no (fun w => fw_bo_eq z w.2.1), fun z2 => ⟨fun z => no (fun w => w.2.2.1 (by rw [ep, eq] at z; exact z)), fun z3 => ⟨A, c, rfl, ec, hN, fs_m_isRound_26 hG ⟨fun z => no (fun w => fw_bo_eq z w.2.2.2.2), fun z4 => ⟨by rw [fw_c1]; decide, ?_⟩⟩⟩⟩⟩
  rw [ep, eq] at z3
  rw [fw_bo_t ⟨fw_bo_ne z1, fw_bo_ne z2, z3, by decide, fw_bo_ne z4⟩] at h
  exact h)
end
end
section
/-! the clue with the lowest last bid; the closest one -/
section
variable {l : Launch} {cy : Nat → ClassId} {ad wr cr : Nat → Nat} {D : va_G}
end
end
section
/-! the first side against the second one's rule -/
section
variable {l : Launch} {cy : Nat → ClassId} {ad wr cr : Nat → Nat} {D : va_G}
end
end
