/-! LIKE (how 0) is one and the same for all of a group -/
theorem sn_sym {A : ab_SG} {x y i : Int} (h : pr_sn A x y i 0) : pr_sn A y x i 0 := by
  unfold pr_sn at h ⊢
  by_cases a : x < A 49 11 ∧ i < A 52 x.toNat
  · by_cases b : y < A 49 11 ∧ i < A 52 y.toNat
    · rw [if_pos ⟨a, b⟩, if_neg (by decide)] at h
      rw [if_pos ⟨b, a⟩, if_neg (by decide)]
      exact ⟨h.1.imp id Eq.symm, h.2.imp id Eq.symm⟩
    · rw [if_neg (fun z => b z.2)] at h
      exact absurd (h.mp a) b
  · by_cases b : y < A 49 11 ∧ i < A 52 y.toNat
    · rw [if_neg (fun z => a z.1)] at h
      exact absurd (h.mpr b) a
    · rw [if_neg (fun z => a z.2)]
      exact ⟨fun z => absurd z b, fun z => absurd z a⟩
theorem sn_tr {A : ab_SG} {x y z i : Int} (h : pr_sn A x y i 0) (k : pr_sn A y z i 0) : pr_sn A x z i 0 := by
  unfold pr_sn at h k ⊢
  by_cases b : y < A 49 11 ∧ i < A 52 y.toNat
  · by_cases a : x < A 49 11 ∧ i < A 52 x.toNat
    · by_cases c : z < A 49 11 ∧ i < A 52 z.toNat
      · rw [if_pos ⟨a, b⟩, if_neg (by decide)] at h
        rw [if_pos ⟨b, c⟩, if_neg (by decide)] at k
        rw [if_pos ⟨a, c⟩, if_neg (by decide)]
        refine ⟨Or.inr ?_, Or.inr ?_⟩
        · exact (h.1.resolve_left (by decide)).trans (k.1.resolve_left (by decide))
        · exact (h.2.resolve_left (by decide)).trans (k.2.resolve_left (by decide))
      · rw [if_neg (fun q => c q.2)] at k
        exact absurd (k.mp b) c
    · rw [if_neg (fun q => a q.1)] at h
      exact absurd (h.mpr b) a
  · rw [if_neg (fun q => b q.2)] at h
    rw [if_neg (fun q => b q.1)] at k
    have a : ¬ (x < A 49 11 ∧ i < A 52 x.toNat) := fun q => b (h.mp q)
    have c : ¬ (z < A 49 11 ∧ i < A 52 z.toNat) := fun q => b (k.mpr q)
    rw [if_neg (fun q => a q.1)]
    exact ⟨fun q => absurd q a, fun q => absurd q c⟩
theorem cs_ge {A : ab_SG} {x y w n : Int} : ∀ f i : Nat, n ≤ (i : Int) + f → (n ≤ pr_cs A x y w f i ↔ ∀ j : Nat, i ≤ j → (j : Int) < n → pr_sn A x y (j : Int) w)
  | 0, i, h => ⟨fun _ j h1 h2 => absurd h2 (by omega), fun _ => by show n ≤ (i : Int); omega⟩
  | f + 1, i, h => by
    rw [pr_cs_s]
    by_cases q : pr_sn A x y (i : Int) w
    · rw [if_pos q, cs_ge f (i + 1) (by omega)]
      constructor
      · intro g j h1 h2
        by_cases c : j = i
        · rw [c]; exact q
        · exact g j (by omega) h2
      · intro g j h1 h2
        exact g j (by omega) h2
    · rw [if_neg q]
      constructor
      · intro g j h1 h2
        exact absurd h2 (by omega)
      · intro g
        by_cases c : n ≤ (i : Int)
        · exact c
        · exact absurd (g i (Nat.le_refl i) (by omega)) q
def oz_E (A : ab_SG) (n : Int) (x y : Nat) : Prop := n ≤ pr_cs A (x : Int) (y : Int) 0 9 0
theorem oz_E_sym {A : ab_SG} {n : Int} (hn : n ≤ 9) {x y : Nat} (h : oz_E A n x y) : oz_E A n y x :=
  (cs_ge 9 0 (by omega)).mpr (fun j h1 h2 => sn_sym ((cs_ge 9 0 (by omega)).mp h j h1 h2))
theorem oz_E_tr {A : ab_SG} {n : Int} (hn : n ≤ 9) {x y z : Nat} (h : oz_E A n x y) (k : oz_E A n y z) : oz_E A n x z :=
  (cs_ge 9 0 (by omega)).mpr (fun j h1 h2 => sn_tr ((cs_ge 9 0 (by omega)).mp h j h1 h2) ((cs_ge 9 0 (by omega)).mp k j h1 h2))
theorem oz_E_refl (A : ab_SG) {n : Int} (hn : n ≤ 9) (x : Nat) : oz_E A n x x := by
  unfold oz_E
  rw [cs_refl]
  omega
/-- bits of a set tell its least one -/
theorem lst_tb0 : ∀ s : Nat, s < 256 → ∀ x : Nat, x < 9 → pr_hs (s : Int) (x : Int) = true → (oz_lst (s : Int) x = true ↔ s % 2 ^ x = 0) := by decide +kernel
theorem lst_tb1 : ∀ s : Nat, s < 256 → ∀ x : Nat, x < 9 → pr_hs ((s + 256 : Nat) : Int) (x : Int) = true → (oz_lst ((s + 256 : Nat) : Int) x = true ↔ (s + 256) % 2 ^ x = 0) := by decide +kernel
theorem lst_tb {g : Int} (h0 : 0 ≤ g) (h5 : g < 512) {x : Nat} (hx : x < 9) (hp : pr_hs g (x : Int) = true) : oz_lst g x = true ↔ ∀ z : Nat, z < x → oz_P g z = false := by
  obtain ⟨s, rfl⟩ := Int.eq_ofNat_of_zero_le h0
  have e : oz_lst (s : Int) x = true ↔ s % 2 ^ x = 0 := by
    by_cases c : s < 256
    · exact lst_tb0 s c x hx hp
    · have := lst_tb1 (s - 256) (by omega) x hx
      rw [show s - 256 + 256 = s by omega] at this
      exact this hp
  rw [e]
  have tb : ∀ z : Nat, z < x → oz_P (s : Int) z = Nat.testBit s z := fun z hz => hs_tb (by omega) (by omega)
  constructor
  · intro q z hz
    rw [tb z hz]
    have k := Nat.testBit_mod_two_pow s x z
    rw [q, Nat.zero_testBit, decide_eq_true hz, Bool.true_and] at k
    exact k.symm
  · intro q
    refine Nat.eq_of_testBit_eq (fun z => ?_)
    rw [Nat.testBit_mod_two_pow, Nat.zero_testBit]
    by_cases c : z < x
    · rw [← tb z c, q z c, Bool.and_false]
    · rw [decide_eq_false c, Bool.false_and]
/-- a sum, each put to the one that stands for it -/
theorem oz_pick {Q : Nat → Bool} {a : Nat} {v : Int} : ∀ {n : Nat}, a < n → Q a = true → (∀ b, b < n → Q b = true → b = a) → oz_sum (fun r => cond (Q r) v 0) n = v := by
  intro n
  induction n with
  | zero => intro h; exact absurd h (Nat.not_lt_zero a)
  | succ n ih =>
    intro h1 h2 h3
    show oz_sum (fun r => cond (Q r) v 0) n + cond (Q n) v 0 = v
    by_cases c : a = n
    · subst c
      rw [h2]
      have z : oz_sum (fun r => cond (Q r) v 0) a = 0 := by
        rw [oz_sum_congr (g := fun _ => 0) (fun i hi => ?_), oz_sum_zero]
        cases q : Q i with
        | false => rfl
        | true => exact absurd (h3 i (by omega) q) (by omega)
      rw [z]
      show 0 + v = v
      omega
    · have q : Q n = false := by
        rw [← Bool.not_eq_true]
        exact fun q => c (h3 n (Nat.lt_succ_self n) q).symm
      rw [q, ih (by omega) h2 (fun b hb => h3 b (by omega))]
      show v + 0 = v
      omega
/-- the least number below n with Q -/
theorem oz_least {Q : Nat → Bool} : ∀ n : Nat, (∃ a, a < n ∧ Q a = true) → ∃ r, r < n ∧ Q r = true ∧ ∀ z, z < r → Q z = false := by
  intro n
  induction n with
  | zero => rintro ⟨a, h, _⟩; exact absurd h (Nat.not_lt_zero a)
  | succ n ih =>
    rintro ⟨a, h, q⟩
    by_cases c : ∃ a, a < n ∧ Q a = true
    · obtain ⟨r, h1, h2, h3⟩ := ih c
      exact ⟨r, by omega, h2, h3⟩
    · have : a = n := by
        by_cases d : a = n
        · exact d
        · exact absurd ⟨a, by omega, q⟩ c
      subst this
      refine ⟨a, h, q, fun z hz => ?_⟩
      rw [← Bool.not_eq_true]
      exact fun w => c ⟨z, hz, w⟩
/-- all odds of a set, group by group: S the set, P x the group of x -/
theorem oz_groups {S : Nat → Bool} {P : Nat → Nat → Bool} {f : Nat → Int} (hsub : ∀ x z, x < 9 → z < 9 → P x z = true → S z = true) (hself : ∀ x, x < 9 → S x = true → P x x = true) (heq : ∀ x z, x < 9 → z < 9 → S x = true → P x z = true → ∀ y, y < 9 → P z y = P x y) :
    oz_sum (fun x => cond (S x) (f x) 0) 9 = oz_sum (fun r => cond (S r && decide (∀ z : Nat, z < r → P r z = false)) (oz_sum (fun x => cond (P r x) (f x) 0) 9) 0) 9 := by
  have e1 : oz_sum (fun x => cond (S x) (f x) 0) 9 = oz_sum (fun x => oz_sum (fun r => cond ((S r && decide (∀ z : Nat, z < r → P r z = false)) && P r x) (f x) 0) 9) 9 := by
    refine oz_sum_congr (fun x hx => ?_)
    cases hS : S x with
    | false =>
      show (0 : Int) = _
      rw [oz_sum_congr (g := fun _ => 0) (fun r hr => ?_), oz_sum_zero]
      cases hP : P r x with
      | false => rw [Bool.and_false]; rfl
      | true => rw [hsub r x hr hx hP] at hS; cases hS
    | true =>
      obtain ⟨r, r1, r2, r3⟩ := oz_least (Q := P x) 9 ⟨x, hx, hself x hx hS⟩
      have g := heq x r hx r1 hS r2
      symm
      refine oz_pick r1 ?_ ?_
      · rw [hsub x r hx r1 r2, g x hx, hself x hx hS, decide_eq_true (fun z hz => by rw [g z (by omega)]; exact r3 z hz)]
        rfl
      · intro b hb q
        rw [Bool.and_eq_true, Bool.and_eq_true, decide_eq_true_eq] at q
        obtain ⟨⟨q1, q2⟩, q3⟩ := q
        have gb := heq b x hb hx q1 q3
        have pb : P x b = true := by rw [gb b hb]; exact hself b hb q1
        rcases Nat.lt_trichotomy b r with c | c | c
        · rw [r3 b c] at pb; cases pb
        · exact c
        · have := q2 r c
          rw [← gb r r1, r2] at this
          cases this
  rw [e1, oz_sum_swap]
  refine oz_sum_congr (fun r hr => ?_)
  cases (S r && decide (∀ z : Nat, z < r → P r z = false)) with
  | false =>
    show oz_sum (fun x => cond (false && P r x) (f x) 0) 9 = 0
    exact (oz_sum_congr (f := fun x => cond (false && P r x) (f x) 0) (g := fun _ => 0) (fun x _ => rfl)).trans (oz_sum_zero 9)
  | true => exact oz_sum_congr (fun x _ => rfl)
def oz_ro (κ : Nat → Int) (A : ab_SG) (n s : Int) : Int := oz_sum (fun x => cond (oz_P s x) (oz_nb κ (v_lk A (x : Int) n 0 s (A 49 11).toNat) x) 0) 9 * ((2520 / oz_cnt (oz_P s) 9 : Nat) : Int)
theorem oz_sm_sum (κ γ : Nat → Int) (s : Int) : ∀ X : Nat, oz_sm κ γ s X = oz_sum (fun x => cond (oz_P s x && oz_lst (γ x) x) (oz_any κ (γ x)) 0) X := by
  intro X
  induction X with
  | zero => rfl
  | succ X ih =>
    show cond (oz_P s X && oz_lst (γ X) X) (oz_sm κ γ s X + oz_any κ (γ X)) (oz_sm κ γ s X) = oz_sum _ X + cond (oz_P s X && oz_lst (γ X) X) (oz_any κ (γ X)) 0
    rw [← ih]
    cases (oz_P s X && oz_lst (γ X) X) with
    | false => show oz_sm κ γ s X = oz_sm κ γ s X + 0; omega
    | true => rfl
theorem oz_cnt_congr {P Q : Nat → Bool} : ∀ {Y : Nat}, (∀ y, y < Y → P y = Q y) → oz_cnt P Y = oz_cnt Q Y := by
  intro Y
  induction Y with
  | zero => intro _; rfl
  | succ Y ih =>
    intro h
    show cond (P Y) (oz_cnt P Y + 1) (oz_cnt P Y) = cond (Q Y) (oz_cnt Q Y + 1) (oz_cnt Q Y)
    rw [ih (fun y hy => h y (Nat.lt_succ_of_lt hy)), h Y (Nat.lt_succ_self Y)]
theorem oz_cnt_in {P : Nat → Bool} {x : Nat} (hp : P x = true) : ∀ {Y : Nat}, x < Y → oz_cnt P Y = oz_cnt (oz_but P x) Y + 1 := by
  intro Y
  induction Y with
  | zero => intro h; exact absurd h (Nat.not_lt_zero x)
  | succ Y ih =>
    intro h
    show cond (P Y) (oz_cnt P Y + 1) (oz_cnt P Y) = cond (oz_but P x Y) (oz_cnt (oz_but P x) Y + 1) (oz_cnt (oz_but P x) Y) + 1
    by_cases c : x = Y
    · subst c
      rw [hp, oz_but_self]
      have e : oz_cnt (oz_but P x) x = oz_cnt P x := oz_cnt_congr (fun y hy => oz_but_ne (Nat.ne_of_lt hy))
      show oz_cnt P x + 1 = oz_cnt (oz_but P x) x + 1
      rw [e]
    · rw [oz_but_ne (fun z => c z.symm), ih (by omega)]
      cases P Y with
      | false => rfl
      | true => rfl
theorem oz_nb_congr {κ : Nat → Int} {g g' : Int} {x : Nat} (h : ∀ y, y < 9 → oz_P g y = oz_P g' y) : oz_nb κ g x = oz_nb κ g' x := by
  have hb : ∀ y, y < 9 → oz_but (oz_P g) x y = oz_but (oz_P g') x y := fun y hy => by unfold oz_but; rw [h y hy]
  unfold oz_nb
  rw [oz_cnt_congr hb, oz_w_congr hb]
/-- the reference's odds are the class's, over 2520 times as much -/
theorem oz_same {A : ab_SG} (hi : RI A) (κ : Nat → Int) {n s : Int} (hn : 1 ≤ n ∧ n ≤ 9) (hs : 1 ≤ s ∧ s < 512) (ht : ∀ z : Nat, z < 9 → pr_hs s (z : Int) = true → (z : Int) < A 49 11) : oz_ro κ A n s = 2520 * oz_ch κ (oz_grp A n s) s := by
  have nT := (N_n hi).1
  have cp := oz_cnt_pos hs.1 hs.2
  have lh : ∀ x z : Nat, z < 9 → (pr_hs (v_lk A (x : Int) n 0 s (A 49 11).toNat) (z : Int) = true ↔ z < (A 49 11).toNat ∧ pr_hs s (z : Int) = true ∧ n ≤ pr_cs A (x : Int) (z : Int) 0 9 0) := fun x z hz => v_lk_h A (x : Int) n 0 s hz (A 49 11).toNat (by omega)
  have lb : ∀ x : Nat, 0 ≤ v_lk A (x : Int) n 0 s (A 49 11).toNat ∧ v_lk A (x : Int) n 0 s (A 49 11).toNat < 512 := fun x => v_lk_b A (x : Int) n 0 s (A 49 11).toNat (by omega)
  have pin : ∀ x z : Nat, z < 9 → (oz_P (v_lk A (x : Int) n 0 s (A 49 11).toNat) z = true ↔ oz_P s z = true ∧ oz_E A n x z) := by
    intro x z hz
    constructor
    · intro q
      have := (lh x z hz).mp q
      exact ⟨this.2.1, this.2.2⟩
    · intro q
      exact (lh x z hz).mpr ⟨by have := ht z hz q.1; omega, q.1, q.2⟩
  have self : ∀ x : Nat, x < 9 → oz_P s x = true → oz_P (v_lk A (x : Int) n 0 s (A 49 11).toNat) x = true := fun x hx q => (pin x x hx).mpr ⟨q, oz_E_refl A hn.2 x⟩
  have same : ∀ x z : Nat, x < 9 → z < 9 → oz_P s x = true → oz_P (v_lk A (x : Int) n 0 s (A 49 11).toNat) z = true → ∀ y : Nat, y < 9 → oz_P (v_lk A (z : Int) n 0 s (A 49 11).toNat) y = oz_P (v_lk A (x : Int) n 0 s (A 49 11).toNat) y := by
    intro x z hx hz _ q y hy
    have e := ((pin x z hz).mp q).2
    rw [Bool.eq_iff_iff, pin z y hy, pin x y hy]
    exact ⟨fun w => ⟨w.1, oz_E_tr hn.2 e w.2⟩, fun w => ⟨w.1, oz_E_tr hn.2 (oz_E_sym hn.2 e) w.2⟩⟩
  have key : oz_sum (fun x => cond (oz_P s x) (oz_nb κ (v_lk A (x : Int) n 0 s (A 49 11).toNat) x) 0) 9 = 2520 * oz_sm κ (oz_grp A n s) s 9 := by
    rw [oz_groups (P := fun x => oz_P (v_lk A (x : Int) n 0 s (A 49 11).toNat)) (fun x z _ hz q => ((pin x z hz).mp q).1) self same, oz_sm_sum, ← oz_sum_mul]
    refine oz_sum_congr (fun r hr => ?_)
    cases hS : oz_P s r with
    | false => exact (Int.mul_zero _).symm
    | true =>
      have eg : oz_grp A n s r = v_lk A (r : Int) n 0 s (A 49 11).toNat := if_pos hS
      rw [eg]
      have el : oz_lst (v_lk A (r : Int) n 0 s (A 49 11).toNat) r = decide (∀ z : Nat, z < r → oz_P (v_lk A (r : Int) n 0 s (A 49 11).toNat) z = false) := by
        rw [Bool.eq_iff_iff, decide_eq_true_eq]
        exact lst_tb (lb r).1 (lb r).2 hr (self r hr hS)
      rw [el]
      cases decide (∀ z : Nat, z < r → oz_P (v_lk A (r : Int) n 0 s (A 49 11).toNat) z = false) with
      | false => exact (Int.mul_zero _).symm
      | true =>
        show oz_sum (fun x => cond (oz_P (v_lk A (r : Int) n 0 s (A 49 11).toNat) x) (oz_nb κ (v_lk A (x : Int) n 0 s (A 49 11).toNat) x) 0) 9 = 2520 * oz_any κ (v_lk A (r : Int) n 0 s (A 49 11).toNat)
        have e1 : oz_sum (fun x => cond (oz_P (v_lk A (r : Int) n 0 s (A 49 11).toNat) x) (oz_nb κ (v_lk A (x : Int) n 0 s (A 49 11).toNat) x) 0) 9 = oz_sum (fun x => 9 ^ (9 - oz_cnt (oz_P (v_lk A (r : Int) n 0 s (A 49 11).toNat)) 9) * cond (oz_P (v_lk A (r : Int) n 0 s (A 49 11).toNat) x) (κ x * oz_sum (fun j => oz_w κ (oz_but (oz_P (v_lk A (r : Int) n 0 s (A 49 11).toNat)) x) 9 j * (((2520 / (j + 1) : Nat)) : Int)) 9) 0) 9 := by
          refine oz_sum_congr (fun x hx => ?_)
          cases hP : oz_P (v_lk A (r : Int) n 0 s (A 49 11).toNat) x with
          | false => exact (Int.mul_zero _).symm
          | true =>
            show oz_nb κ (v_lk A (x : Int) n 0 s (A 49 11).toNat) x = 9 ^ (9 - oz_cnt (oz_P (v_lk A (r : Int) n 0 s (A 49 11).toNat)) 9) * (κ x * oz_sum (fun j => oz_w κ (oz_but (oz_P (v_lk A (r : Int) n 0 s (A 49 11).toNat)) x) 9 j * (((2520 / (j + 1) : Nat)) : Int)) 9)
            rw [oz_nb_congr (same r x hr hx hS hP)]
            unfold oz_nb
            rw [oz_cnt_in hP hx, show 9 - (oz_cnt (oz_but (oz_P (v_lk A (r : Int) n 0 s (A 49 11).toNat)) x) 9 + 1) = 8 - oz_cnt (oz_but (oz_P (v_lk A (r : Int) n 0 s (A 49 11).toNat)) x) 9 by omega, Int.mul_left_comm]
        rw [e1, oz_sum_mul, oz_group]
        unfold oz_any
        rw [Int.mul_left_comm, Int.mul_comm (9 ^ (9 - _))]
  unfold oz_ro oz_ch oz_sh
  rw [key, show oz_cnt (oz_P s) 9 - 1 + 1 = oz_cnt (oz_P s) 9 by omega, Int.mul_assoc]
/-- between nought and all -/
theorem oz_non_b {κ : Nat → Int} {P : Nat → Bool} : ∀ {Y : Nat}, (∀ y, y < Y → 0 ≤ κ y ∧ κ y ≤ 9) → 0 ≤ oz_non κ P Y ∧ oz_non κ P Y ≤ 9 ^ oz_cnt P Y := by
  intro Y
  induction Y with
  | zero =>
    intro _
    show (0 : Int) ≤ 1 ∧ (1 : Int) ≤ 9 ^ 0
    decide
  | succ Y ih =>
    intro h
    have ih := ih (fun y hy => h y (Nat.lt_succ_of_lt hy))
    have b := h Y (Nat.lt_succ_self Y)
    show 0 ≤ cond (P Y) (oz_non κ P Y * (9 - κ Y)) (oz_non κ P Y) ∧ cond (P Y) (oz_non κ P Y * (9 - κ Y)) (oz_non κ P Y) ≤ 9 ^ cond (P Y) (oz_cnt P Y + 1) (oz_cnt P Y)
    cases P Y with
    | false => exact ih
    | true =>
      show 0 ≤ oz_non κ P Y * (9 - κ Y) ∧ oz_non κ P Y * (9 - κ Y) ≤ 9 ^ (oz_cnt P Y + 1)
      refine ⟨Int.mul_nonneg ih.1 (by omega), ?_⟩
      rw [Int.pow_succ]
      have a := Int.mul_le_mul_of_nonneg_left (show 9 - κ Y ≤ 9 by omega) ih.1
      have c := Int.mul_le_mul_of_nonneg_right ih.2 (show (0 : Int) ≤ 9 by decide)
      omega
theorem oz_any_b {κ : Nat → Int} (hk : ∀ y, y < 9 → 0 ≤ κ y ∧ κ y ≤ 9) (g : Int) : 0 ≤ oz_any κ g ∧ oz_any κ g ≤ 387420489 := by
  have b := oz_non_b (P := oz_P g) hk
  have c := oz_cnt_le (oz_P g) 9
  have p : ∀ m : Nat, m ≤ 9 → (9 : Int) ^ m * 9 ^ (9 - m) = 387420489 ∧ 0 ≤ (9 : Int) ^ (9 - m) := by decide
  have q := p _ c
  unfold oz_any
  refine ⟨Int.mul_nonneg (by omega) q.2, ?_⟩
  rw [← q.1]
  exact Int.mul_le_mul_of_nonneg_right (by omega) q.2
theorem oz_sm_b {κ γ : Nat → Int} (hk : ∀ y, y < 9 → 0 ≤ κ y ∧ κ y ≤ 9) (s : Int) : ∀ X : Nat, 0 ≤ oz_sm κ γ s X ∧ oz_sm κ γ s X ≤ ((oz_cnt (oz_P s) X : Nat) : Int) * 387420489 := by
  intro X
  induction X with
  | zero =>
    show (0 : Int) ≤ 0 ∧ (0 : Int) ≤ ((0 : Nat) : Int) * 387420489
    decide
  | succ X ih =>
    have b := oz_any_b hk (γ X)
    show 0 ≤ cond (oz_P s X && oz_lst (γ X) X) (oz_sm κ γ s X + oz_any κ (γ X)) (oz_sm κ γ s X) ∧ cond (oz_P s X && oz_lst (γ X) X) (oz_sm κ γ s X + oz_any κ (γ X)) (oz_sm κ γ s X) ≤ ((cond (oz_P s X) (oz_cnt (oz_P s) X + 1) (oz_cnt (oz_P s) X) : Nat) : Int) * 387420489
    cases oz_P s X with
    | false => exact ih
    | true =>
      cases oz_lst (γ X) X with
      | false =>
        show 0 ≤ oz_sm κ γ s X ∧ oz_sm κ γ s X ≤ ((oz_cnt (oz_P s) X + 1 : Nat) : Int) * 387420489
        omega
      | true =>
        show 0 ≤ oz_sm κ γ s X + oz_any κ (γ X) ∧ oz_sm κ γ s X + oz_any κ (γ X) ≤ ((oz_cnt (oz_P s) X + 1 : Nat) : Int) * 387420489
        omega
theorem oz_odds_bk {A : ab_SG} {p : Nat} (hk : ∀ y : Nat, y < 9 → 0 ≤ A 55 (9 * p + y) ∧ A 55 (9 * p + y) ≤ 9) {n s : Int} (hs : 1 ≤ s ∧ s < 512) : 0 ≤ oz_odds A p n s ∧ oz_odds A p n s ≤ 976299632280 := by
  have cp := oz_cnt_pos hs.1 hs.2
  have cl := oz_cnt_le (oz_P s) 9
  have b := oz_sm_b (κ := oz_kp A p) (γ := oz_grp A n s) hk s 9
  unfold oz_odds oz_ch oz_sh
  rw [show oz_cnt (oz_P s) 9 - 1 + 1 = oz_cnt (oz_P s) 9 by omega]
  have sh : ∀ m : Nat, m ≤ 9 → 1 ≤ m → ((m : Nat) : Int) * 387420489 * ((2520 / m : Nat) : Int) = 976299632280 ∧ 0 ≤ ((2520 / m : Nat) : Int) := by decide +kernel
  have q := sh _ cl cp
  refine ⟨Int.mul_nonneg b.1 q.2, ?_⟩
  rw [← q.1]
  exact Int.mul_le_mul_of_nonneg_right b.2 q.2
theorem oz_odds_b {A : ab_SG} {σ : ab_SG} (hN : NC σ A) {p : Nat} (hp : p < 5) {n s : Int} (hs : 1 ≤ s ∧ s < 512) : 0 ≤ oz_odds A p n s ∧ oz_odds A p n s ≤ 976299632280 := oz_odds_bk (fun y hy => oz_kn_b hN (by omega)) hs
theorem oz_odds_bm {A : ab_SG} {σ : ab_SG} (hN : NM σ A) {p : Nat} (hp : p < 5) {n s : Int} (hs : 1 ≤ s ∧ s < 512) : 0 ≤ oz_odds A p n s ∧ oz_odds A p n s ≤ 976299632280 := oz_odds_bk (fun y hy => on_kn_b hN (by omega)) hs
