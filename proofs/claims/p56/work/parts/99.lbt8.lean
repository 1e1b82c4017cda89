/-! sets told by bits -/
theorem hs_tb0 : ∀ s : Nat, s < 256 → ∀ z : Nat, z < 9 → pr_hs (s : Int) (z : Int) = Nat.testBit s z := by decide +kernel
theorem hs_tb1 : ∀ s : Nat, s < 256 → ∀ z : Nat, z < 9 → pr_hs ((s + 256 : Nat) : Int) (z : Int) = Nat.testBit (s + 256) z := by decide +kernel
theorem hs_tb {s : Nat} (h5 : s < 512) {z : Nat} (hz : z < 9) : pr_hs (s : Int) (z : Int) = Nat.testBit s z := by
  by_cases h : s < 256
  · exact hs_tb0 s h z hz
  · have e := hs_tb1 (s - 256) (by omega) z hz
    rw [show s - 256 + 256 = s by omega] at e
    exact e
theorem hs_ov0 : ∀ s : Nat, s < 256 → ∀ y : Nat, y < 9 → fw_op 9 (s : Int) (fw_op 5 1 (y : Int)) = ((s ||| 2 ^ y : Nat) : Int) := by decide +kernel
theorem hs_ov1 : ∀ s : Nat, s < 256 → ∀ y : Nat, y < 9 → fw_op 9 ((s + 256 : Nat) : Int) (fw_op 5 1 (y : Int)) = (((s + 256) ||| 2 ^ y : Nat) : Int) := by decide +kernel
theorem hs_ov {s : Nat} (h5 : s < 512) {y : Nat} (hy : y < 9) : fw_op 9 (s : Int) (fw_op 5 1 (y : Int)) = ((s ||| 2 ^ y : Nat) : Int) := by
  by_cases h : s < 256
  · exact hs_ov0 s h y hy
  · have e := hs_ov1 (s - 256) (by omega) y hy
    rw [show s - 256 + 256 = s by omega] at e
    exact e
theorem hs_olt {u y : Nat} (h : u < 512) (hy : y < 9) : u ||| 2 ^ y < 512 := Nat.or_lt_two_pow (n := 9) h (Nat.pow_lt_pow_right (by decide) hy)
theorem hs_or {s : Int} (h0 : 0 ≤ s) (h5 : s < 512) {y z : Nat} (hy : y < 9) (hz : z < 9) : pr_hs (fw_op 9 s (fw_op 5 1 (y : Int))) (z : Int) = (pr_hs s (z : Int) || z.beq y) := by
  obtain ⟨u, rfl⟩ := Int.eq_ofNat_of_zero_le h0
  have hu : u < 512 := by omega
  rw [hs_ov hu hy, hs_tb (hs_olt hu hy) hz, hs_tb hu hz, Nat.testBit_or]
  congr 1
  by_cases q : y = z
  · rw [q, Nat.testBit_two_pow_self, Nat.beq_refl]
  · rw [Nat.testBit_two_pow_of_ne q]
    cases e : z.beq y with
    | false => rfl
    | true => exact absurd (Nat.eq_of_beq_eq_true e).symm q
theorem hs_ob {s : Int} (h0 : 0 ≤ s) (h5 : s < 512) {y : Nat} (hy : y < 9) : 0 ≤ fw_op 9 s (fw_op 5 1 (y : Int)) ∧ fw_op 9 s (fw_op 5 1 (y : Int)) < 512 := by
  obtain ⟨u, rfl⟩ := Int.eq_ofNat_of_zero_le h0
  have hu : u < 512 := by omega
  have := hs_olt hu hy
  rw [hs_ov hu hy]
  omega
theorem hs_p2 : ∀ t : Nat, t < 10 → p2_n (t : Int) = ((2 ^ t : Nat) : Int) := by decide +kernel
theorem hs_top {s : Int} (h0 : 0 ≤ s) (h5 : s < 512) {t z : Nat} (ht : t < 10) (hz : z < 9) (h1 : s < p2_n (t : Int)) (h2 : t ≤ z) : pr_hs s (z : Int) = false := by
  obtain ⟨u, rfl⟩ := Int.eq_ofNat_of_zero_le h0
  rw [hs_p2 t ht] at h1
  have h3 : 2 ^ t ≤ 2 ^ z := Nat.pow_le_pow_right (by decide) h2
  rw [hs_tb (by omega) hz]
  exact Nat.testBit_lt_two_pow (Nat.lt_of_lt_of_le (by omega) h3)
theorem hs_0 : ∀ z : Nat, z < 9 → pr_hs 0 (z : Int) = false := by decide +kernel
theorem v_lk_b (A : ab_SG) (x n w s : Int) : ∀ y : Nat, y ≤ 9 → 0 ≤ v_lk A x n w s y ∧ v_lk A x n w s y < 512
  | 0, _ => ⟨Int.le_refl 0, by show (0 : Int) < 512; decide⟩
  | y + 1, h => by
    have e := v_lk_b A x n w s y (by omega)
    rw [v_lk_s]
    split
    · exact hs_ob e.1 e.2 (by omega)
    · exact e
theorem v_lk_h (A : ab_SG) (x n w s : Int) {z : Nat} (hz : z < 9) : ∀ y : Nat, y ≤ 9 → (pr_hs (v_lk A x n w s y) (z : Int) = true ↔ z < y ∧ pr_hs s (z : Int) = true ∧ n ≤ pr_cs A x (z : Int) w 9 0)
  | 0, _ => by
    have e : pr_hs (v_lk A x n w s 0) (z : Int) = false := hs_0 z hz
    rw [e]
    exact ⟨fun q => Bool.noConfusion q, fun q => absurd q.1 (Nat.not_lt_zero _)⟩
  | y + 1, h => by
    have e := v_lk_h A x n w s hz y (by omega)
    have b := v_lk_b A x n w s y (by omega)
    rw [v_lk_s]
    by_cases c : pr_hs s (y : Int) = true ∧ n ≤ pr_cs A x (y : Int) w 9 0
    · rw [if_pos c, hs_or b.1 b.2 (by omega) hz, Bool.or_eq_true, e]
      constructor
      · rintro (q | q)
        · exact ⟨by omega, q.2⟩
        · have q2 := Nat.eq_of_beq_eq_true q
          rw [q2]
          exact ⟨by omega, c⟩
      · rintro ⟨q1, q2⟩
        by_cases zy : z = y
        · exact Or.inr (by rw [zy, Nat.beq_refl])
        · exact Or.inl ⟨by omega, q2⟩
    · rw [if_neg c, e]
      constructor
      · rintro ⟨q1, q2⟩
        exact ⟨by omega, q2⟩
      · rintro ⟨q1, q2⟩
        refine ⟨?_, q2⟩
        have : z ≠ y := fun zy => c (by rw [← zy]; exact q2)
        omega
theorem v_set_b {A : ab_SG} (hi : RI A) (hb : nb_is A) {c : Int} (h1 : -1 ≤ c) (h2 : c < A 49 12) : 0 ≤ v_set A c ∧ v_set A c < p2_n (A 49 11) := by
  have n := N_n hi
  unfold v_set
  by_cases q : c = -1
  · rw [if_pos q]
    have e : ∀ t : Nat, t < 10 → 1 ≤ p2_n (t : Int) := by decide
    have e2 := e (A 49 11).toNat (by omega)
    rw [show (((A 49 11).toNat : Nat) : Int) = A 49 11 by omega] at e2
    omega
  · rw [if_neg q]
    have e := hb.2.1 c.toNat (by omega)
    omega
theorem v_set_512 {A : ab_SG} (hi : RI A) (hb : nb_is A) {c : Int} (h1 : -1 ≤ c) (h2 : c < A 49 12) : 0 ≤ v_set A c ∧ v_set A c < 512 := by
  have n := N_n hi
  have e := v_set_b hi hb h1 h2
  have b := (p2_le (A 49 11).toNat (by omega)).1
  rw [show (((A 49 11).toNat : Nat) : Int) = A 49 11 by omega] at b
  omega
theorem v_set_top {A : ab_SG} (hi : RI A) (hb : nb_is A) {c : Int} (h1 : -1 ≤ c) (h2 : c < A 49 12) {z : Nat} (hz : z < 9) (h : pr_hs (v_set A c) (z : Int) = true) : (z : Int) < A 49 11 := by
  have n := N_n hi
  have e := v_set_b hi hb h1 h2
  have b := v_set_512 hi hb h1 h2
  by_cases q : (z : Int) < A 49 11
  · exact q
  · have t := hs_top b.1 b.2 (t := (A 49 11).toNat) (by omega) hz (by rw [show (((A 49 11).toNat : Nat) : Int) = A 49 11 by omega]; exact e.2) (by omega)
    rw [t] at h
    cases h
section
variable {l : Launch} {cy : Nat → ClassId} {ad wr cr : Nat → Nat} {D : va_G}
end
