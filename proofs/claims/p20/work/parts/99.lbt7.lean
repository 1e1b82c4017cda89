/-! sets told by bits -/
theorem hs_tb0 : ∀ s : Nat, s < 256 → ∀ z : Nat, z < 9 → pr_hs (s : Int) (z : Int) = Nat.testBit s z := by decide +kernel
theorem hs_tb1 : ∀ s : Nat, s < 256 → ∀ z : Nat, z < 9 → pr_hs ((s + 256 : Nat) : Int) (z : Int) = Nat.testBit (s + 256) z := by decide +kernel
theorem hs_tb {s : Nat} (h5 : s < 512) {z : Nat} (hz : z < 9) : pr_hs (s : Int) (z : Int) = Nat.testBit s z := by
  by_cases h : s < 256
  · exact hs_tb0 s h z hz
  · have e := hs_tb1 (s - 256) (by omega) z hz
    rw [show s - 256 + 256 = s by omega] at e
    exact e
theorem hs_ov0 : ∀ s : Nat, s < 256 → ∀ y : Nat, y < 9 → fw_op 9 (s : Int) (fw_op 5 1 (y : Int)) = ((s ||| 2 ^ y : Nat) : Int) := by decide +kernel
theorem hs_ov1 : ∀ s : Nat, s < 256 → ∀ y : Nat, y < 9 → fw_op 9 ((s + 256 : Nat) : Int) (fw_op 5 1 (y : Int)) = (((s + 256) ||| 2 ^ y : Nat) : Int) := by decide +kernel
theorem hs_ov {s : Nat} (h5 : s < 512) {y : Nat} (hy : y < 9) : fw_op 9 (s : Int) (fw_op 5 1 (y : Int)) = ((s ||| 2 ^ y : Nat) : Int) := by
  by_cases h : s < 256
  · exact hs_ov0 s h y hy
  · have e := hs_ov1 (s - 256) (by omega) y hy
    rw [show s - 256 + 256 = s by omega] at e
    exact e
theorem hs_olt {u y : Nat} (h : u < 512) (hy : y < 9) : u ||| 2 ^ y < 512 := Nat.or_lt_two_pow (n := 9) h (Nat.pow_lt_pow_right (by decide) hy)
theorem hs_or {s : Int} (h0 : 0 ≤ s) (h5 : s < 512) {y z : Nat} (hy : y < 9) (hz : z < 9) : pr_hs (fw_op 9 s (fw_op 5 1 (y : Int))) (z : Int) = (pr_hs s (z : Int) || z.beq y) := by
  obtain ⟨u, rfl⟩ := Int.eq_ofNat_of_zero_le h0
  have hu : u < 512 := by omega
  rw [hs_ov hu hy, hs_tb (hs_olt hu hy) hz, hs_tb hu hz, Nat.testBit_or]
  congr 1
  by_cases q : y = z
  · rw [q, Nat.testBit_two_pow_self, Nat.beq_refl]
  · rw [Nat.testBit_two_pow_of_ne q]
    cases e : z.beq y with
    | false => rfl
    | true => exact absurd (Nat.eq_of_beq_eq_true e).symm q
theorem hs_ob {s : Int} (h0 : 0 ≤ s) (h5 : s < 512) {y : Nat} (hy : y < 9) : 0 ≤ fw_op 9 s (fw_op 5 1 (y : Int)) ∧ fw_op 9 s (fw_op 5 1 (y : Int)) < 512 := by
  obtain ⟨u, rfl⟩ := Int.eq_ofNat_of_zero_le h0
  have hu : u < 512 := by omega
  have := hs_olt hu hy
  rw [hs_ov hu hy]
  omega
theorem hs_least0 : ∀ s : Nat, s < 256 → ∀ x : Nat, x < 9 → pr_hs (s : Int) (x : Int) = true → (fw_c (fw_op 8 (s : Int) (-(s : Int))) = fw_c (fw_op 5 1 (x : Int)) ↔ fw_c (fw_op 8 (s : Int) (fw_op 5 1 (x : Int) - 1)) = 0) := by decide +kernel
theorem hs_least1 : ∀ s : Nat, s < 256 → ∀ x : Nat, x < 9 → pr_hs ((s + 256 : Nat) : Int) (x : Int) = true → (fw_c (fw_op 8 ((s + 256 : Nat) : Int) (-((s + 256 : Nat) : Int))) = fw_c (fw_op 5 1 (x : Int)) ↔ fw_c (fw_op 8 ((s + 256 : Nat) : Int) (fw_op 5 1 (x : Int) - 1)) = 0) := by decide +kernel
theorem hs_least {s : Int} (h0 : 0 ≤ s) (h5 : s < 512) {x : Nat} (hx : x < 9) : pr_hs s (x : Int) = true → (fw_c (fw_op 8 s (-s)) = fw_c (fw_op 5 1 (x : Int)) ↔ fw_c (fw_op 8 s (fw_op 5 1 (x : Int) - 1)) = 0) := by
  obtain ⟨u, rfl⟩ := Int.eq_ofNat_of_zero_le h0
  by_cases h : u < 256
  · exact hs_least0 u h x hx
  · have e := hs_least1 (u - 256) (by omega) x hx
    rw [show ((u - 256 + 256 : Nat) : Int) = (u : Int) by omega] at e
    exact e
theorem hs_p2 : ∀ t : Nat, t < 10 → p2_n (t : Int) = ((2 ^ t : Nat) : Int) := by decide +kernel
theorem hs_top {s : Int} (h0 : 0 ≤ s) (h5 : s < 512) {t z : Nat} (ht : t < 10) (hz : z < 9) (h1 : s < p2_n (t : Int)) (h2 : t ≤ z) : pr_hs s (z : Int) = false := by
  obtain ⟨u, rfl⟩ := Int.eq_ofNat_of_zero_le h0
  rw [hs_p2 t ht] at h1
  have h3 : 2 ^ t ≤ 2 ^ z := Nat.pow_le_pow_right (by decide) h2
  rw [hs_tb (by omega) hz]
  exact Nat.testBit_lt_two_pow (Nat.lt_of_lt_of_le (by omega) h3)
theorem hs_0 : ∀ z : Nat, z < 9 → pr_hs 0 (z : Int) = false := by decide +kernel
theorem v_lk_b (A : ab_SG) (x n w s : Int) : ∀ y : Nat, y ≤ 9 → 0 ≤ v_lk A x n w s y ∧ v_lk A x n w s y < 512
  | 0, _ => ⟨Int.le_refl 0, by show (0 : Int) < 512; decide⟩
  | y + 1, h => by
    have e := v_lk_b A x n w s y (by omega)
    rw [v_lk_s]
    split
    · exact hs_ob e.1 e.2 (by omega)
    · exact e
theorem v_lk_h (A : ab_SG) (x n w s : Int) {z : Nat} (hz : z < 9) : ∀ y : Nat, y ≤ 9 → (pr_hs (v_lk A x n w s y) (z : Int) = true ↔ z < y ∧ pr_hs s (z : Int) = true ∧ n ≤ pr_cs A x (z : Int) w 9 0)
  | 0, _ => by
    have e : pr_hs (v_lk A x n w s 0) (z : Int) = false := hs_0 z hz
    rw [e]
    exact ⟨fun q => Bool.noConfusion q, fun q => absurd q.1 (Nat.not_lt_zero _)⟩
  | y + 1, h => by
    have e := v_lk_h A x n w s hz y (by omega)
    have b := v_lk_b A x n w s y (by omega)
    rw [v_lk_s]
    by_cases c : pr_hs s (y : Int) = true ∧ n ≤ pr_cs A x (y : Int) w 9 0
    · rw [if_pos c, hs_or b.1 b.2 (by omega) hz, Bool.or_eq_true, e]
      constructor
      · rintro (q | q)
        · exact ⟨by omega, q.2⟩
        · have q2 := Nat.eq_of_beq_eq_true q
          rw [q2]
          exact ⟨by omega, c⟩
      · rintro ⟨q1, q2⟩
        by_cases zy : z = y
        · exact Or.inr (by rw [zy, Nat.beq_refl])
        · exact Or.inl ⟨by omega, q2⟩
    · rw [if_neg c, e]
      constructor
      · rintro ⟨q1, q2⟩
        exact ⟨by omega, q2⟩
      · rintro ⟨q1, q2⟩
        refine ⟨?_, q2⟩
        have : z ≠ y := fun zy => c (by rw [← zy]; exact q2)
        omega
theorem v_set_b {A : ab_SG} (hi : RI A) (hb : nb_is A) {c : Int} (h1 : -1 ≤ c) (h2 : c < A 49 12) : 0 ≤ v_set A c ∧ v_set A c < p2_n (A 49 11) := by
  have n := N_n hi
  unfold v_set
  by_cases q : c = -1
  · rw [if_pos q]
    have e : ∀ t : Nat, t < 10 → 1 ≤ p2_n (t : Int) := by decide
    have e2 := e (A 49 11).toNat (by omega)
    rw [show (((A 49 11).toNat : Nat) : Int) = A 49 11 by omega] at e2
    omega
  · rw [if_neg q]
    have e := hb.2.1 c.toNat (by omega)
    omega
theorem v_set_512 {A : ab_SG} (hi : RI A) (hb : nb_is A) {c : Int} (h1 : -1 ≤ c) (h2 : c < A 49 12) : 0 ≤ v_set A c ∧ v_set A c < 512 := by
  have n := N_n hi
  have e := v_set_b hi hb h1 h2
  have b := (p2_le (A 49 11).toNat (by omega)).1
  rw [show (((A 49 11).toNat : Nat) : Int) = A 49 11 by omega] at b
  omega
theorem v_set_top {A : ab_SG} (hi : RI A) (hb : nb_is A) {c : Int} (h1 : -1 ≤ c) (h2 : c < A 49 12) {z : Nat} (hz : z < 9) (h : pr_hs (v_set A c) (z : Int) = true) : (z : Int) < A 49 11 := by
  have n := N_n hi
  have e := v_set_b hi hb h1 h2
  have b := v_set_512 hi hb h1 h2
  by_cases q : (z : Int) < A 49 11
  · exact q
  · have t := hs_top b.1 b.2 (t := (A 49 11).toNat) (by omega) hz (by rw [show (((A 49 11).toNat : Nat) : Int) = A 49 11 by omega]; exact e.2) (by omega)
    rw [t] at h
    cases h
theorem sn_refl (A : ab_SG) (x i w : Int) : pr_sn A x x i w := by
  unfold pr_sn
  split
  · split
    · rfl
    · exact ⟨Or.inr rfl, Or.inr rfl⟩
  · exact Iff.rfl
theorem cs_refl (A : ab_SG) (x w : Int) : ∀ f i : Nat, pr_cs A x x w f i = ((i + f : Nat) : Int)
  | 0, i => rfl
  | f + 1, i => by
    rw [pr_cs_s, if_pos (sn_refl A x i w), cs_refl A x w f (i + 1)]
    omega
/-- how many beginnings, of the first tunes -/
def v_cnt (A : ab_SG) (n w s : Int) : Nat → Int
  | 0 => 0
  | x + 1 => if pr_hs s (x : Int) = true ∧ fw_c (fw_op 8 (v_lk A (x : Int) n w s (A 49 11).toNat) (fw_op 5 1 (x : Int) - 1)) = 0 then v_cnt A n w s x + 1 else v_cnt A n w s x
theorem v_cnt_s (A : ab_SG) (n w s : Int) (x : Nat) : v_cnt A n w s (x + 1) = if pr_hs s (x : Int) = true ∧ fw_c (fw_op 8 (v_lk A (x : Int) n w s (A 49 11).toNat) (fw_op 5 1 (x : Int) - 1)) = 0 then v_cnt A n w s x + 1 else v_cnt A n w s x := rfl
theorem v_cnt_top {A : ab_SG} (hi : RI A) (hb : nb_is A) {n w c : Int} (h1 : -1 ≤ c) (h2 : c < A 49 12) : ∀ f x : Nat, x + f = 9 → A 49 11 ≤ (x : Int) → v_cnt A n w (v_set A c) 9 = v_cnt A n w (v_set A c) x
  | 0, x, h, _ => by
    have e : x = 9 := by omega
    rw [e]
  | f + 1, x, h, hx => by
    rw [v_cnt_top hi hb h1 h2 f (x + 1) (by omega) (by omega), v_cnt_s, if_neg (fun q => by
      have := v_set_top hi hb h1 h2 (z := x) (by omega) q.1
      omega)]
def v_parts (A : ab_SG) (n w c : Int) : Int := if (1 ≤ n ∧ n ≤ 9) ∧ (0 ≤ w ∧ w ≤ 3) ∧ (-1 ≤ c ∧ c < A 49 12) then v_cnt A n w (v_set A c) (A 49 11).toNat else -1
def sp_isLeast : fw_SP := fun as σ K => ∃ s x : Int, as = [(0, 0, s), (0, 0, x)] ∧ K (some (0, 0, fw_bo (fw_c (fw_op 8 s (-s)) = fw_c (fw_op 5 1 x)))) σ
def sp_parts : fw_SP := fun as σ K => ∃ (A : ab_SG) (n w c : Int), as = [(2, 0, 0), (0, 0, n), (0, 0, w), (0, 0, c)] ∧ (fw_c n = n ∧ fw_c w = w ∧ fw_c c = c) ∧ NC σ A ∧ K (some (0, 0, v_parts A n w c)) σ
def sp_m_parts : fw_SP := fun as σ K => ∃ (A : ab_SG) (n w c : Int), as = [(2, 93, 0), (0, 0, n), (0, 0, w), (0, 0, c)] ∧ (fw_c n = n ∧ fw_c w = w ∧ fw_c c = c) ∧ NM σ A ∧ K (some (0, 0, v_parts A n w c)) (ab_ups σ 93 0 0)
abbrev fk_isLeast : List fw_CR := []
abbrev st_isLeast : fw_K → fw_KR → fw_K := fw_st vwCl nn_sh nn_kd fw_kv fw_wc (nn_KI1.map (fun x => x.1)) (nn_KJ1.map (fun x => x.1)) (nn_PF1.map (fun x => x.1)) (nn_PS1.map (fun x => x.1)) fk_isLeast 0 nn_dt77 2 1
theorem fs_isLeast_0 {G : fw_K} {R : fw_KR} (hG : fw_cls st_isLeast R G) {s x : Int} {σ : ab_SG} (h : (fw_c (fw_op 8 s (-s)) ≠ fw_c (fw_op 5 1 x) → (0 ≤ fw_c 0 ∧ fw_c 0 ≤ 1) ∧ R (some (0, 0, 0)) σ) ∧ (fw_c (fw_op 8 s (-s)) = fw_c (fw_op 5 1 x) → (0 ≤ fw_c 1 ∧ fw_c 1 ≤ 1) ∧ R (some (0, 0, 1)) σ)) : G 0 [some (0, 0, s), some (0, 0, x)] [] σ := fw_on hG [] 200 h
abbrev fk_parts : List fw_CR := [(169, 1, true, 6, 1, sp_setOf3), (184, 1, false, 0, 0, sp_isBid), (187, 1, false, 0, 0, sp_isHow), (190, 1, true, 6, 1, sp_isChoice3), (193, 4, true, 6, 2, sp_likes3), (197, 2, false, 0, 0, sp_has), (200, 2, false, 0, 0, sp_isLeast)]
abbrev st_parts : fw_K → fw_KR → fw_K := fw_st vwCl nn_sh nn_kd fw_kv fw_wc (nn_KI1.map (fun x => x.1)) (nn_KJ1.map (fun x => x.1)) (nn_PF1.map (fun x => x.1)) (nn_PS1.map (fun x => x.1)) fk_parts 3 nn_dt76 7 0
theorem fs_parts_0 {G : fw_K} {R : fw_KR} (hG : fw_cls st_parts R G) {n w c : Int} {σ : ab_SG} (h : sp_isBid [(0, 0, n)] σ (fun rv σ2 => G 4 [some (2, 0, 0), some (0, 0, n), some (0, 0, w), some (0, 0, c), none, none, none] (rv.toList ++ []) σ2)) : G 0 [some (2, 0, 0), some (0, 0, n), some (0, 0, w), some (0, 0, c), none, none, none] [] σ := fw_on hG [4, 11, 22, 35, 43, 57, 73, 78, 84] 200 h
theorem fs_parts_4 {G : fw_K} {R : fw_KR} (hG : fw_cls st_parts R G) {a1 a2 a3 b0 : Int} {σ : ab_SG} (h : (fw_c b0 = 0 → R (some (0, 0, (-1))) σ) ∧ (fw_c b0 ≠ 0 → sp_isHow [(0, 0, a2)] σ (fun rv σ2 => G 11 [some (2, 0, 0), some (0, 0, a1), some (0, 0, a2), some (0, 0, a3), none, none, none] (rv.toList ++ []) σ2))) : G 4 [some (2, 0, 0), some (0, 0, a1), some (0, 0, a2), some (0, 0, a3), none, none, none] [(0, 0, b0)] σ := fw_on hG [4, 11, 22, 35, 43, 57, 73, 78, 84] 200 h
theorem fs_parts_11 {G : fw_K} {R : fw_KR} (hG : fw_cls st_parts R G) {a1 a2 a3 b0 : Int} {σ : ab_SG} (h : (fw_c b0 = 0 → R (some (0, 0, (-1))) σ) ∧ (fw_c b0 ≠ 0 → sp_isChoice3 [(2, 3, 0), (0, 0, a3)] σ (fun rv σ2 => G 22 [some (2, 0, 0), some (0, 0, a1), some (0, 0, a2), some (0, 0, a3), none, none, none] (rv.toList ++ []) σ2))) : G 11 [some (2, 0, 0), some (0, 0, a1), some (0, 0, a2), some (0, 0, a3), none, none, none] [(0, 0, b0)] σ := fw_on hG [4, 11, 22, 35, 43, 57, 73, 78, 84] 200 h
theorem fs_parts_22 {G : fw_K} {R : fw_KR} (hG : fw_cls st_parts R G) {a1 a2 a3 b0 : Int} {σ : ab_SG} (h : (fw_c b0 ≠ 0 → sp_setOf3 [(2, 3, 0), (0, 0, a3)] σ (fun rv σ2 => G 35 [some (2, 0, 0), some (0, 0, a1), some (0, 0, a2), some (0, 0, a3), none, none, none] (rv.toList ++ []) σ2)) ∧ (fw_c b0 = 0 → R (some (0, 0, (-1))) σ)) : G 22 [some (2, 0, 0), some (0, 0, a1), some (0, 0, a2), some (0, 0, a3), none, none, none] [(0, 0, b0)] σ := fw_on hG [4, 11, 22, 35, 43, 57, 73, 78, 84] 200 h
theorem fs_parts_35 {G : fw_K} {R : fw_KR} (hG : fw_cls st_parts R G) {a1 a2 a3 b0 : Int} {σ : ab_SG} (h : G 43 [some (2, 0, 0), some (0, 0, a1), some (0, 0, a2), some (0, 0, a3), some (0, 0, b0), some (0, 0, 0), some (0, 0, 0)] [] σ) : G 35 [some (2, 0, 0), some (0, 0, a1), some (0, 0, a2), some (0, 0, a3), none, none, none] [(0, 0, b0)] σ := fw_on hG [4, 11, 22, 35, 43, 57, 73, 78, 84] 200 h
theorem fs_parts_43 {G : fw_K} {R : fw_KR} (hG : fw_cls st_parts R G) {a1 a2 a3 a4 a5 a6 : Int} {σ : ab_SG} (h : (fw_c 9 ≤ fw_c a6 → R (some (0, 0, a5)) σ) ∧ (fw_c a6 < fw_c 9 → sp_has [(0, 0, a4), (0, 0, a6)] σ (fun rv σ2 => G 57 [some (2, 0, 0), some (0, 0, a1), some (0, 0, a2), some (0, 0, a3), some (0, 0, a4), some (0, 0, a5), some (0, 0, a6)] (rv.toList ++ []) σ2))) : G 43 [some (2, 0, 0), some (0, 0, a1), some (0, 0, a2), some (0, 0, a3), some (0, 0, a4), some (0, 0, a5), some (0, 0, a6)] [] σ := fw_on hG [4, 11, 22, 35, 43, 57, 73, 78, 84] 200 h
theorem fs_parts_57 {G : fw_K} {R : fw_KR} (hG : fw_cls st_parts R G) {a1 a2 a3 a4 a5 a6 b0 : Int} {σ : ab_SG} (h : (fw_c b0 = 0 → G 84 [some (2, 0, 0), some (0, 0, a1), some (0, 0, a2), some (0, 0, a3), some (0, 0, a4), some (0, 0, a5), some (0, 0, a6)] [] σ) ∧ (fw_c b0 ≠ 0 → sp_likes3 [(2, 3, 0), (0, 0, a6), (0, 0, a1), (0, 0, a2), (0, 0, a4)] σ (fun rv σ2 => G 73 [some (2, 0, 0), some (0, 0, a1), some (0, 0, a2), some (0, 0, a3), some (0, 0, a4), some (0, 0, a5), some (0, 0, a6)] (rv.toList ++ []) σ2))) : G 57 [some (2, 0, 0), some (0, 0, a1), some (0, 0, a2), some (0, 0, a3), some (0, 0, a4), some (0, 0, a5), some (0, 0, a6)] [(0, 0, b0)] σ := fw_on hG [4, 11, 22, 35, 43, 57, 73, 78, 84] 200 h
theorem fs_parts_84 {G : fw_K} {R : fw_KR} (hG : fw_cls st_parts R G) {a1 a2 a3 a4 a5 a6 : Int} {σ : ab_SG} (h : G 43 [some (2, 0, 0), some (0, 0, a1), some (0, 0, a2), some (0, 0, a3), some (0, 0, a4), some (0, 0, a5), some (0, 0, a6 + 1)] [] σ) : G 84 [some (2, 0, 0), some (0, 0, a1), some (0, 0, a2), some (0, 0, a3), some (0, 0, a4), some (0, 0, a5), some (0, 0, a6)] [] σ := fw_on hG [4, 11, 22, 35, 43, 57, 73, 78, 84] 200 h
theorem fs_parts_73 {G : fw_K} {R : fw_KR} (hG : fw_cls st_parts R G) {a1 a2 a3 a4 a5 a6 b0 : Int} {σ : ab_SG} (h : sp_isLeast [(0, 0, b0), (0, 0, a6)] σ (fun rv σ2 => G 78 [some (2, 0, 0), some (0, 0, a1), some (0, 0, a2), some (0, 0, a3), some (0, 0, a4), some (0, 0, a5), some (0, 0, a6)] (rv.toList ++ []) σ2)) : G 73 [some (2, 0, 0), some (0, 0, a1), some (0, 0, a2), some (0, 0, a3), some (0, 0, a4), some (0, 0, a5), some (0, 0, a6)] [(0, 0, b0)] σ := fw_on hG [4, 11, 22, 35, 43, 57, 73, 78, 84] 200 h
theorem fs_parts_78 {G : fw_K} {R : fw_KR} (hG : fw_cls st_parts R G) {a1 a2 a3 a4 a5 a6 b0 : Int} {σ : ab_SG} (h : (fw_c b0 = 0 → G 84 [some (2, 0, 0), some (0, 0, a1), some (0, 0, a2), some (0, 0, a3), some (0, 0, a4), some (0, 0, a5), some (0, 0, a6)] [] σ) ∧ (fw_c b0 ≠ 0 → G 84 [some (2, 0, 0), some (0, 0, a1), some (0, 0, a2), some (0, 0, a3), some (0, 0, a4), some (0, 0, a5 + 1), some (0, 0, a6)] [] σ)) : G 78 [some (2, 0, 0), some (0, 0, a1), some (0, 0, a2), some (0, 0, a3), some (0, 0, a4), some (0, 0, a5), some (0, 0, a6)] [(0, 0, b0)] σ := fw_on hG [4, 11, 22, 35, 43, 57, 73, 78, 84] 200 h
abbrev fk_m_parts : List fw_CR := [(171, 3, false, 0, 0, sp_m_isIn), (216, 2, false, 0, 0, sp_m_has), (261, 0, true, 11, 0, sp_m_tunes), (297, 1, false, 0, 1, sp_m_isHow), (300, 1, true, 11, 1, sp_m_isLeft), (303, 1, true, 11, 1, sp_m_left), (306, 4, true, 11, 5, sp_m_likes)]
abbrev st_m_parts : fw_K → fw_KR → fw_K := fw_st vwCl nn_sh nn_kd fw_kv fw_wc (nn_KI20.map (fun x => x.1)) (nn_KJ20.map (fun x => x.1)) (nn_PF20.map (fun x => x.1)) (nn_PS20.map (fun x => x.1)) fk_m_parts 6 nn_dt260 6 0
theorem fs_m_parts_0 {G : fw_K} {R : fw_KR} (hG : fw_cls st_m_parts R G) {n w c : Int} {σ : ab_SG} (h : sp_m_isIn [(0, 0, n), (0, 0, 1), (0, 0, 9)] (ab_ups σ 93 0 (fw_c 0)) (fun rv σ2 => G 12 [some (2, 93, 0), some (0, 0, n), some (0, 0, w), some (0, 0, c), none, none] (rv.toList ++ []) σ2)) : G 0 [some (2, 93, 0), some (0, 0, n), some (0, 0, w), some (0, 0, c), none, none] [] σ := fw_on hG [12, 19, 27, 38, 44, 52, 57, 70, 73, 86] 200 h
theorem fs_m_parts_12 {G : fw_K} {R : fw_KR} (hG : fw_cls st_m_parts R G) {a1 a2 a3 b0 : Int} {σ : ab_SG} (h : (fw_c b0 = 0 → R (some (0, 0, (-1))) σ) ∧ (fw_c b0 ≠ 0 → sp_m_isHow [(0, 0, a2)] σ (fun rv σ2 => G 19 [some (2, 93, 0), some (0, 0, a1), some (0, 0, a2), some (0, 0, a3), none, none] (rv.toList ++ []) σ2))) : G 12 [some (2, 93, 0), some (0, 0, a1), some (0, 0, a2), some (0, 0, a3), none, none] [(0, 0, b0)] σ := fw_on hG [12, 19, 27, 38, 44, 52, 57, 70, 73, 86] 200 h
theorem fs_m_parts_19 {G : fw_K} {R : fw_KR} (hG : fw_cls st_m_parts R G) {a1 a2 a3 b0 : Int} {σ : ab_SG} (h : (fw_c b0 = 0 → R (some (0, 0, (-1))) σ) ∧ (fw_c b0 ≠ 0 → sp_m_isLeft [(2, 93, 0), (0, 0, a3)] σ (fun rv σ2 => G 27 [some (2, 93, 0), some (0, 0, a1), some (0, 0, a2), some (0, 0, a3), none, none] (rv.toList ++ []) σ2))) : G 19 [some (2, 93, 0), some (0, 0, a1), some (0, 0, a2), some (0, 0, a3), none, none] [(0, 0, b0)] σ := fw_on hG [12, 19, 27, 38, 44, 52, 57, 70, 73, 86] 200 h
theorem fs_m_parts_27 {G : fw_K} {R : fw_KR} (hG : fw_cls st_m_parts R G) {a1 a2 a3 b0 : Int} {σ : ab_SG} (h : (fw_c b0 ≠ 0 → G 38 [some (2, 93, 0), some (0, 0, a1), some (0, 0, a2), some (0, 0, a3), some (0, 0, 0), some (0, 0, 0)] [] σ) ∧ (fw_c b0 = 0 → R (some (0, 0, (-1))) σ)) : G 27 [some (2, 93, 0), some (0, 0, a1), some (0, 0, a2), some (0, 0, a3), none, none] [(0, 0, b0)] σ := fw_on hG [12, 19, 27, 38, 44, 52, 57, 70, 73, 86] 200 h
theorem fs_m_parts_38 {G : fw_K} {R : fw_KR} (hG : fw_cls st_m_parts R G) {a1 a2 a3 a4 a5 : Int} {σ : ab_SG} (h : sp_m_tunes [(2, 93, 0)] σ (fun rv σ2 => G 44 [some (2, 93, 0), some (0, 0, a1), some (0, 0, a2), some (0, 0, a3), some (0, 0, a4), some (0, 0, a5)] (rv.toList ++ [(0, 0, a5)]) σ2)) : G 38 [some (2, 93, 0), some (0, 0, a1), some (0, 0, a2), some (0, 0, a3), some (0, 0, a4), some (0, 0, a5)] [] σ := fw_on hG [12, 19, 27, 38, 44, 52, 57, 70, 73, 86] 200 h
theorem fs_m_parts_44 {G : fw_K} {R : fw_KR} (hG : fw_cls st_m_parts R G) {a1 a2 a3 a4 a5 b0 b1 : Int} {σ : ab_SG} (h : (fw_c b0 ≤ fw_c b1 → R (some (0, 0, a4)) σ) ∧ (fw_c b1 < fw_c b0 → sp_m_left [(2, 93, 0), (0, 0, a3)] σ (fun rv σ2 => G 52 [some (2, 93, 0), some (0, 0, a1), some (0, 0, a2), some (0, 0, a3), some (0, 0, a4), some (0, 0, a5)] (rv.toList ++ []) σ2))) : G 44 [some (2, 93, 0), some (0, 0, a1), some (0, 0, a2), some (0, 0, a3), some (0, 0, a4), some (0, 0, a5)] [(0, 0, b0), (0, 0, b1)] σ := fw_on hG [12, 19, 27, 38, 44, 52, 57, 70, 73, 86] 200 h
theorem fs_m_parts_52 {G : fw_K} {R : fw_KR} (hG : fw_cls st_m_parts R G) {a1 a2 a3 a4 a5 b0 : Int} {σ : ab_SG} (h : sp_m_has [(0, 0, b0), (0, 0, a5)] σ (fun rv σ2 => G 57 [some (2, 93, 0), some (0, 0, a1), some (0, 0, a2), some (0, 0, a3), some (0, 0, a4), some (0, 0, a5)] (rv.toList ++ []) σ2)) : G 52 [some (2, 93, 0), some (0, 0, a1), some (0, 0, a2), some (0, 0, a3), some (0, 0, a4), some (0, 0, a5)] [(0, 0, b0)] σ := fw_on hG [12, 19, 27, 38, 44, 52, 57, 70, 73, 86] 200 h
theorem fs_m_parts_57 {G : fw_K} {R : fw_KR} (hG : fw_cls st_m_parts R G) {a1 a2 a3 a4 a5 b0 : Int} {σ : ab_SG} (h : (fw_c b0 = 0 → G 86 [some (2, 93, 0), some (0, 0, a1), some (0, 0, a2), some (0, 0, a3), some (0, 0, a4), some (0, 0, a5)] [] σ) ∧ (fw_c b0 ≠ 0 → sp_m_left [(2, 93, 0), (0, 0, a3)] σ (fun rv σ2 => G 70 [some (2, 93, 0), some (0, 0, a1), some (0, 0, a2), some (0, 0, a3), some (0, 0, a4), some (0, 0, a5)] (rv.toList ++ [(0, 0, a2), (0, 0, a1), (0, 0, a5), (2, 93, 0)]) σ2))) : G 57 [some (2, 93, 0), some (0, 0, a1), some (0, 0, a2), some (0, 0, a3), some (0, 0, a4), some (0, 0, a5)] [(0, 0, b0)] σ := fw_on hG [12, 19, 27, 38, 44, 52, 57, 70, 73, 86] 200 h
theorem fs_m_parts_86 {G : fw_K} {R : fw_KR} (hG : fw_cls st_m_parts R G) {a1 a2 a3 a4 a5 : Int} {σ : ab_SG} (h : G 38 [some (2, 93, 0), some (0, 0, a1), some (0, 0, a2), some (0, 0, a3), some (0, 0, a4), some (0, 0, a5 + 1)] [] σ) : G 86 [some (2, 93, 0), some (0, 0, a1), some (0, 0, a2), some (0, 0, a3), some (0, 0, a4), some (0, 0, a5)] [] σ := fw_on hG [12, 19, 27, 38, 44, 52, 57, 70, 73, 86] 200 h
theorem fs_m_parts_70 {G : fw_K} {R : fw_KR} (hG : fw_cls st_m_parts R G) {a1 a2 a3 a4 a5 b0 b1 b2 b3 : Int} {σ : ab_SG} (h : sp_m_likes [(2, 93, 0), (0, 0, b3), (0, 0, b2), (0, 0, b1), (0, 0, b0)] σ (fun rv σ2 => G 73 [some (2, 93, 0), some (0, 0, a1), some (0, 0, a2), some (0, 0, a3), some (0, 0, a4), some (0, 0, a5)] (rv.toList ++ []) σ2)) : G 70 [some (2, 93, 0), some (0, 0, a1), some (0, 0, a2), some (0, 0, a3), some (0, 0, a4), some (0, 0, a5)] [(0, 0, b0), (0, 0, b1), (0, 0, b2), (0, 0, b3), (2, 93, 0)] σ := fw_on hG [12, 19, 27, 38, 44, 52, 57, 70, 73, 86] 200 h
theorem fs_m_parts_73 {G : fw_K} {R : fw_KR} (hG : fw_cls st_m_parts R G) {a1 a2 a3 a4 a5 b0 : Int} {σ : ab_SG} (h : (fw_c (fw_op 8 b0 ((fw_op 5 1 a5) - 1)) ≠ 0 → G 86 [some (2, 93, 0), some (0, 0, a1), some (0, 0, a2), some (0, 0, a3), some (0, 0, a4), some (0, 0, a5)] [] σ) ∧ (fw_c (fw_op 8 b0 ((fw_op 5 1 a5) - 1)) = 0 → G 86 [some (2, 93, 0), some (0, 0, a1), some (0, 0, a2), some (0, 0, a3), some (0, 0, a4 + 1), some (0, 0, a5)] [] σ)) : G 73 [some (2, 93, 0), some (0, 0, a1), some (0, 0, a2), some (0, 0, a3), some (0, 0, a4), some (0, 0, a5)] [(0, 0, b0)] σ := fw_on hG [12, 19, 27, 38, 44, 52, 57, 70, 73, 86] 200 h

section
variable {l : Launch} {cy : Nat → ClassId} {ad wr cr : Nat → Nat} {D : va_G}
theorem fm_isLeast (hinj : nn_inj ad) : fw_H l cy ad wr cr D 77 0 sp_isLeast := fw_mk hinj (⟨"NameNotes", "isLeast", "(II)Z"⟩, prog_1_method_81_code, 2, (Option.some Jvm.ClassFile.FieldType.boolean), 2, false, 1) rfl rfl nn_KI1_ok nn_KJ1_ok nn_PF1_ok nn_PS1_ok (by decide +kernel) rfl rfl (fun _ h => absurd h List.not_mem_nil) (fun as σ K h => by
  obtain ⟨s, x, rfl, h⟩ := h
  refine ⟨rfl, fun G hG => fs_isLeast_0 hG ⟨fun q => ⟨fw_01, ?_⟩, fun q => ⟨by rw [fw_c1]; decide, ?_⟩⟩⟩
  · rw [fw_bo_f q] at h
    exact h
  · rw [fw_bo_t q] at h
    exact h)
theorem fm_parts (hinj : nn_inj ad) : fw_H l cy ad wr cr D 76 3 sp_parts := fw_mk hinj (⟨"NameNotes", "parts", "(III)I"⟩, prog_1_method_13_code, 7, (Option.some Jvm.ClassFile.FieldType.int), 3, true, 0) rfl rfl nn_KI1_ok nn_KJ1_ok nn_PF1_ok nn_PS1_ok (by decide +kernel) rfl rfl (List.forall_mem_cons.mpr ⟨fw_row nn_PM1_ok (x := 169) (k := 0) (mn := 64) (np := 1) (ob := true) (ci := 6) (⟨"NameNotes$Studio", "setOf", "(I)I"⟩, prog_8_method_8_code, 2, (Option.some Jvm.ClassFile.FieldType.int), 1, true, 0) rfl (by decide +kernel) rfl rfl (by decide) (fun _ => ⟨_, _, rfl⟩) (fm_setOf3 hinj), (List.forall_mem_cons.mpr ⟨fw_row nn_PM1_ok (x := 184) (k := 0) (mn := 71) (np := 1) (ob := false) (ci := 0) (⟨"NameNotes", "isBid", "(I)Z"⟩, prog_1_method_72_code, 1, (Option.some Jvm.ClassFile.FieldType.boolean), 1, false, 1) rfl (by decide +kernel) rfl rfl (by decide) (fun q => by cases q) (fm_isBid hinj), (List.forall_mem_cons.mpr ⟨fw_row nn_PM1_ok (x := 187) (k := 0) (mn := 72) (np := 1) (ob := false) (ci := 0) (⟨"NameNotes", "isHow", "(I)Z"⟩, prog_1_method_73_code, 1, (Option.some Jvm.ClassFile.FieldType.boolean), 1, false, 1) rfl (by decide +kernel) rfl rfl (by decide) (fun q => by cases q) (fm_isHow hinj), (List.forall_mem_cons.mpr ⟨fw_row nn_PM1_ok (x := 190) (k := 0) (mn := 73) (np := 1) (ob := true) (ci := 6) (⟨"NameNotes$Studio", "isChoice", "(I)Z"⟩, prog_8_method_7_code, 2, (Option.some Jvm.ClassFile.FieldType.boolean), 1, true, 1) rfl (by decide +kernel) rfl rfl (by decide) (fun _ => ⟨_, _, rfl⟩) (fm_isChoice3 hinj), (List.forall_mem_cons.mpr ⟨fw_row nn_PM1_ok (x := 193) (k := 0) (mn := 74) (np := 4) (ob := true) (ci := 6) (⟨"NameNotes$Studio", "likes", "(IIII)I"⟩, prog_8_method_23_code, 7, (Option.some Jvm.ClassFile.FieldType.int), 4, true, 0) rfl (by decide +kernel) rfl rfl (by decide) (fun _ => ⟨_, _, rfl⟩) (fm_likes3 hinj), (List.forall_mem_cons.mpr ⟨fw_row nn_PM1_ok (x := 197) (k := 0) (mn := 34) (np := 2) (ob := false) (ci := 0) (⟨"NameNotes", "has", "(II)Z"⟩, prog_1_method_80_code, 2, (Option.some Jvm.ClassFile.FieldType.boolean), 2, false, 1) rfl (by decide +kernel) rfl rfl (by decide) (fun q => by cases q) (fm_has hinj), (List.forall_mem_cons.mpr ⟨fw_row nn_PM1_ok (x := 200) (k := 0) (mn := 77) (np := 2) (ob := false) (ci := 0) (⟨"NameNotes", "isLeast", "(II)Z"⟩, prog_1_method_81_code, 2, (Option.some Jvm.ClassFile.FieldType.boolean), 2, false, 1) rfl (by decide +kernel) rfl rfl (by decide) (fun q => by cases q) (fm_isLeast hinj), (fun _ h => absurd h List.not_mem_nil)⟩)⟩)⟩)⟩)⟩)⟩)⟩) (fun as σ K h => by
  obtain ⟨A, n, w, c, rfl, ⟨en, ew, ec⟩, hN, h⟩ := h
  have nn := N_n hN.1
  unfold v_parts at h
  refine ⟨rfl, fun G hG => fs_parts_0 hG ⟨n, rfl, en, fs_parts_4 hG ⟨fun q => ?_, fun q1 => ⟨w, rfl, ew, fs_parts_11 hG ⟨fun q => ?_, fun q2 => ⟨A, c, rfl, ec, hN, fs_parts_22 hG ⟨fun q3 => ?_, fun q => ?_⟩⟩⟩⟩⟩⟩⟩
  · rw [if_neg (fun z => fw_bo_eq q z.1)] at h
    exact h
  · rw [if_neg (fun z => fw_bo_eq q z.2.1)] at h
    exact h
  · have h1 := fw_bo_ne q1
    have h2 := fw_bo_ne q2
    have h3 := fw_bo_ne q3
    rw [if_pos ⟨h1, h2, h3⟩, ← v_cnt_top hN.1 hN.2.1 h3.1 h3.2 (9 - (A 49 11).toNat) (A 49 11).toNat (by omega) (by omega)] at h
    obtain ⟨w', rfl⟩ := Int.eq_ofNat_of_zero_le h2.1
    have b := v_set_512 hN.1 hN.2.1 h3.1 h3.2
    have loop : ∀ (f x : Nat), x + f = 9 → G 43 [some (2, 0, 0), some (0, 0, n), some (0, 0, (w' : Int)), some (0, 0, c), some (0, 0, v_set A c), some (0, 0, v_cnt A n (w' : Int) (v_set A c) x), some (0, 0, (x : Int))] [] σ := by
      intro f
      induction f with
      | zero =>
        intro x hx
        have e : x = 9 := by omega
        subst e
        refine fs_parts_43 hG ⟨fun _ => h, fun z => absurd z (Int.lt_irrefl _)⟩
      | succ f ih =>
        intro x hx
        have ex : fw_c (x : Int) = (x : Int) := fw_s (by omega) (by omega)
        have h9 := ih (x + 1) (by omega)
        rw [v_cnt_s] at h9
        refine fs_parts_43 hG ?_
        rw [ex, fw_s (x := 9) (by decide) (by decide)]
        refine ⟨fun z => absurd z (by omega), fun _ => ⟨_, (x : Int), rfl, by rw [ex]; omega, fs_parts_57 hG ⟨fun z => fs_parts_84 hG ?_, fun z => ?_⟩⟩⟩
        · rw [if_neg (fun q => fw_bo_eq z (hs_t q.1))] at h9
          exact h9
        · have hs := hs_of (fw_bo_ne z)
          have hx9 := v_set_top hN.1 hN.2.1 h3.1 h3.2 (z := x) (by omega) hs
          have lb := v_lk_b A (x : Int) n (w' : Int) (v_set A c) (A 49 11).toNat (by omega)
          have lh : pr_hs (v_lk A (x : Int) n (w' : Int) (v_set A c) (A 49 11).toNat) (x : Int) = true := (v_lk_h A (x : Int) n (w' : Int) (v_set A c) (z := x) (by omega) (A 49 11).toNat (by omega)).mpr ⟨by omega, hs, by rw [cs_refl]; omega⟩
          have le := hs_least lb.1 lb.2 (x := x) (by omega) lh
          refine ⟨A, x, n, w', _, rfl, hN, hx9, h1, by omega, fs_parts_73 hG ⟨_, _, rfl, fs_parts_78 hG ⟨fun y => fs_parts_84 hG ?_, fun y => fs_parts_84 hG ?_⟩⟩⟩
          · rw [if_neg (fun q => fw_bo_eq y (le.mpr q.2))] at h9
            exact h9
          · rw [if_pos ⟨hs, le.mp (fw_bo_ne y)⟩] at h9
            exact h9
    exact ⟨A, c, rfl, hN, h3, fs_parts_35 hG (loop 9 0 rfl)⟩
  · rw [if_neg (fun z => fw_bo_eq q z.2.2)] at h
    exact h)
theorem fm_m_parts (hinj : nn_inj ad) : fw_H l cy ad wr cr D 260 6 sp_m_parts := fw_mk hinj (⟨"NameNotesModel", "parts", "(III)I"⟩, prog_14_method_63_code, 6, (Option.some Jvm.ClassFile.FieldType.int), 3, true, 0) rfl rfl nn_KI20_ok nn_KJ20_ok nn_PF20_ok nn_PS20_ok (by decide +kernel) rfl rfl (List.forall_mem_cons.mpr ⟨fw_row nn_PM20_ok (x := 171) (k := 0) (mn := 226) (np := 3) (ob := false) (ci := 0) (⟨"NameNotesModel", "isIn", "(III)Z"⟩, prog_14_method_8_code, 3, (Option.some Jvm.ClassFile.FieldType.boolean), 3, false, 1) rfl (by decide +kernel) rfl rfl (by decide) (fun q => by cases q) (fm_m_isIn hinj), (List.forall_mem_cons.mpr ⟨fw_row nn_PM20_ok (x := 216) (k := 0) (mn := 230) (np := 2) (ob := false) (ci := 0) (⟨"NameNotesModel", "has", "(II)Z"⟩, prog_14_method_9_code, 2, (Option.some Jvm.ClassFile.FieldType.boolean), 2, false, 1) rfl (by decide +kernel) rfl rfl (by decide) (fun q => by cases q) (fm_m_has hinj), (List.forall_mem_cons.mpr ⟨fw_row nn_PM20_ok (x := 261) (k := 0) (mn := 240) (np := 0) (ob := true) (ci := 11) (⟨"NameNotesModel", "tunes", "()I"⟩, prog_14_method_41_code, 1, (Option.some Jvm.ClassFile.FieldType.int), 0, true, 0) rfl (by decide +kernel) rfl rfl (by decide) (fun _ => ⟨_, _, rfl⟩) (fm_m_tunes hinj), (List.forall_mem_cons.mpr ⟨fw_row nn_PM20_ok (x := 297) (k := 0) (mn := 253) (np := 1) (ob := false) (ci := 0) (⟨"NameNotesModel", "isHow", "(I)Z"⟩, prog_14_method_61_code, 1, (Option.some Jvm.ClassFile.FieldType.boolean), 1, false, 1) rfl (by decide +kernel) rfl rfl (by decide) (fun q => by cases q) (fm_m_isHow hinj), (List.forall_mem_cons.mpr ⟨fw_row nn_PM20_ok (x := 300) (k := 0) (mn := 254) (np := 1) (ob := true) (ci := 11) (⟨"NameNotesModel", "isLeft", "(I)Z"⟩, prog_14_method_48_code, 2, (Option.some Jvm.ClassFile.FieldType.boolean), 1, true, 1) rfl (by decide +kernel) rfl rfl (by decide) (fun _ => ⟨_, _, rfl⟩) (fm_m_isLeft hinj), (List.forall_mem_cons.mpr ⟨fw_row nn_PM20_ok (x := 303) (k := 0) (mn := 255) (np := 1) (ob := true) (ci := 11) (⟨"NameNotesModel", "left", "(I)I"⟩, prog_14_method_47_code, 2, (Option.some Jvm.ClassFile.FieldType.int), 1, true, 0) rfl (by decide +kernel) rfl rfl (by decide) (fun _ => ⟨_, _, rfl⟩) (fm_m_left hinj), (List.forall_mem_cons.mpr ⟨fw_row nn_PM20_ok (x := 306) (k := 0) (mn := 256) (np := 4) (ob := true) (ci := 11) (⟨"NameNotesModel", "likes", "(IIII)I"⟩, prog_14_method_60_code, 7, (Option.some Jvm.ClassFile.FieldType.int), 4, true, 0) rfl (by decide +kernel) rfl rfl (by decide) (fun _ => ⟨_, _, rfl⟩) (fm_m_likes hinj), (fun _ h => absurd h List.not_mem_nil)⟩)⟩)⟩)⟩)⟩)⟩)⟩) (fun as σ K h => by
  obtain ⟨A, n, w, c, rfl, ⟨en, ew, ec⟩, hN, h⟩ := h
  have nn := N_n hN.1
  have hU := NM_ups (v := 0) hN
  unfold v_parts at h
  refine ⟨rfl, fun G hG => fs_m_parts_0 hG ?_⟩
  rw [fw_c0]
  refine ⟨n, 1, 9, rfl, fs_m_parts_12 hG ?_⟩
  rw [en, fw_c1, fw_s (x := 9) (by decide) (by decide)]
  refine ⟨fun q => ?_, fun q1 => ⟨w, rfl, ew, fs_m_parts_19 hG ⟨fun q => ?_, fun q2 => ⟨A, c, rfl, ec, hU, fs_m_parts_27 hG ⟨fun q3 => ?_, fun q => ?_⟩⟩⟩⟩⟩
  · rw [if_neg (fun z => fw_bo_eq q z.1)] at h
    exact h
  · rw [if_neg (fun z => fw_bo_eq q z.2.1)] at h
    exact h
  · have h1 := fw_bo_ne q1
    have h2 := fw_bo_ne q2
    have h3 := fw_bo_ne q3
    rw [if_pos ⟨h1, h2, h3⟩] at h
    obtain ⟨w', rfl⟩ := Int.eq_ofNat_of_zero_le h2.1
    obtain ⟨N, eN⟩ := Int.eq_ofNat_of_zero_le nn.1.1
    have eT : fw_c (ab_ups σ 93 0 0 95 0) = (N : Int) := by rw [(NM_n hU).1, eN]; exact fw_s (by omega) (by omega)
    have eTn : (A 49 11).toNat = N := by omega
    have loop : ∀ (f x : Nat), x + f = N → G 38 [some (2, 93, 0), some (0, 0, n), some (0, 0, (w' : Int)), some (0, 0, c), some (0, 0, v_cnt A n (w' : Int) (v_set A c) x), some (0, 0, (x : Int))] [] (ab_ups σ 93 0 0) := by
      intro f
      induction f with
      | zero =>
        intro x hx
        have e : x = N := by omega
        subst e
        refine fs_m_parts_38 hG ⟨rfl, fs_m_parts_44 hG ?_⟩
        rw [eT, fw_s (x := (x : Int)) (by omega) (by omega)]
        rw [eTn] at h
        exact ⟨fun _ => h, fun z => absurd z (Int.lt_irrefl _)⟩
      | succ f ih =>
        intro x hx
        have h9 := ih (x + 1) (by omega)
        rw [v_cnt_s] at h9
        refine fs_m_parts_38 hG ⟨rfl, fs_m_parts_44 hG ?_⟩
        rw [eT, fw_s (x := (x : Int)) (by omega) (by omega)]
        refine ⟨fun z => absurd z (by omega), fun _ => ⟨A, c, rfl, hU, h3, fs_m_parts_52 hG ⟨_, _, rfl, fs_m_parts_57 hG ⟨fun z => fs_m_parts_86 hG ?_, fun z => ⟨A, c, rfl, hU, h3, fs_m_parts_70 hG ⟨A, x, n, w', _, rfl, hU, by omega, h1, by omega, fs_m_parts_73 hG ⟨fun y => fs_m_parts_86 hG ?_, fun y => fs_m_parts_86 hG ?_⟩⟩⟩⟩⟩⟩⟩
        · rw [if_neg (fun q => fw_bo_eq z q.1)] at h9
          exact h9
        · rw [if_neg (fun q => y q.2)] at h9
          exact h9
        · rw [if_pos ⟨fw_bo_ne z, y⟩] at h9
          exact h9
    exact loop N 0 (Nat.zero_add _)
  · rw [if_neg (fun z => fw_bo_eq q z.2.2)] at h
    exact h)
end
