/-! odds as the reference reckons them: what she knows in row 106, ways in row 107 -/
def on_M : ab_ML := [(106, 1000000), (107, 1000000)]
theorem oz_NMM {M : ab_ML} {σ σ' A : ab_SG} (h : ab_okM M σ σ') (m : (M.all (fun q => !(q.1.beq 95)) && M.all (fun q => !(q.1.beq 99)) && mk_b M 93 22) = true) (hN : NM σ A) : NM σ' A := by
  rw [Bool.and_eq_true, Bool.and_eq_true] at m
  refine ⟨hN.1, hN.2.1, ?_⟩
  have e : mlN σ' = mlN σ := by
    funext j
    unfold mlN
    rw [mk_at h m.2, mk_row h m.1.1 j]
  rw [e, show σ' 99 = σ 99 from funext (mk_row h m.1.2)]
  exact hN.2.2
theorem on_kn {σ A : ab_SG} (h : NM σ A) {j : Nat} (hj : j < 45) : σ 95 (182 + j) = A 55 j := by
  have a := h.2.2.2.2.2.2.2.2.1 j hj
  rw [mlN_j (by omega)] at a
  exact a
theorem on_kn_b {σ A : ab_SG} (h : NM σ A) {j : Nat} (hj : j < 45) : 0 ≤ A 55 j ∧ A 55 j ≤ 9 := h.2.1.2.2.1 j hj
theorem on_trans {M : ab_ML} {σ σ1 σ2 : ab_SG} (h1 : ab_okM M σ σ1) (h2 : ab_okM M σ1 σ2) : ab_okM M σ σ2 := fun a b q => (h2 a b q).trans (h1 a b q)
/-- odds that x is named right, of a group g; over 9 to the ninth times 2520 -/
def oz_nb (κ : Nat → Int) (g : Int) (x : Nat) : Int := κ x * (9 ^ (8 - oz_cnt (oz_but (oz_P g) x) 9) * oz_sum (fun j => oz_w κ (oz_but (oz_P g) x) 9 j * (((2520 / (j + 1) : Nat)) : Int)) 9)
def sp_m_layMind : fw_SP := fun as σ K => ∃ (A : ab_SG) (p : Nat), as = [(2, 93, 0), (0, 0, (p : Int))] ∧ NM σ A ∧ p < 5 ∧ ∀ σ' : ab_SG, ab_okM on_M σ σ' → (∀ x : Nat, x < 9 → σ' 106 x = A 55 (9 * p + x)) → K none σ'
def sp_m_namedBy : fw_SP := fun as σ K => ∃ (A : ab_SG) (x : Nat) (n s : Int), as = [(2, 93, 0), (0, 0, (x : Int)), (0, 0, n), (0, 0, s)] ∧ NM σ A ∧ (x : Int) < A 49 11 ∧ (1 ≤ n ∧ n ≤ 9) ∧ (0 ≤ s ∧ s < 512) ∧ (∀ y : Nat, y < 9 → 0 ≤ σ 106 y ∧ σ 106 y ≤ 9) ∧ ∀ σ' : ab_SG, ab_okM [(107, 1000000)] σ σ' → K (some (1, 0, oz_nb (σ 106) (v_lk A (x : Int) n 0 s (A 49 11).toNat) x)) σ'
def sp_m_bits9 : fw_SP := fun as σ K => ∃ s : Int, as = [(0, 0, s)] ∧ (0 ≤ s ∧ s < 512) ∧ K (some (0, 0, ((oz_cnt (oz_P s) 9 : Nat) : Int))) σ
theorem on_bit : ∀ n : Nat, n < 512 → n ≠ 0 → fw_op 8 (n : Int) ((n : Int) - 1) = ((n &&& (n - 1) : Nat) : Int) ∧ (n &&& (n - 1)) < n ∧ oz_cnt (oz_P (n : Int)) 9 = 1 + oz_cnt (oz_P ((n &&& (n - 1) : Nat) : Int)) 9 := by decide +kernel
theorem on_but0 : ∀ s : Nat, s < 256 → ∀ x : Nat, x < 9 → fw_op 8 (s : Int) (fw_op 10 (fw_op 5 1 (x : Int)) (-1)) = ((s &&& (511 ^^^ 2 ^ x) : Nat) : Int) := by decide +kernel
theorem on_but1 : ∀ s : Nat, s < 256 → ∀ x : Nat, x < 9 → fw_op 8 ((s + 256 : Nat) : Int) (fw_op 10 (fw_op 5 1 (x : Int)) (-1)) = (((s + 256) &&& (511 ^^^ 2 ^ x) : Nat) : Int) := by decide +kernel
theorem on_but {g : Int} (h0 : 0 ≤ g) (h5 : g < 512) {x y : Nat} (hx : x < 9) (hy : y < 9) : pr_hs (fw_op 8 g (fw_op 10 (fw_op 5 1 (x : Int)) (-1))) (y : Int) = oz_but (oz_P g) x y := by
  obtain ⟨s, rfl⟩ := Int.eq_ofNat_of_zero_le h0
  have e : fw_op 8 (s : Int) (fw_op 10 (fw_op 5 1 (x : Int)) (-1)) = ((s &&& (511 ^^^ 2 ^ x) : Nat) : Int) := by
    by_cases c : s < 256
    · exact on_but0 s c x hx
    · have := on_but1 (s - 256) (by omega) x hx
      rw [show s - 256 + 256 = s by omega] at this
      exact this
  have lt : s &&& (511 ^^^ 2 ^ x) < 512 := Nat.lt_of_le_of_lt Nat.and_le_left (by omega)
  rw [e, hs_tb lt hy, Nat.testBit_and, Nat.testBit_xor, Nat.testBit_two_pow]
  have e511 : Nat.testBit 511 y = true := by
    have k : ∀ z : Nat, z < 9 → Nat.testBit 511 z = true := by decide
    exact k y hy
  have ep : oz_P (s : Int) y = Nat.testBit s y := hs_tb (by omega) hy
  unfold oz_but
  rw [e511, ep]
  by_cases c : x = y
  · subst c
    rw [show x.beq x = true from Nat.beq_refl x, decide_eq_true rfl]
    rfl
  · have c2 : y.beq x = false := by rw [← Bool.not_eq_true]; exact fun q => c (Nat.eq_of_beq_eq_true q).symm
    rw [c2, decide_eq_false c]
    rfl
theorem oz_ldiv {b c : Int} (hb : 1 ≤ b) (hb2 : b ≤ 1000000) (hc : 0 ≤ c) (hc2 : b * c ≤ 4611686018427387904) : fw_lop 3 (b * c) b = c := by
  have p : 0 ≤ b * c := Int.mul_nonneg (by omega) hc
  have hcb : c ≤ b * c := by
    have := Int.mul_le_mul_of_nonneg_right hb hc
    rw [Int.one_mul] at this
    exact this
  show (Int64.ofInt (b * c) / Int64.ofInt b).toInt = c
  rw [Int64.toInt_div, Int64.toInt_ofInt_of_le (by omega) (by omega), Int64.toInt_ofInt_of_le (by omega) (by omega), Int.tdiv_eq_ediv_of_nonneg p, Int.mul_ediv_cancel_left c (by omega)]
  exact Int.bmod_eq_of_le (by omega) (by omega)
theorem oz_each : ∀ j : Nat, j < 9 → fw_lop 3 2520 ((j : Int) + 1) = ((2520 / (j + 1) : Nat) : Int) := by decide +kernel
theorem oz_w_nn {κ : Nat → Int} {P : Nat → Bool} : ∀ {Y : Nat}, (∀ y, y < Y → 0 ≤ κ y ∧ κ y ≤ 9) → ∀ j : Nat, 0 ≤ oz_w κ P Y j := by
  intro Y
  induction Y with
  | zero =>
    intro _ j
    cases j with
    | zero => show (0 : Int) ≤ 1; decide
    | succ j => exact Int.le_refl 0
  | succ Y ih =>
    intro h j
    have ih := ih (fun y hy => h y (Nat.lt_succ_of_lt hy))
    have b := h Y (Nat.lt_succ_self Y)
    show 0 ≤ cond (P Y) (oz_mul (κ Y) (oz_w κ P Y)) (oz_w κ P Y) j
    cases P Y with
    | false => exact ih j
    | true =>
      cases j with
      | zero => exact Int.mul_nonneg (by omega) (ih 0)
      | succ j => exact Int.add_nonneg (Int.mul_nonneg (by omega) (ih (j + 1))) (Int.mul_nonneg b.1 (ih j))
theorem oz_sum_nn {f : Nat → Int} : ∀ {n : Nat}, (∀ i, i < n → 0 ≤ f i) → 0 ≤ oz_sum f n := by
  intro n
  induction n with
  | zero => intro _; exact Int.le_refl 0
  | succ n ih => intro h; exact Int.add_nonneg (ih (fun i hi => h i (Nat.lt_succ_of_lt hi))) (h n (Nat.lt_succ_self n))
theorem oz_sum_one {f : Nat → Int} : ∀ {n : Nat}, (∀ i, i < n → 0 ≤ f i) → ∀ i, i < n → f i ≤ oz_sum f n := by
  intro n
  induction n with
  | zero => intro _ i hi; exact absurd hi (Nat.not_lt_zero i)
  | succ n ih =>
    intro h i hi
    show f i ≤ oz_sum f n + f n
    have p := oz_sum_nn (f := f) (n := n) (fun i hi => h i (Nat.lt_succ_of_lt hi))
    have q := h n (Nat.lt_succ_self n)
    by_cases c : i = n
    · rw [c]; omega
    · have := ih (fun i hi => h i (Nat.lt_succ_of_lt hi)) i (by omega)
      omega
theorem oz_w_le {κ : Nat → Int} {P : Nat → Bool} {Y : Nat} (h : ∀ y, y < Y → 0 ≤ κ y ∧ κ y ≤ 9) (j : Nat) : oz_w κ P Y j ≤ 9 ^ oz_cnt P Y := by
  have e := oz_w_all κ P Y (Y + j + 1) (by omega)
  rw [← e]
  exact oz_sum_one (fun i _ => oz_w_nn h i) j (by omega)
theorem oz_w_cnt {κ : Nat → Int} {P : Nat → Bool} : ∀ {Y j : Nat}, oz_cnt P Y < j → oz_w κ P Y j = 0 := by
  intro Y
  induction Y with
  | zero => intro j hj; cases j with
    | zero => exact absurd hj (Nat.not_lt_zero _)
    | succ j => rfl
  | succ Y ih =>
    intro j hj
    show cond (P Y) (oz_mul (κ Y) (oz_w κ P Y)) (oz_w κ P Y) j = 0
    have hj : cond (P Y) (oz_cnt P Y + 1) (oz_cnt P Y) < j := hj
    cases hP : P Y with
    | false => rw [hP] at hj; exact ih hj
    | true =>
      rw [hP] at hj
      replace hj : oz_cnt P Y + 1 < j := hj
      cases j with
      | zero => omega
      | succ j =>
        show (9 - κ Y) * oz_w κ P Y (j + 1) + κ Y * oz_w κ P Y j = 0
        rw [ih (show oz_cnt P Y < j + 1 by omega), ih (show oz_cnt P Y < j by omega), Int.mul_zero, Int.mul_zero]
        rfl
theorem oz_cnt_but {P : Nat → Bool} {x : Nat} : ∀ {Y : Nat}, x < Y → oz_cnt (oz_but P x) Y + 1 ≤ Y := by
  intro Y
  induction Y with
  | zero => intro h; exact absurd h (Nat.not_lt_zero x)
  | succ Y ih =>
    intro h
    show cond (oz_but P x Y) (oz_cnt (oz_but P x) Y + 1) (oz_cnt (oz_but P x) Y) + 1 ≤ Y + 1
    by_cases c : x = Y
    · rw [← c, oz_but_self]
      have := oz_cnt_le (oz_but P x) x
      show oz_cnt (oz_but P x) x + 1 ≤ x + 1
      omega
    · have := ih (by omega)
      cases oz_but P x Y with
      | false => show oz_cnt (oz_but P x) Y + 1 ≤ Y + 1; omega
      | true => show oz_cnt (oz_but P x) Y + 1 + 1 ≤ Y + 1; omega
/-- beyond T nothing is added -/
theorem oz_stop {κ : Nat → Int} {P : Nat → Bool} {T : Nat} : ∀ {d : Nat}, (∀ y, T ≤ y → y < T + d → P y = false) → oz_w κ P (T + d) = oz_w κ P T ∧ oz_cnt P (T + d) = oz_cnt P T := by
  intro d
  induction d with
  | zero => intro _; exact ⟨rfl, rfl⟩
  | succ d ih =>
    intro h
    obtain ⟨a, b⟩ := ih (fun y h1 h2 => h y h1 (by omega))
    have q := h (T + d) (by omega) (by omega)
    refine ⟨?_, ?_⟩
    · show cond (P (T + d)) (oz_mul (κ (T + d)) (oz_w κ P (T + d))) (oz_w κ P (T + d)) = _
      rw [q]; exact a
    · show cond (P (T + d)) (oz_cnt P (T + d) + 1) (oz_cnt P (T + d)) = _
      rw [q]; exact b
abbrev fk_m_layMind : List fw_CR := [(284, 2, true, 11, 0, sp_m_known)]
abbrev st_m_layMind : fw_K → fw_KR → fw_K := fw_st vwCl nn_sh nn_kd fw_kv fw_wc (nn_KI20.map (fun x => x.1)) (nn_KJ20.map (fun x => x.1)) (nn_PF20.map (fun x => x.1)) (nn_PS20.map (fun x => x.1)) fk_m_layMind 2 nn_dt278 3 4
theorem fs_m_layMind_0 {G : fw_K} {R : fw_KR} (hG : fw_cls st_m_layMind R G) {p : Int} {σ : ab_SG} (h : G 2 [some (2, 93, 0), some (0, 0, p), some (0, 0, 0)] [] σ) : G 0 [some (2, 93, 0), some (0, 0, p), none] [] σ := fw_on hG [2, 19] 200 h
theorem fs_m_layMind_2 {G : fw_K} {R : fw_KR} (hG : fw_cls st_m_layMind R G) {a1 a2 : Int} {σ : ab_SG} (h : (fw_c 9 ≤ fw_c a2 → R none σ) ∧ (fw_c a2 < fw_c 9 → sp_m_known [(2, 93, 0), (0, 0, a1), (0, 0, a2)] σ (fun rv σ2 => G 19 [some (2, 93, 0), some (0, 0, a1), some (0, 0, a2)] (rv.toList ++ [(0, 0, a2), (2, 106, 0)]) σ2))) : G 2 [some (2, 93, 0), some (0, 0, a1), some (0, 0, a2)] [] σ := fw_on hG [2, 19] 200 h
theorem fs_m_layMind_19 {G : fw_K} {R : fw_KR} (hG : fw_cls st_m_layMind R G) {a1 a2 b0 b1 : Int} {σ : ab_SG} (h : (0 ≤ fw_c b1 ∧ fw_c b1 < ((9 : Nat) : Int)) ∧ True ∧ (G 2 [some (2, 93, 0), some (0, 0, a1), some (0, 0, a2 + 1)] [] (ab_ups σ 106 (fw_c b1).toNat (fw_c b0)))) : G 19 [some (2, 93, 0), some (0, 0, a1), some (0, 0, a2)] [(0, 0, b0), (0, 0, b1), (2, 106, 0)] σ := fw_on hG [2, 19] 200 h
abbrev fk_m_bits9 : List fw_CR := []
abbrev st_m_bits9 : fw_K → fw_KR → fw_K := fw_st vwCl nn_sh nn_kd fw_kv fw_wc (nn_KI20.map (fun x => x.1)) (nn_KJ20.map (fun x => x.1)) (nn_PF20.map (fun x => x.1)) (nn_PS20.map (fun x => x.1)) fk_m_bits9 0 nn_dt274 3 0
theorem fs_m_bits9_0 {G : fw_K} {R : fw_KR} (hG : fw_cls st_m_bits9 R G) {s : Int} {σ : ab_SG} (h : G 4 [some (0, 0, s), some (0, 0, 0), some (0, 0, s)] [] σ) : G 0 [some (0, 0, s), none, none] [] σ := fw_on hG [4] 200 h
theorem fs_m_bits9_4 {G : fw_K} {R : fw_KR} (hG : fw_cls st_m_bits9 R G) {a0 a1 a2 : Int} {σ : ab_SG} (h : (fw_c a2 = 0 → R (some (0, 0, a1)) σ) ∧ (fw_c a2 ≠ 0 → G 4 [some (0, 0, a0), some (0, 0, a1 + 1), some (0, 0, fw_op 8 a2 (a2 - 1))] [] σ)) : G 4 [some (0, 0, a0), some (0, 0, a1), some (0, 0, a2)] [] σ := fw_on hG [4] 200 h
abbrev fk_m_namedBy : List fw_CR := [(216, 2, false, 0, 0, sp_m_has), (261, 0, true, 11, 0, sp_m_tunes), (306, 4, true, 11, 5, sp_m_likes)]
abbrev st_m_namedBy : fw_K → fw_KR → fw_K := fw_st vwCl nn_sh nn_kd fw_kv fw_wc (nn_KI20.map (fun x => x.1)) (nn_KJ20.map (fun x => x.1)) (nn_PF20.map (fun x => x.1)) (nn_PS20.map (fun x => x.1)) fk_m_namedBy 6 nn_dt279 9 2
theorem fs_m_namedBy_0 {G : fw_K} {R : fw_KR} (hG : fw_cls st_m_namedBy R G) {x n s : Int} {σ : ab_SG} (h : sp_m_likes [(2, 93, 0), (0, 0, x), (0, 0, n), (0, 0, 0), (0, 0, s)] σ (fun rv σ2 => G 8 [some (2, 93, 0), some (0, 0, x), some (0, 0, n), some (0, 0, s), none, none, none, none, none] (rv.toList ++ []) σ2)) : G 0 [some (2, 93, 0), some (0, 0, x), some (0, 0, n), some (0, 0, s), none, none, none, none, none] [] σ := fw_on hG [8, 31, 37, 47, 68, 133, 141, 153] 200 h
theorem fs_m_namedBy_8 {G : fw_K} {R : fw_KR} (hG : fw_cls st_m_namedBy R G) {a1 a3 b0 : Int} {o2 o4 o5 o6 o7 o8 : Option ab_AV} {σ : ab_SG} (h : (0 ≤ fw_c 0 ∧ fw_c 0 < ((10 : Nat) : Int)) ∧ True ∧ (G 31 [some (2, 93, 0), some (0, 0, a1), o2, some (0, 0, a3), some (0, 0, fw_op 8 b0 (fw_op 10 (fw_op 5 1 a1) (-1))), some (0, 0, 0), some (0, 0, 0), o7, o8] [] (ab_ups σ 107 (fw_c 0).toNat (fw_d 43046721)))) : G 8 [some (2, 93, 0), some (0, 0, a1), o2, some (0, 0, a3), o4, o5, o6, o7, o8] [(0, 0, b0)] σ := fw_on hG [8, 31, 37, 47, 68, 133, 141, 153] 200 h
theorem fs_m_namedBy_31 {G : fw_K} {R : fw_KR} (hG : fw_cls st_m_namedBy R G) {a1 a3 a4 a5 a6 : Int} {o2 o7 o8 : Option ab_AV} {σ : ab_SG} (h : sp_m_tunes [(2, 93, 0)] σ (fun rv σ2 => G 37 [some (2, 93, 0), some (0, 0, a1), o2, some (0, 0, a3), some (0, 0, a4), some (0, 0, a5), some (0, 0, a6), o7, o8] (rv.toList ++ [(0, 0, a6)]) σ2)) : G 31 [some (2, 93, 0), some (0, 0, a1), o2, some (0, 0, a3), some (0, 0, a4), some (0, 0, a5), some (0, 0, a6), o7, o8] [] σ := fw_on hG [8, 31, 37, 47, 68, 133, 141, 153] 200 h
theorem fs_m_namedBy_37 {G : fw_K} {R : fw_KR} (hG : fw_cls st_m_namedBy R G) {a1 a3 a4 a5 a6 b0 b1 : Int} {o2 o7 o8 : Option ab_AV} {σ : ab_SG} (h : (fw_c b0 ≤ fw_c b1 → G 153 [some (2, 93, 0), some (0, 0, a1), o2, some (0, 0, a3), some (0, 0, a4), some (0, 0, a5), some (1, 0, ((0 : Nat) : Int)), none, some (0, 0, 0)] [] σ) ∧ (fw_c b1 < fw_c b0 → sp_m_has [(0, 0, a4), (0, 0, a6)] σ (fun rv σ2 => G 47 [some (2, 93, 0), some (0, 0, a1), o2, some (0, 0, a3), some (0, 0, a4), some (0, 0, a5), some (0, 0, a6), o7, o8] (rv.toList ++ []) σ2))) : G 37 [some (2, 93, 0), some (0, 0, a1), o2, some (0, 0, a3), some (0, 0, a4), some (0, 0, a5), some (0, 0, a6), o7, o8] [(0, 0, b0), (0, 0, b1)] σ := fw_on hG [8, 31, 37, 47, 68, 133, 141, 153] 200 h
theorem fs_m_namedBy_153 {G : fw_K} {R : fw_KR} (hG : fw_cls st_m_namedBy R G) {a1 a3 a5 a6 a8 : Int} {o2 o4 o7 : Option ab_AV} {σ : ab_SG} (h : (fw_c a5 < fw_c a8 → (0 ≤ fw_c a1 ∧ fw_c a1 < ((9 : Nat) : Int)) ∧ (R (some (1, 0, a6 * (fw_c (σ 106 (fw_c a1).toNat)))) σ)) ∧ (fw_c a8 ≤ fw_c a5 → (0 ≤ fw_c a8 ∧ fw_c a8 < ((10 : Nat) : Int)) ∧ (fw_d (fw_c (a8 + 1)) ≠ 0 ∧ (G 153 [some (2, 93, 0), some (0, 0, a1), o2, some (0, 0, a3), o4, some (0, 0, a5), some (1, 0, a6 + ((σ 107 (fw_c a8).toNat) * (fw_lop 3 2520 (fw_c (a8 + 1))))), none, some (0, 0, a8 + 1)] [] σ)))) : G 153 [some (2, 93, 0), some (0, 0, a1), o2, some (0, 0, a3), o4, some (0, 0, a5), some (1, 0, a6), o7, some (0, 0, a8)] [] σ := fw_on hG [8, 31, 37, 47, 68, 133, 141, 153] 200 h
theorem fs_m_namedBy_47 {G : fw_K} {R : fw_KR} (hG : fw_cls st_m_namedBy R G) {a1 a3 a4 a5 a6 b0 : Int} {o2 o7 o8 : Option ab_AV} {σ : ab_SG} (h : (fw_c b0 ≠ 0 → (0 ≤ fw_c (a5 + 1) ∧ fw_c (a5 + 1) < ((10 : Nat) : Int)) ∧ True ∧ (G 68 [some (2, 93, 0), some (0, 0, a1), o2, some (0, 0, a3), some (0, 0, a4), some (0, 0, a5 + 1), some (0, 0, a6), some (0, 0, a5 + 1), o8] [] (ab_ups σ 107 (fw_c (a5 + 1)).toNat (fw_d ((0 : Nat) : Int))))) ∧ (fw_c b0 = 0 → G 141 [some (2, 93, 0), some (0, 0, a1), o2, some (0, 0, a3), some (0, 0, a4), some (0, 0, a5), some (0, 0, a6), o7, o8] [] σ)) : G 47 [some (2, 93, 0), some (0, 0, a1), o2, some (0, 0, a3), some (0, 0, a4), some (0, 0, a5), some (0, 0, a6), o7, o8] [(0, 0, b0)] σ := fw_on hG [8, 31, 37, 47, 68, 133, 141, 153] 200 h
theorem fs_m_namedBy_68 {G : fw_K} {R : fw_KR} (hG : fw_cls st_m_namedBy R G) {a1 a3 a4 a5 a6 a7 : Int} {o2 o8 : Option ab_AV} {σ : ab_SG} (h : (fw_c a7 < 0 → G 141 [some (2, 93, 0), some (0, 0, a1), o2, some (0, 0, a3), some (0, 0, a4), some (0, 0, a5), some (0, 0, a6), some (0, 0, a7), o8] [] σ) ∧ (0 ≤ fw_c a7 → (0 ≤ fw_c a7 ∧ fw_c a7 < ((10 : Nat) : Int)) ∧ (fw_d 9 ≠ 0 ∧ ((0 ≤ fw_c a6 ∧ fw_c a6 < ((9 : Nat) : Int)) ∧ ((fw_c a7 ≤ 0 → G 133 [some (2, 93, 0), some (0, 0, a1), o2, some (0, 0, a3), some (0, 0, a4), some (0, 0, a5), some (0, 0, a6), some (0, 0, a7), o8] [(1, 0, ((0 : Nat) : Int)), (1, 0, (fw_lop 3 (σ 107 (fw_c a7).toNat) 9) * (fw_c (9 - (σ 106 (fw_c a6).toNat)))), (0, 0, a7), (2, 107, 0)] σ) ∧ (0 < fw_c a7 → (0 ≤ fw_c (a7 - 1) ∧ fw_c (a7 - 1) < ((10 : Nat) : Int)) ∧ (fw_d 9 ≠ 0 ∧ ((0 ≤ fw_c a6 ∧ fw_c a6 < ((9 : Nat) : Int)) ∧ (G 133 [some (2, 93, 0), some (0, 0, a1), o2, some (0, 0, a3), some (0, 0, a4), some (0, 0, a5), some (0, 0, a6), some (0, 0, a7), o8] [(1, 0, (fw_lop 3 (σ 107 (fw_c (a7 - 1)).toNat) 9) * (fw_c (σ 106 (fw_c a6).toNat))), (1, 0, (fw_lop 3 (σ 107 (fw_c a7).toNat) 9) * (fw_c (9 - (σ 106 (fw_c a6).toNat)))), (0, 0, a7), (2, 107, 0)] σ))))))))) : G 68 [some (2, 93, 0), some (0, 0, a1), o2, some (0, 0, a3), some (0, 0, a4), some (0, 0, a5), some (0, 0, a6), some (0, 0, a7), o8] [] σ := fw_on hG [8, 31, 37, 47, 68, 133, 141, 153] 200 h
theorem fs_m_namedBy_141 {G : fw_K} {R : fw_KR} (hG : fw_cls st_m_namedBy R G) {a1 a3 a4 a5 a6 : Int} {o2 o7 o8 : Option ab_AV} {σ : ab_SG} (h : G 31 [some (2, 93, 0), some (0, 0, a1), o2, some (0, 0, a3), some (0, 0, a4), some (0, 0, a5), some (0, 0, a6 + 1), o7, o8] [] σ) : G 141 [some (2, 93, 0), some (0, 0, a1), o2, some (0, 0, a3), some (0, 0, a4), some (0, 0, a5), some (0, 0, a6), o7, o8] [] σ := fw_on hG [8, 31, 37, 47, 68, 133, 141, 153] 200 h
theorem fs_m_namedBy_133 {G : fw_K} {R : fw_KR} (hG : fw_cls st_m_namedBy R G) {a1 a3 a4 a5 a6 a7 b0 b1 b2 : Int} {o2 o8 : Option ab_AV} {σ : ab_SG} (h : (0 ≤ fw_c b2 ∧ fw_c b2 < ((10 : Nat) : Int)) ∧ True ∧ (G 68 [some (2, 93, 0), some (0, 0, a1), o2, some (0, 0, a3), some (0, 0, a4), some (0, 0, a5), some (0, 0, a6), some (0, 0, a7 + (-1)), o8] [] (ab_ups σ 107 (fw_c b2).toNat (fw_d (b1 + b0))))) : G 133 [some (2, 93, 0), some (0, 0, a1), o2, some (0, 0, a3), some (0, 0, a4), some (0, 0, a5), some (0, 0, a6), some (0, 0, a7), o8] [(1, 0, b0), (1, 0, b1), (0, 0, b2), (2, 107, 0)] σ := fw_on hG [8, 31, 37, 47, 68, 133, 141, 153] 200 h

section
variable {l : Launch} {cy : Nat → ClassId} {ad wr cr : Nat → Nat} {D : va_G}
theorem fm_m_layMind (hinj : nn_inj ad) : fw_H l cy ad wr cr D 278 2 sp_m_layMind := fw_mk hinj (⟨"NameNotesModel", "layMind", "(I)V"⟩, prog_14_method_76_code, 3, (Option.none : Option Jvm.ClassFile.FieldType), 1, true, 4) rfl rfl nn_KI20_ok nn_KJ20_ok nn_PF20_ok nn_PS20_ok (by decide +kernel) rfl rfl (List.forall_mem_cons.mpr ⟨fw_row nn_PM20_ok (x := 284) (k := 0) (mn := 250) (np := 2) (ob := true) (ci := 11) (⟨"NameNotesModel", "known", "(II)I"⟩, prog_14_method_54_code, 3, (Option.some Jvm.ClassFile.FieldType.int), 2, true, 0) rfl (by decide +kernel) rfl rfl (by decide) (fun _ => ⟨_, _, rfl⟩) (fm_m_known hinj), (fun _ h => absurd h List.not_mem_nil)⟩) (fun as σ K h => by
  obtain ⟨A, p, rfl, hN, hp, h⟩ := h
  have c9 : fw_c 9 = 9 := fw_s (by decide) (by decide)
  refine ⟨rfl, fun G hG => fs_m_layMind_0 hG ?_⟩
  have loop : ∀ (f x : Nat) (τ : ab_SG), x + f = 9 → ab_okM on_M σ τ → (∀ y : Nat, y < x → τ 106 y = A 55 (9 * p + y)) → G 2 [some (2, 93, 0), some (0, 0, (p : Int)), some (0, 0, (x : Int))] [] τ := by
    intro f
    induction f with
    | zero =>
      intro x τ hx M I
      refine fs_m_layMind_2 hG ?_
      rw [oz_c9 x (by omega), c9]
      exact ⟨fun _ => h τ M (fun y hy => I y (by omega)), fun z => absurd z (by omega)⟩
    | succ f ih =>
      intro x τ hx M I
      have cx := oz_c9 x (by omega)
      refine fs_m_layMind_2 hG ?_
      rw [cx, c9]
      have e9 : τ 95 (182 + 9 * p + x) = A 55 (9 * p + x) := by
        rw [show 182 + 9 * p + x = 182 + (9 * p + x) by omega]
        exact on_kn (oz_NMM M (by decide +kernel) hN) (by omega)
      refine ⟨fun z => absurd z (by omega), fun _ => ⟨p, x, rfl, hp, by omega, fs_m_layMind_19 hG ⟨by rw [cx]; omega, trivial, ?_⟩⟩⟩
      have b := on_kn_b hN (j := 9 * p + x) (by omega)
      rw [cx, e9, fw_s (x := A 55 (9 * p + x)) (by omega) (by omega), Int.toNat_natCast]
      have k := ih (x + 1) (ab_ups τ 106 x (A 55 (9 * p + x))) (by omega) (fw_okM_upa M (by decide)) (fun y hy => by
        by_cases c : y = x
        · rw [c, ab_ups_eq]
        · rw [ab_ups_ne (fun z => c z.2)]
          exact I y (by omega))
      rw [show ((x + 1 : Nat) : Int) = (x : Int) + 1 from rfl] at k
      exact k
  exact loop 9 0 σ rfl (fw_okM_refl _ _) (fun y hy => absurd hy (Nat.not_lt_zero y)))
theorem fm_m_bits9 (hinj : nn_inj ad) : fw_H l cy ad wr cr D 274 0 sp_m_bits9 := fw_mk hinj (⟨"NameNotesModel", "bits", "(I)I"⟩, prog_14_method_10_code, 3, (Option.some Jvm.ClassFile.FieldType.int), 1, false, 0) rfl rfl nn_KI20_ok nn_KJ20_ok nn_PF20_ok nn_PS20_ok (by decide +kernel) rfl rfl (fun _ h => absurd h List.not_mem_nil) (fun as σ K h => by
  obtain ⟨s0, rfl, hs0, h⟩ := h
  obtain ⟨s, rfl⟩ := Int.eq_ofNat_of_zero_le hs0.1
  have e0 : oz_cnt (oz_P ((0 : Nat) : Int)) 9 = 0 := by decide +kernel
  refine ⟨rfl, fun G hG => fs_m_bits9_0 hG ?_⟩
  have loop : ∀ (f n : Nat) (v : Int), n ≤ f → n < 512 → K (some (0, 0, v + ((oz_cnt (oz_P (n : Int)) 9 : Nat) : Int))) σ → G 4 [some (0, 0, (s : Int)), some (0, 0, v), some (0, 0, (n : Int))] [] σ := by
    intro f
    induction f with
    | zero =>
      intro n v hn h6 hk
      have e : n = 0 := by omega
      subst e
      refine fs_m_bits9_4 hG ⟨fun _ => ?_, fun z => absurd fw_c0 z⟩
      rw [e0, show v + ((0 : Nat) : Int) = v from Int.add_zero v] at hk
      exact hk
    | succ f ih =>
      intro n v hn h6 hk
      have en : fw_c (n : Int) = (n : Int) := fw_s (by omega) (by omega)
      refine fs_m_bits9_4 hG ?_
      rw [en]
      refine ⟨fun z => ?_, fun z => ?_⟩
      · have e : n = 0 := by omega
        rw [e, e0, show v + ((0 : Nat) : Int) = v from Int.add_zero v] at hk
        exact hk
      · obtain ⟨b1, b2, b3⟩ := on_bit n h6 (by omega)
        rw [b1]
        refine ih (n &&& (n - 1)) (v + 1) (by omega) (by omega) ?_
        rw [b3, Int.natCast_add, ← Int.add_assoc] at hk
        exact hk
  refine loop s s 0 (Nat.le_refl s) (by omega) ?_
  rw [Int.zero_add]
  exact h)
theorem fm_m_namedBy (hinj : nn_inj ad) : fw_H l cy ad wr cr D 279 6 sp_m_namedBy := fw_mk hinj (⟨"NameNotesModel", "namedBy", "(III)J"⟩, prog_14_method_77_code, 9, (Option.some Jvm.ClassFile.FieldType.long), 3, true, 2) rfl rfl nn_KI20_ok nn_KJ20_ok nn_PF20_ok nn_PS20_ok (by decide +kernel) rfl rfl (List.forall_mem_cons.mpr ⟨fw_row nn_PM20_ok (x := 216) (k := 0) (mn := 230) (np := 2) (ob := false) (ci := 0) (⟨"NameNotesModel", "has", "(II)Z"⟩, prog_14_method_9_code, 2, (Option.some Jvm.ClassFile.FieldType.boolean), 2, false, 1) rfl (by decide +kernel) rfl rfl (by decide) (fun q => by cases q) (fm_m_has hinj), (List.forall_mem_cons.mpr ⟨fw_row nn_PM20_ok (x := 261) (k := 0) (mn := 240) (np := 0) (ob := true) (ci := 11) (⟨"NameNotesModel", "tunes", "()I"⟩, prog_14_method_41_code, 1, (Option.some Jvm.ClassFile.FieldType.int), 0, true, 0) rfl (by decide +kernel) rfl rfl (by decide) (fun _ => ⟨_, _, rfl⟩) (fm_m_tunes hinj), (List.forall_mem_cons.mpr ⟨fw_row nn_PM20_ok (x := 306) (k := 0) (mn := 256) (np := 4) (ob := true) (ci := 11) (⟨"NameNotesModel", "likes", "(IIII)I"⟩, prog_14_method_60_code, 7, (Option.some Jvm.ClassFile.FieldType.int), 4, true, 0) rfl (by decide +kernel) rfl rfl (by decide) (fun _ => ⟨_, _, rfl⟩) (fm_m_likes hinj), (fun _ h => absurd h List.not_mem_nil)⟩)⟩)⟩) (fun as σ K h => by
  obtain ⟨A, x, n, s, rfl, hN, hx, hn, hs, hk, h⟩ := h
  have nT := (N_n hN.1).1
  obtain ⟨T, eT⟩ := Int.eq_ofNat_of_zero_le nT.1
  have lb := v_lk_b A (x : Int) n 0 s (A 49 11).toNat (by omega)
  have lh : ∀ z : Nat, z < 9 → (pr_hs (v_lk A (x : Int) n 0 s (A 49 11).toNat) (z : Int) = true ↔ z < (A 49 11).toNat ∧ pr_hs s (z : Int) = true ∧ n ≤ pr_cs A (x : Int) (z : Int) 0 9 0) := fun z hz => v_lk_h A (x : Int) n 0 s hz (A 49 11).toNat (by omega)
  generalize eg : v_lk A (x : Int) n 0 s (A 49 11).toNat = g at lb lh h
  have ob : ∀ y : Nat, y < 9 → pr_hs (fw_op 8 g (fw_op 10 (fw_op 5 1 (x : Int)) (-1))) (y : Int) = oz_but (oz_P g) x y := fun y hy => on_but lb.1 lb.2 (by omega) hy
  generalize eB : fw_op 8 g (fw_op 10 (fw_op 5 1 (x : Int)) (-1)) = B at ob
  have top : ∀ y : Nat, T ≤ y → y < T + (9 - T) → oz_but (oz_P g) x y = false := by
    intro y h1 h2
    rw [← Bool.not_eq_true]
    intro q
    unfold oz_but at q
    rw [Bool.and_eq_true] at q
    have := ((lh y (by omega)).mp q.1).1
    omega
  generalize eP : oz_but (oz_P g) x = P at ob top
  have c8 : oz_cnt P 9 ≤ 8 := by
    have := oz_cnt_but (P := oz_P g) (x := x) (Y := 9) (by omega)
    rw [eP] at this
    omega
  have st := oz_stop (κ := σ 106) top
  rw [show T + (9 - T) = 9 by omega] at st
  have cm : ∀ y : Nat, oz_cnt P y ≤ y := oz_cnt_le P
  have cmono : ∀ y : Nat, y ≤ 9 → oz_cnt P y ≤ oz_cnt P 9 := by
    have step : ∀ d y : Nat, oz_cnt P y ≤ oz_cnt P (y + d) := by
      intro d
      induction d with
      | zero => intro y; exact Nat.le_refl _
      | succ d ih =>
        intro y
        have := ih y
        show oz_cnt P y ≤ cond (P (y + d)) (oz_cnt P (y + d) + 1) (oz_cnt P (y + d))
        cases P (y + d) with
        | false => exact this
        | true => show oz_cnt P y ≤ oz_cnt P (y + d) + 1; omega
    intro y hy
    have := step (9 - y) y
    rw [show y + (9 - y) = 9 by omega] at this
    exact this
  have wn : ∀ y j : Nat, y ≤ 9 → 0 ≤ oz_w (σ 106) P y j := fun y j hy => oz_w_nn (fun z hz => hk z (by omega)) j
  have wl : ∀ y j : Nat, y ≤ 9 → oz_w (σ 106) P y j ≤ 9 ^ oz_cnt P y := fun y j hy => oz_w_le (fun z hz => hk z (by omega)) j
  have p9 : ∀ m : Nat, m ≤ 8 → (9 : Int) ^ (8 - m) * 9 ^ m = 43046721 := by decide
  have p98 : ∀ m : Nat, m ≤ 7 → (9 : Int) ^ (8 - m) = 9 * 9 ^ (8 - (m + 1)) := by decide
  have p1 : ∀ m : Nat, m ≤ 8 → 1 ≤ (9 : Int) ^ (8 - m) := by decide
  have wb : ∀ y j : Nat, y ≤ 9 → oz_cnt P y ≤ 8 → 9 ^ (8 - oz_cnt P y) * oz_w (σ 106) P y j ≤ 43046721 := by
    intro y j hy hm
    have a := p1 _ hm
    have b := Int.mul_le_mul_of_nonneg_left (wl y j hy) (show (0 : Int) ≤ 9 ^ (8 - oz_cnt P y) by omega)
    rw [p9 _ hm] at b
    exact b
  have wp : ∀ y j : Nat, y ≤ 9 → oz_cnt P y ≤ 8 → 0 ≤ 9 ^ (8 - oz_cnt P y) * oz_w (σ 106) P y j := fun y j hy hm => Int.mul_nonneg (by have := p1 _ hm; omega) (wn y j hy)
  refine ⟨rfl, fun G hG => fs_m_namedBy_0 hG ⟨A, x, n, 0, s, rfl, hN, hx, hn, by decide, fs_m_namedBy_8 hG ⟨by rw [fw_c0]; decide, trivial, ?_⟩⟩⟩
  rw [show ((0 : Nat) : Int) = 0 from rfl, eg, eB, fw_c0, show fw_d 43046721 = 43046721 from fw_d_id (by decide) (by decide)]
  have m106 : ∀ τ : ab_SG, ab_okM [(107, 1000000)] σ τ → ∀ y : Nat, τ 106 y = σ 106 y := fun τ M y => M 106 y (fun q hq => by rw [List.mem_singleton] at hq; rw [hq]; exact fun z => absurd z.1 (by decide))
  have m95 : ∀ τ : ab_SG, ab_okM [(107, 1000000)] σ τ → τ 95 0 = (T : Int) := fun τ M => ((M 95 0 (fun q hq => by rw [List.mem_singleton] at hq; rw [hq]; exact fun z => absurd z.1 (by decide))).trans (NM_n hN).1).trans eT
  have cT : fw_c (T : Int) = (T : Int) := fw_s (by omega) (by omega)
  -- the sum
  have sum : ∀ (f j : Nat) (τ : ab_SG) (o7 o4 : Option ab_AV), j + f = oz_cnt P 9 + 1 → ab_okM [(107, 1000000)] σ τ → (∀ i : Nat, i ≤ oz_cnt P 9 → τ 107 i = 9 ^ (8 - oz_cnt P 9) * oz_w (σ 106) P 9 i) → G 153 [some (2, 93, 0), some (0, 0, (x : Int)), some (0, 0, n), some (0, 0, s), o4, some (0, 0, ((oz_cnt P 9 : Nat) : Int)), some (1, 0, 9 ^ (8 - oz_cnt P 9) * oz_sum (fun j => oz_w (σ 106) P 9 j * (((2520 / (j + 1) : Nat)) : Int)) j), o7, some (0, 0, (j : Int))] [] τ := by
    intro f
    induction f with
    | zero =>
      intro j τ o7 o4 hj M I
      refine fs_m_namedBy_153 hG ?_
      rw [fw_s (x := ((oz_cnt P 9 : Nat) : Int)) (by omega) (by omega), fw_s (x := (j : Int)) (by omega) (by omega), fw_s (x := (x : Int)) (by omega) (by omega), Int.toNat_natCast, m106 τ M]
      have bx := hk x (by omega)
      refine ⟨fun _ => ⟨by omega, ?_⟩, fun z => absurd z (by omega)⟩
      rw [fw_s (x := σ 106 x) (by omega) (by omega)]
      have hh := h τ M
      unfold oz_nb at hh
      rw [eP] at hh
      have e9 : oz_sum (fun j => oz_w (σ 106) P 9 j * (((2520 / (j + 1) : Nat)) : Int)) 9 = oz_sum (fun j => oz_w (σ 106) P 9 j * (((2520 / (j + 1) : Nat)) : Int)) j := by
        have tail : ∀ d : Nat, oz_sum (fun j => oz_w (σ 106) P 9 j * (((2520 / (j + 1) : Nat)) : Int)) (j + d) = oz_sum (fun j => oz_w (σ 106) P 9 j * (((2520 / (j + 1) : Nat)) : Int)) j := by
          intro d
          induction d with
          | zero => rfl
          | succ d ihd =>
            show oz_sum _ (j + d) + oz_w (σ 106) P 9 (j + d) * (((2520 / (j + d + 1) : Nat)) : Int) = _
            rw [oz_w_cnt (show oz_cnt P 9 < j + d by omega), Int.zero_mul, Int.add_zero]
            exact ihd
        have := tail (9 - j)
        rw [show j + (9 - j) = 9 by omega] at this
        exact this
      rw [e9, Int.mul_comm] at hh
      exact hh
    | succ f ih =>
      intro j τ o7 o4 hj M I
      refine fs_m_namedBy_153 hG ?_
      have cj1 : fw_c ((j : Int) + 1) = (j : Int) + 1 := fw_s (by omega) (by omega)
      rw [fw_s (x := ((oz_cnt P 9 : Nat) : Int)) (by omega) (by omega), fw_s (x := (j : Int)) (by omega) (by omega), cj1, Int.toNat_natCast, I j (by omega), oz_each j (by omega)]
      refine ⟨fun z => absurd z (by omega), fun _ => ⟨by omega, by rw [fw_d_id (by omega) (by omega)]; omega, ?_⟩⟩
      have k := ih (j + 1) τ none o4 (by omega) M I
      have e : 9 ^ (8 - oz_cnt P 9) * oz_sum (fun j => oz_w (σ 106) P 9 j * (((2520 / (j + 1) : Nat)) : Int)) (j + 1) = 9 ^ (8 - oz_cnt P 9) * oz_sum (fun j => oz_w (σ 106) P 9 j * (((2520 / (j + 1) : Nat)) : Int)) j + 9 ^ (8 - oz_cnt P 9) * oz_w (σ 106) P 9 j * (((2520 / (j + 1) : Nat)) : Int) := by
        show 9 ^ (8 - oz_cnt P 9) * (oz_sum _ j + oz_w (σ 106) P 9 j * (((2520 / (j + 1) : Nat)) : Int)) = _
        rw [Int.mul_add, Int.mul_assoc]
      rw [e, show ((j + 1 : Nat) : Int) = (j : Int) + 1 from rfl] at k
      exact k
  -- one other one: from the highest place down
  have row : ∀ (y m : Nat), y < T → m = oz_cnt P y → P y = true → (∀ (τ : ab_SG) (o7 : Option ab_AV), ab_okM [(107, 1000000)] σ τ → (∀ i : Nat, i ≤ m + 1 → τ 107 i = 9 ^ (8 - (m + 1)) * oz_w (σ 106) P (y + 1) i) → G 141 [some (2, 93, 0), some (0, 0, (x : Int)), some (0, 0, n), some (0, 0, s), some (0, 0, B), some (0, 0, ((m + 1 : Nat) : Int)), some (0, 0, (y : Int)), o7, none] [] τ) →
      ∀ (j : Nat) (τ : ab_SG), j ≤ m + 1 → ab_okM [(107, 1000000)] σ τ → (∀ i : Nat, i ≤ m + 1 → (j < i → τ 107 i = 9 ^ (8 - (m + 1)) * oz_w (σ 106) P (y + 1) i) ∧ (i ≤ j → τ 107 i = 9 ^ (8 - m) * oz_w (σ 106) P y i)) → G 68 [some (2, 93, 0), some (0, 0, (x : Int)), some (0, 0, n), some (0, 0, s), some (0, 0, B), some (0, 0, ((m + 1 : Nat) : Int)), some (0, 0, (y : Int)), some (0, 0, (j : Int)), none] [] τ := by
    intro y m hy em hP nx
    have c1 : oz_cnt P (y + 1) = m + 1 := by show cond (P y) _ _ = _; rw [hP, em]; rfl
    have m7 : m ≤ 7 := by have := cmono (y + 1) (by omega); omega
    have w1 : oz_w (σ 106) P (y + 1) = oz_mul (σ 106 y) (oz_w (σ 106) P y) := by show cond (P y) _ _ = _; rw [hP]; rfl
    have cy : fw_c (y : Int) = (y : Int) := fw_s (by omega) (by omega)
    have hky := hk y (by omega)
    have dv : ∀ j : Nat, fw_lop 3 (9 ^ (8 - m) * oz_w (σ 106) P y j) 9 = 9 ^ (8 - (m + 1)) * oz_w (σ 106) P y j := by
      intro j
      have q := wb y j (by omega) (by omega)
      have q0 := wp y j (by omega) (by omega)
      rw [← em, p98 m m7, Int.mul_assoc] at q
      rw [p98 m m7, Int.mul_assoc]
      exact oz_ldiv (by decide) (by decide) (Int.mul_nonneg (by have := p1 (m + 1) (by omega); omega) (wn y j (by omega))) (by omega)
    have lay : ∀ (j : Nat) (τ : ab_SG) (v : Int), j ≤ m + 1 → v = 9 ^ (8 - (m + 1)) * oz_w (σ 106) P (y + 1) j → fw_d v = v := by
      intro j τ v hj ev
      have q := wb (y + 1) j (by omega) (by omega)
      have q0 := wp (y + 1) j (by omega) (by omega)
      rw [c1, ← ev] at q q0
      exact fw_d_id (by omega) (by omega)
    intro j
    induction j with
    | zero =>
      intro τ hj M I
      refine fs_m_namedBy_68 hG ?_
      rw [show fw_c ((0 : Nat) : Int) = 0 from fw_c0, cy, show ((0 : Int)).toNat = 0 from rfl, Int.toNat_natCast, m106 τ M, fw_s (x := 9 - σ 106 y) (by omega) (by omega), (I 0 (by omega)).2 (Nat.le_refl 0), dv 0]
      refine ⟨fun z => absurd z (by decide), fun _ => ⟨by decide, by rw [fw_d_id (by decide) (by decide)]; decide, by omega, fun _ => fs_m_namedBy_133 hG ⟨by rw [show fw_c ((0 : Nat) : Int) = 0 from fw_c0]; decide, trivial, ?_⟩, fun z => absurd z (by decide)⟩⟩
      have ev : 9 ^ (8 - (m + 1)) * oz_w (σ 106) P y 0 * (9 - σ 106 y) + ((0 : Nat) : Int) = 9 ^ (8 - (m + 1)) * oz_w (σ 106) P (y + 1) 0 := by
        rw [w1]
        show _ = 9 ^ (8 - (m + 1)) * ((9 - σ 106 y) * oz_w (σ 106) P y 0)
        rw [show ((0 : Nat) : Int) = 0 from rfl, Int.add_zero, Int.mul_assoc, Int.mul_comm (oz_w (σ 106) P y 0)]
      rw [lay 0 τ _ (by omega) ev, ev, show fw_c ((0 : Nat) : Int) = 0 from fw_c0]
      have M2 : ab_okM [(107, 1000000)] σ (ab_ups τ 107 (0 : Int).toNat (9 ^ (8 - (m + 1)) * oz_w (σ 106) P (y + 1) 0)) := fw_okM_upa M (by decide)
      refine fs_m_namedBy_68 hG ?_
      rw [show fw_c (((0 : Nat) : Int) + (-1)) = -1 from fw_s (by decide) (by decide)]
      refine ⟨fun _ => nx _ _ M2 (fun i hi => ?_), fun z => absurd z (by decide)⟩
      by_cases c : i = 0
      · rw [c]
        exact ab_ups_eq
      · exact (ab_ups_ne (fun z => c z.2)).trans ((I i hi).1 (by omega))
    | succ j ih =>
      intro τ hj M I
      refine fs_m_namedBy_68 hG ?_
      have cj : fw_c ((j + 1 : Nat) : Int) = ((j + 1 : Nat) : Int) := fw_s (by omega) (by omega)
      have cj0 : fw_c (((j + 1 : Nat) : Int) - 1) = (j : Int) := by rw [show ((j + 1 : Nat) : Int) - 1 = (j : Int) by omega]; exact fw_s (by omega) (by omega)
      rw [cj, cj0, cy, Int.toNat_natCast, Int.toNat_natCast, Int.toNat_natCast, m106 τ M, fw_s (x := 9 - σ 106 y) (by omega) (by omega), fw_s (x := σ 106 y) (by omega) (by omega), (I (j + 1) hj).2 (Nat.le_refl _), (I j (by omega)).2 (Nat.le_succ j), dv (j + 1), dv j]
      refine ⟨fun z => absurd z (by omega), fun _ => ⟨by omega, by rw [fw_d_id (by decide) (by decide)]; decide, by omega, fun z => absurd z (by omega), fun _ => ⟨by omega, by rw [fw_d_id (by decide) (by decide)]; decide, by omega, fs_m_namedBy_133 hG ⟨by rw [cj]; omega, trivial, ?_⟩⟩⟩⟩
      have ev : 9 ^ (8 - (m + 1)) * oz_w (σ 106) P y (j + 1) * (9 - σ 106 y) + 9 ^ (8 - (m + 1)) * oz_w (σ 106) P y j * σ 106 y = 9 ^ (8 - (m + 1)) * oz_w (σ 106) P (y + 1) (j + 1) := by
        rw [w1]
        show _ = 9 ^ (8 - (m + 1)) * ((9 - σ 106 y) * oz_w (σ 106) P y (j + 1) + σ 106 y * oz_w (σ 106) P y j)
        rw [Int.mul_add, Int.mul_assoc, Int.mul_assoc, Int.mul_comm (oz_w (σ 106) P y (j + 1)), Int.mul_comm (oz_w (σ 106) P y j)]
      rw [lay (j + 1) τ _ hj ev, ev, cj, Int.toNat_natCast]
      have k := ih (ab_ups τ 107 (j + 1) (9 ^ (8 - (m + 1)) * oz_w (σ 106) P (y + 1) (j + 1))) (by omega) (fw_okM_upa M (by decide)) (fun i hi => ⟨fun q => ?_, fun q => ?_⟩)
      · rw [show ((j + 1 : Nat) : Int) + (-1) = (j : Int) by omega]
        exact k
      · by_cases c : i = j + 1
        · rw [c]
          exact ab_ups_eq
        · rw [ab_ups_ne (fun z => c z.2)]
          exact (I i hi).1 (by omega)
      · rw [ab_ups_ne (fun z => by have := z.2; omega)]
        exact (I i hi).2 (by omega)
  -- tune by tune
  have loop : ∀ (f y : Nat) (τ : ab_SG) (o7 : Option ab_AV), y + f = T → ab_okM [(107, 1000000)] σ τ → (∀ i : Nat, i ≤ oz_cnt P y → τ 107 i = 9 ^ (8 - oz_cnt P y) * oz_w (σ 106) P y i) → G 31 [some (2, 93, 0), some (0, 0, (x : Int)), some (0, 0, n), some (0, 0, s), some (0, 0, B), some (0, 0, ((oz_cnt P y : Nat) : Int)), some (0, 0, (y : Int)), o7, none] [] τ := by
    intro f
    induction f with
    | zero =>
      intro y τ o7 hy M I
      have e : y = T := by omega
      subst e
      refine fs_m_namedBy_31 hG ⟨rfl, fs_m_namedBy_37 hG ?_⟩
      rw [m95 τ M, cT]
      refine ⟨fun _ => ?_, fun z => absurd z (by omega)⟩
      rw [← st.2, ← st.1] at I
      have k := sum (oz_cnt P 9 + 1) 0 τ none (some (0, 0, B)) (Nat.zero_add _) M I
      rw [show oz_sum (fun j => oz_w (σ 106) P 9 j * (((2520 / (j + 1) : Nat)) : Int)) 0 = 0 from rfl, Int.mul_zero] at k
      rw [← st.2]
      exact k
    | succ f ih =>
      intro y τ o7 hy M I
      have cy : fw_c (y : Int) = (y : Int) := fw_s (by omega) (by omega)
      have k := ih (y + 1)
      rw [show ((y + 1 : Nat) : Int) = (y : Int) + 1 from rfl] at k
      refine fs_m_namedBy_31 hG ⟨rfl, fs_m_namedBy_37 hG ?_⟩
      rw [m95 τ M, cT, cy]
      refine ⟨fun z => absurd z (by omega), fun _ => ⟨B, (y : Int), rfl, fs_m_namedBy_47 hG ⟨fun q => ?_, fun q => ?_⟩⟩⟩
      · have hP : P y = true := by rw [← ob y (by omega)]; exact fw_bo_ne q
        have c1 : oz_cnt P (y + 1) = oz_cnt P y + 1 := by show cond (P y) _ _ = _; rw [hP]; rfl
        have m7 : oz_cnt P y ≤ 7 := by have := cmono (y + 1) (by omega); omega
        have cc : fw_c (((oz_cnt P y : Nat) : Int) + 1) = ((oz_cnt P y + 1 : Nat) : Int) := fw_s (by omega) (by omega)
        rw [cc, Int.toNat_natCast, show fw_d ((0 : Nat) : Int) = 0 from fw_d_id (by decide) (by decide)]
        refine ⟨by omega, trivial, ?_⟩
        refine row y (oz_cnt P y) (by omega) rfl hP (fun τ' o7' M' I' => fs_m_namedBy_141 hG ?_) (oz_cnt P y + 1) _ (Nat.le_refl _) (fw_okM_upa M (by decide)) (fun i hi => ⟨fun z => absurd z (by omega), fun _ => ?_⟩)
        · rw [c1] at k
          exact k τ' o7' (by omega) M' I'
        · by_cases c : i = oz_cnt P y + 1
          · rw [c, ab_ups_eq, oz_w_cnt (Nat.lt_succ_self _), Int.mul_zero]
          · rw [ab_ups_ne (fun z => c z.2)]
            exact I i (by omega)
      · have hP : P y = false := by
          rw [← ob y (by omega), ← Bool.not_eq_true]
          exact fun z => fw_bo_eq q z
        have c1 : oz_cnt P (y + 1) = oz_cnt P y := by show cond (P y) _ _ = _; rw [hP]; rfl
        have w1 : oz_w (σ 106) P (y + 1) = oz_w (σ 106) P y := by show cond (P y) _ _ = _; rw [hP]; rfl
        refine fs_m_namedBy_141 hG ?_
        rw [c1, w1] at k
        exact k τ o7 (by omega) M I
  have I0 : ∀ i : Nat, i ≤ oz_cnt P 0 → (ab_ups σ 107 (0 : Int).toNat 43046721) 107 i = 9 ^ (8 - oz_cnt P 0) * oz_w (σ 106) P 0 i := by
    intro i hi
    have : i = 0 := Nat.le_zero.mp hi
    rw [this]
    show ab_ups σ 107 0 43046721 107 0 = 9 ^ 8 * 1
    rw [ab_ups_eq]
    decide
  exact loop T 0 _ none (Nat.zero_add T) (fw_okM_upa (fw_okM_refl _ _) (by decide)) I0)
end
