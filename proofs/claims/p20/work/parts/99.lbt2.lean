/-! a person becomes like another: both sides -/
/-- in how many of the first n two stretches of a row differ -/
def cd_n (F : Nat → Int) (a b : Nat) : Nat → Int
  | 0 => 0
  | n + 1 => if fw_c (F (a + n)) = fw_c (F (b + n)) then cd_n F a b n else cd_n F a b n + 1
theorem cd_s (F : Nat → Int) (a b n : Nat) : cd_n F a b (n + 1) = if fw_c (F (a + n)) = fw_c (F (b + n)) then cd_n F a b n else cd_n F a b n + 1 := rfl
theorem cd_b (F : Nat → Int) (a b : Nat) : ∀ n : Nat, 0 ≤ cd_n F a b n ∧ cd_n F a b n ≤ (n : Int)
  | 0 => ⟨Int.le_refl 0, Int.le_refl 0⟩
  | n + 1 => by
    have h := cd_b F a b n
    rw [cd_s]
    split <;> omega
theorem cd_cg {F F' : Nat → Int} {a b a' b' : Nat} : ∀ n : Nat, (∀ i : Nat, i < n → F (a + i) = F' (a' + i) ∧ F (b + i) = F' (b' + i)) → cd_n F a b n = cd_n F' a' b' n
  | 0, _ => rfl
  | n + 1, h => by
    have e := cd_cg n (fun i hi => h i (by omega))
    have e2 := h n (by omega)
    rw [cd_s, cd_s, e, e2.1, e2.2]
def cw_is (σ σ' : ab_SG) (k a b N : Nat) : Prop := ab_okM [(k, 1000000)] σ σ' ∧ (∀ j : Nat, (j < a ∨ a + N ≤ j) → σ' k j = σ k j) ∧ ∀ x : Nat, x < N → σ' k (a + x) = fw_c (σ k (b + x))
def qm_is (σ σ' : ab_SG) (p q N : Nat) : Prop := ∃ σ1 : ab_SG, sn_is (ab_ups σ 93 0 0) σ1 ∧ cw_is σ1 σ' 95 (182 + 9 * p) (182 + 9 * q) N
def sp_m_copies : fw_SP := fun as σ K => ∃ p q : Int, as = [(2, 93, 0), (0, 0, p), (0, 0, q)] ∧ (fw_c p = p ∧ fw_c q = q) ∧ m_fw σ ∧
  (¬ (m_pe σ p = true ∧ m_pe σ q = true) → K (some (0, 0, -1)) (ab_ups σ 93 0 0)) ∧
  (∀ p' q' N : Nat, p = (p' : Int) → q = (q' : Int) → m_pe σ p = true → m_pe σ q = true → σ 95 0 = (N : Int) → (cd_n (σ 95) (182 + 9 * p') (182 + 9 * q') N = 0 → K (some (0, 0, 0)) (ab_ups σ 93 0 0)) ∧
    (cd_n (σ 95) (182 + 9 * p') (182 + 9 * q') N ≠ 0 → ∀ σ' : ab_SG, qm_is σ σ' p' q' N → K (some (0, 0, cd_n (σ 95) (182 + 9 * p') (182 + 9 * q') N)) σ'))
def qc_is (σ σ' : ab_SG) (p q N : Nat) : Prop := ∃ σ1 : ab_SG, kj_is σ σ1 p ∧ cw_is σ1 σ' 9 (9 * p) (9 * q) N
def sp_copies : fw_SP := fun as σ K => ∃ p q : Int, as = [(2, 0, 0), (0, 0, p), (0, 0, q)] ∧ (fw_c p = p ∧ fw_c q = q) ∧ c_fw σ ∧
  (¬ (c_pe σ p = true ∧ c_pe σ q = true) → K (some (0, 0, -1)) σ) ∧
  (∀ p' q' N : Nat, p = (p' : Int) → q = (q' : Int) → c_pe σ p = true → c_pe σ q = true → σ 3 11 = (N : Int) → (cd_n (σ 9) (9 * p') (9 * q') N = 0 → K (some (0, 0, 0)) σ) ∧
    (cd_n (σ 9) (9 * p') (9 * q') N ≠ 0 → ∀ σ' : ab_SG, qc_is σ σ' p' q' N → K (some (0, 0, cd_n (σ 9) (9 * p') (9 * q') N)) σ'))
abbrev fk_m_copies : List fw_CR := [(261, 0, true, 11, 0, sp_m_tunes), (281, 1, true, 11, 0, sp_m_isPerson), (284, 2, true, 11, 0, sp_m_known), (411, 0, true, 11, 0, sp_m_snap)]
abbrev st_m_copies : fw_K → fw_KR → fw_K := fw_st vwCl nn_sh nn_kd fw_kv fw_wc (nn_KI20.map (fun x => x.1)) (nn_KJ20.map (fun x => x.1)) (nn_PF20.map (fun x => x.1)) (nn_PS20.map (fun x => x.1)) fk_m_copies 1 nn_dt318 5 0
theorem fs_m_copies_0 {G : fw_K} {R : fw_KR} (hG : fw_cls st_m_copies R G) {p q : Int} {σ : ab_SG} (h : sp_m_isPerson [(2, 93, 0), (0, 0, p)] (ab_ups σ 93 0 (fw_c 0)) (fun rv σ2 => G 10 [some (2, 93, 0), some (0, 0, p), some (0, 0, q), none, none] (rv.toList ++ []) σ2)) : G 0 [some (2, 93, 0), some (0, 0, p), some (0, 0, q), none, none] [] σ := fw_on hG [10, 18, 28, 34, 44, 51, 57, 73, 76, 82, 107] 200 h
theorem fs_m_copies_10 {G : fw_K} {R : fw_KR} (hG : fw_cls st_m_copies R G) {a1 a2 b0 : Int} {σ : ab_SG} (h : (fw_c b0 = 0 → R (some (0, 0, (-1))) σ) ∧ (fw_c b0 ≠ 0 → sp_m_isPerson [(2, 93, 0), (0, 0, a2)] σ (fun rv σ2 => G 18 [some (2, 93, 0), some (0, 0, a1), some (0, 0, a2), none, none] (rv.toList ++ []) σ2))) : G 10 [some (2, 93, 0), some (0, 0, a1), some (0, 0, a2), none, none] [(0, 0, b0)] σ := fw_on hG [10, 18, 28, 34, 44, 51, 57, 73, 76, 82, 107] 200 h
theorem fs_m_copies_18 {G : fw_K} {R : fw_KR} (hG : fw_cls st_m_copies R G) {a1 a2 b0 : Int} {σ : ab_SG} (h : (fw_c b0 ≠ 0 → G 28 [some (2, 93, 0), some (0, 0, a1), some (0, 0, a2), some (0, 0, 0), some (0, 0, 0)] [] σ) ∧ (fw_c b0 = 0 → R (some (0, 0, (-1))) σ)) : G 18 [some (2, 93, 0), some (0, 0, a1), some (0, 0, a2), none, none] [(0, 0, b0)] σ := fw_on hG [10, 18, 28, 34, 44, 51, 57, 73, 76, 82, 107] 200 h
theorem fs_m_copies_28 {G : fw_K} {R : fw_KR} (hG : fw_cls st_m_copies R G) {a1 a2 a3 a4 : Int} {σ : ab_SG} (h : sp_m_tunes [(2, 93, 0)] σ (fun rv σ2 => G 34 [some (2, 93, 0), some (0, 0, a1), some (0, 0, a2), some (0, 0, a3), some (0, 0, a4)] (rv.toList ++ [(0, 0, a4)]) σ2)) : G 28 [some (2, 93, 0), some (0, 0, a1), some (0, 0, a2), some (0, 0, a3), some (0, 0, a4)] [] σ := fw_on hG [10, 18, 28, 34, 44, 51, 57, 73, 76, 82, 107] 200 h
theorem fs_m_copies_34 {G : fw_K} {R : fw_KR} (hG : fw_cls st_m_copies R G) {a1 a2 a3 a4 b0 b1 : Int} {σ : ab_SG} (h : (fw_c b0 ≤ fw_c b1 → (fw_c a3 ≠ 0 → sp_m_snap [(2, 93, 0)] σ (fun rv σ2 => G 73 [some (2, 93, 0), some (0, 0, a1), some (0, 0, a2), some (0, 0, a3), some (0, 0, a4)] (rv.toList ++ []) σ2)) ∧ (fw_c a3 = 0 → R (some (0, 0, 0)) σ)) ∧ (fw_c b1 < fw_c b0 → sp_m_known [(2, 93, 0), (0, 0, a1), (0, 0, a4)] σ (fun rv σ2 => G 44 [some (2, 93, 0), some (0, 0, a1), some (0, 0, a2), some (0, 0, a3), some (0, 0, a4)] (rv.toList ++ []) σ2))) : G 34 [some (2, 93, 0), some (0, 0, a1), some (0, 0, a2), some (0, 0, a3), some (0, 0, a4)] [(0, 0, b0), (0, 0, b1)] σ := fw_on hG [10, 18, 28, 34, 44, 51, 57, 73, 76, 82, 107] 200 h
theorem fs_m_copies_73 {G : fw_K} {R : fw_KR} (hG : fw_cls st_m_copies R G) {a1 a2 a3 a4 : Int} {σ : ab_SG} (h : G 76 [some (2, 93, 0), some (0, 0, a1), some (0, 0, a2), some (0, 0, a3), some (0, 0, 0)] [] σ) : G 73 [some (2, 93, 0), some (0, 0, a1), some (0, 0, a2), some (0, 0, a3), some (0, 0, a4)] [] σ := fw_on hG [10, 18, 28, 34, 44, 51, 57, 73, 76, 82, 107] 200 h
theorem fs_m_copies_44 {G : fw_K} {R : fw_KR} (hG : fw_cls st_m_copies R G) {a1 a2 a3 a4 b0 : Int} {σ : ab_SG} (h : sp_m_known [(2, 93, 0), (0, 0, a2), (0, 0, a4)] σ (fun rv σ2 => G 51 [some (2, 93, 0), some (0, 0, a1), some (0, 0, a2), some (0, 0, a3), some (0, 0, a4)] (rv.toList ++ [(0, 0, b0)]) σ2)) : G 44 [some (2, 93, 0), some (0, 0, a1), some (0, 0, a2), some (0, 0, a3), some (0, 0, a4)] [(0, 0, b0)] σ := fw_on hG [10, 18, 28, 34, 44, 51, 57, 73, 76, 82, 107] 200 h
theorem fs_m_copies_76 {G : fw_K} {R : fw_KR} (hG : fw_cls st_m_copies R G) {a1 a2 a3 a4 : Int} {σ : ab_SG} (h : sp_m_tunes [(2, 93, 0)] σ (fun rv σ2 => G 82 [some (2, 93, 0), some (0, 0, a1), some (0, 0, a2), some (0, 0, a3), some (0, 0, a4)] (rv.toList ++ [(0, 0, a4)]) σ2)) : G 76 [some (2, 93, 0), some (0, 0, a1), some (0, 0, a2), some (0, 0, a3), some (0, 0, a4)] [] σ := fw_on hG [10, 18, 28, 34, 44, 51, 57, 73, 76, 82, 107] 200 h
theorem fs_m_copies_51 {G : fw_K} {R : fw_KR} (hG : fw_cls st_m_copies R G) {a1 a2 a3 a4 b0 b1 : Int} {σ : ab_SG} (h : (fw_c b1 = fw_c b0 → G 57 [some (2, 93, 0), some (0, 0, a1), some (0, 0, a2), some (0, 0, a3), some (0, 0, a4)] [] σ) ∧ (fw_c b1 ≠ fw_c b0 → G 57 [some (2, 93, 0), some (0, 0, a1), some (0, 0, a2), some (0, 0, a3 + 1), some (0, 0, a4)] [] σ)) : G 51 [some (2, 93, 0), some (0, 0, a1), some (0, 0, a2), some (0, 0, a3), some (0, 0, a4)] [(0, 0, b0), (0, 0, b1)] σ := fw_on hG [10, 18, 28, 34, 44, 51, 57, 73, 76, 82, 107] 200 h
theorem fs_m_copies_82 {G : fw_K} {R : fw_KR} (hG : fw_cls st_m_copies R G) {a1 a2 a3 a4 b0 b1 : Int} {σ : ab_SG} (h : (fw_c b0 ≤ fw_c b1 → R (some (0, 0, a3)) σ) ∧ (fw_c b1 < fw_c b0 → sp_m_known [(2, 93, 0), (0, 0, a2), (0, 0, a4)] σ (fun rv σ2 => G 107 [some (2, 93, 0), some (0, 0, a1), some (0, 0, a2), some (0, 0, a3), some (0, 0, a4)] (rv.toList ++ [(0, 0, (182 + (9 * a1)) + a4), (2, 95, 0)]) σ2))) : G 82 [some (2, 93, 0), some (0, 0, a1), some (0, 0, a2), some (0, 0, a3), some (0, 0, a4)] [(0, 0, b0), (0, 0, b1)] σ := fw_on hG [10, 18, 28, 34, 44, 51, 57, 73, 76, 82, 107] 200 h
theorem fs_m_copies_57 {G : fw_K} {R : fw_KR} (hG : fw_cls st_m_copies R G) {a1 a2 a3 a4 : Int} {σ : ab_SG} (h : G 28 [some (2, 93, 0), some (0, 0, a1), some (0, 0, a2), some (0, 0, a3), some (0, 0, a4 + 1)] [] σ) : G 57 [some (2, 93, 0), some (0, 0, a1), some (0, 0, a2), some (0, 0, a3), some (0, 0, a4)] [] σ := fw_on hG [10, 18, 28, 34, 44, 51, 57, 73, 76, 82, 107] 200 h
theorem fs_m_copies_107 {G : fw_K} {R : fw_KR} (hG : fw_cls st_m_copies R G) {a1 a2 a3 a4 b0 b1 : Int} {σ : ab_SG} (h : (0 ≤ fw_c b1 ∧ fw_c b1 < ((474 : Nat) : Int)) ∧ True ∧ (G 76 [some (2, 93, 0), some (0, 0, a1), some (0, 0, a2), some (0, 0, a3), some (0, 0, a4 + 1)] [] (ab_ups σ 95 (fw_c b1).toNat (fw_c b0)))) : G 107 [some (2, 93, 0), some (0, 0, a1), some (0, 0, a2), some (0, 0, a3), some (0, 0, a4)] [(0, 0, b0), (0, 0, b1), (2, 95, 0)] σ := fw_on hG [10, 18, 28, 34, 44, 51, 57, 73, 76, 82, 107] 200 h
abbrev fk_copies : List fw_CR := [(173, 1, true, 6, 0, sp_isPerson3), (176, 2, true, 6, 1, sp_ninth3), (339, 2, true, 3, 2, sp_keep), (343, 3, true, 6, 1, sp_setNinth3)]
abbrev st_copies : fw_K → fw_KR → fw_K := fw_st vwCl nn_sh nn_kd fw_kv fw_wc (nn_KI1.map (fun x => x.1)) (nn_KJ1.map (fun x => x.1)) (nn_PF1.map (fun x => x.1)) (nn_PS1.map (fun x => x.1)) fk_copies 3 nn_dt140 5 0
theorem fs_copies_0 {G : fw_K} {R : fw_KR} (hG : fw_cls st_copies R G) {p q : Int} {σ : ab_SG} (h : sp_isPerson3 [(2, 3, 0), (0, 0, p)] σ (fun rv σ2 => G 8 [some (2, 0, 0), some (0, 0, p), some (0, 0, q), none, none] (rv.toList ++ []) σ2)) : G 0 [some (2, 0, 0), some (0, 0, p), some (0, 0, q), none, none] [] σ := fw_on hG [8, 19, 29, 51, 61, 67, 89, 92, 121, 124] 200 h
theorem fs_copies_8 {G : fw_K} {R : fw_KR} (hG : fw_cls st_copies R G) {a1 a2 b0 : Int} {σ : ab_SG} (h : (fw_c b0 = 0 → R (some (0, 0, (-1))) σ) ∧ (fw_c b0 ≠ 0 → sp_isPerson3 [(2, 3, 0), (0, 0, a2)] σ (fun rv σ2 => G 19 [some (2, 0, 0), some (0, 0, a1), some (0, 0, a2), none, none] (rv.toList ++ []) σ2))) : G 8 [some (2, 0, 0), some (0, 0, a1), some (0, 0, a2), none, none] [(0, 0, b0)] σ := fw_on hG [8, 19, 29, 51, 61, 67, 89, 92, 121, 124] 200 h
theorem fs_copies_19 {G : fw_K} {R : fw_KR} (hG : fw_cls st_copies R G) {a1 a2 b0 : Int} {σ : ab_SG} (h : (fw_c b0 ≠ 0 → G 29 [some (2, 0, 0), some (0, 0, a1), some (0, 0, a2), some (0, 0, 0), some (0, 0, 0)] [] σ) ∧ (fw_c b0 = 0 → R (some (0, 0, (-1))) σ)) : G 19 [some (2, 0, 0), some (0, 0, a1), some (0, 0, a2), none, none] [(0, 0, b0)] σ := fw_on hG [8, 19, 29, 51, 61, 67, 89, 92, 121, 124] 200 h
theorem fs_copies_29 {G : fw_K} {R : fw_KR} (hG : fw_cls st_copies R G) {a1 a2 a3 a4 : Int} {σ : ab_SG} (h : (fw_c (σ 3 11) ≤ fw_c a4 → (fw_c a3 ≤ 0 → R (some (0, 0, a3)) σ) ∧ (0 < fw_c a3 → sp_keep [(2, 85, 0), (2, 3, 0), (0, 0, a1)] σ (fun rv σ2 => G 89 [some (2, 0, 0), some (0, 0, a1), some (0, 0, a2), some (0, 0, a3), some (0, 0, a4)] (rv.toList ++ []) σ2))) ∧ (fw_c a4 < fw_c (σ 3 11) → sp_ninth3 [(2, 3, 0), (0, 0, a1), (0, 0, a4)] σ (fun rv σ2 => G 51 [some (2, 0, 0), some (0, 0, a1), some (0, 0, a2), some (0, 0, a3), some (0, 0, a4)] (rv.toList ++ []) σ2))) : G 29 [some (2, 0, 0), some (0, 0, a1), some (0, 0, a2), some (0, 0, a3), some (0, 0, a4)] [] σ := fw_on hG [8, 19, 29, 51, 61, 67, 89, 92, 121, 124] 200 h
theorem fs_copies_89 {G : fw_K} {R : fw_KR} (hG : fw_cls st_copies R G) {a1 a2 a3 a4 : Int} {σ : ab_SG} (h : G 92 [some (2, 0, 0), some (0, 0, a1), some (0, 0, a2), some (0, 0, a3), some (0, 0, 0)] [] σ) : G 89 [some (2, 0, 0), some (0, 0, a1), some (0, 0, a2), some (0, 0, a3), some (0, 0, a4)] [] σ := fw_on hG [8, 19, 29, 51, 61, 67, 89, 92, 121, 124] 200 h
theorem fs_copies_51 {G : fw_K} {R : fw_KR} (hG : fw_cls st_copies R G) {a1 a2 a3 a4 b0 : Int} {σ : ab_SG} (h : sp_ninth3 [(2, 3, 0), (0, 0, a2), (0, 0, a4)] σ (fun rv σ2 => G 61 [some (2, 0, 0), some (0, 0, a1), some (0, 0, a2), some (0, 0, a3), some (0, 0, a4)] (rv.toList ++ [(0, 0, b0)]) σ2)) : G 51 [some (2, 0, 0), some (0, 0, a1), some (0, 0, a2), some (0, 0, a3), some (0, 0, a4)] [(0, 0, b0)] σ := fw_on hG [8, 19, 29, 51, 61, 67, 89, 92, 121, 124] 200 h
theorem fs_copies_92 {G : fw_K} {R : fw_KR} (hG : fw_cls st_copies R G) {a1 a2 a3 a4 : Int} {σ : ab_SG} (h : (fw_c (σ 3 11) ≤ fw_c a4 → R (some (0, 0, a3)) σ) ∧ (fw_c a4 < fw_c (σ 3 11) → sp_ninth3 [(2, 3, 0), (0, 0, a2), (0, 0, a4)] σ (fun rv σ2 => G 121 [some (2, 0, 0), some (0, 0, a1), some (0, 0, a2), some (0, 0, a3), some (0, 0, a4)] (rv.toList ++ [(0, 0, a4), (0, 0, a1), (2, 3, 0)]) σ2))) : G 92 [some (2, 0, 0), some (0, 0, a1), some (0, 0, a2), some (0, 0, a3), some (0, 0, a4)] [] σ := fw_on hG [8, 19, 29, 51, 61, 67, 89, 92, 121, 124] 200 h
theorem fs_copies_61 {G : fw_K} {R : fw_KR} (hG : fw_cls st_copies R G) {a1 a2 a3 a4 b0 b1 : Int} {σ : ab_SG} (h : (fw_c b1 = fw_c b0 → G 67 [some (2, 0, 0), some (0, 0, a1), some (0, 0, a2), some (0, 0, a3), some (0, 0, a4)] [] σ) ∧ (fw_c b1 ≠ fw_c b0 → G 67 [some (2, 0, 0), some (0, 0, a1), some (0, 0, a2), some (0, 0, a3 + 1), some (0, 0, a4)] [] σ)) : G 61 [some (2, 0, 0), some (0, 0, a1), some (0, 0, a2), some (0, 0, a3), some (0, 0, a4)] [(0, 0, b0), (0, 0, b1)] σ := fw_on hG [8, 19, 29, 51, 61, 67, 89, 92, 121, 124] 200 h
theorem fs_copies_121 {G : fw_K} {R : fw_KR} (hG : fw_cls st_copies R G) {a1 a2 a3 a4 b0 b1 b2 : Int} {σ : ab_SG} (h : sp_setNinth3 [(2, 3, 0), (0, 0, b2), (0, 0, b1), (0, 0, b0)] σ (fun rv σ2 => G 124 [some (2, 0, 0), some (0, 0, a1), some (0, 0, a2), some (0, 0, a3), some (0, 0, a4)] (rv.toList ++ []) σ2)) : G 121 [some (2, 0, 0), some (0, 0, a1), some (0, 0, a2), some (0, 0, a3), some (0, 0, a4)] [(0, 0, b0), (0, 0, b1), (0, 0, b2), (2, 3, 0)] σ := fw_on hG [8, 19, 29, 51, 61, 67, 89, 92, 121, 124] 200 h
theorem fs_copies_67 {G : fw_K} {R : fw_KR} (hG : fw_cls st_copies R G) {a1 a2 a3 a4 : Int} {σ : ab_SG} (h : G 29 [some (2, 0, 0), some (0, 0, a1), some (0, 0, a2), some (0, 0, a3), some (0, 0, a4 + 1)] [] σ) : G 67 [some (2, 0, 0), some (0, 0, a1), some (0, 0, a2), some (0, 0, a3), some (0, 0, a4)] [] σ := fw_on hG [8, 19, 29, 51, 61, 67, 89, 92, 121, 124] 200 h
theorem fs_copies_124 {G : fw_K} {R : fw_KR} (hG : fw_cls st_copies R G) {a1 a2 a3 a4 : Int} {σ : ab_SG} (h : G 92 [some (2, 0, 0), some (0, 0, a1), some (0, 0, a2), some (0, 0, a3), some (0, 0, a4 + 1)] [] σ) : G 124 [some (2, 0, 0), some (0, 0, a1), some (0, 0, a2), some (0, 0, a3), some (0, 0, a4)] [] σ := fw_on hG [8, 19, 29, 51, 61, 67, 89, 92, 121, 124] 200 h

section
variable {l : Launch} {cy : Nat → ClassId} {ad wr cr : Nat → Nat} {D : va_G}
theorem fm_m_copies (hinj : nn_inj ad) : fw_H l cy ad wr cr D 318 1 sp_m_copies := fw_mk hinj (⟨"NameNotesModel", "copies", "(II)I"⟩, prog_14_method_116_code, 5, (Option.some Jvm.ClassFile.FieldType.int), 2, true, 0) rfl rfl nn_KI20_ok nn_KJ20_ok nn_PF20_ok nn_PS20_ok (by decide +kernel) rfl rfl (List.forall_mem_cons.mpr ⟨fw_row nn_PM20_ok (x := 261) (k := 0) (mn := 240) (np := 0) (ob := true) (ci := 11) (⟨"NameNotesModel", "tunes", "()I"⟩, prog_14_method_41_code, 1, (Option.some Jvm.ClassFile.FieldType.int), 0, true, 0) rfl (by decide +kernel) rfl rfl (by decide) (fun _ => ⟨_, _, rfl⟩) (fm_m_tunes hinj), (List.forall_mem_cons.mpr ⟨fw_row nn_PM20_ok (x := 281) (k := 0) (mn := 249) (np := 1) (ob := true) (ci := 11) (⟨"NameNotesModel", "isPerson", "(I)Z"⟩, prog_14_method_44_code, 2, (Option.some Jvm.ClassFile.FieldType.boolean), 1, true, 1) rfl (by decide +kernel) rfl rfl (by decide) (fun _ => ⟨_, _, rfl⟩) (fm_m_isPerson hinj), (List.forall_mem_cons.mpr ⟨fw_row nn_PM20_ok (x := 284) (k := 0) (mn := 250) (np := 2) (ob := true) (ci := 11) (⟨"NameNotesModel", "known", "(II)I"⟩, prog_14_method_54_code, 3, (Option.some Jvm.ClassFile.FieldType.int), 2, true, 0) rfl (by decide +kernel) rfl rfl (by decide) (fun _ => ⟨_, _, rfl⟩) (fm_m_known hinj), (List.forall_mem_cons.mpr ⟨fw_row nn_PM20_ok (x := 411) (k := 0) (mn := 316) (np := 0) (ob := true) (ci := 11) (⟨"NameNotesModel", "snap", "()V"⟩, prog_14_method_112_code, 2, (Option.none : Option Jvm.ClassFile.FieldType), 0, true, 4) rfl (by decide +kernel) rfl rfl (by decide) (fun _ => ⟨_, _, rfl⟩) (fm_m_snap hinj), (fun _ h => absurd h List.not_mem_nil)⟩)⟩)⟩)⟩) (fun as σ K h => by
  obtain ⟨p, q, rfl, ⟨ep, e2⟩, ⟨w0, w2, w24⟩, h0, h1⟩ := h
  refine ⟨rfl, fun G hG => fs_m_copies_0 hG ⟨p, rfl, fs_m_copies_10 hG ?_⟩⟩
  rw [m_pe_ups, fw_c0]
  refine ⟨fun z => h0 (fun y => absurd (y.1.symm.trans (m_b_eq z)) (by decide)), fun z => ⟨q, rfl, fs_m_copies_18 hG ?_⟩⟩
  have qp := m_b_ne z
  rw [m_pe_ups]
  refine ⟨fun z => ?_, fun z => h0 (fun y => absurd (y.2.symm.trans (m_b_eq z)) (by decide))⟩
  have qq := m_b_ne z
  have p1 := m_pe_t qp
  have q1 := m_pe_t qq
  rw [ep, fw_c_id (x := σ 95 2) (by omega) (by omega)] at p1
  rw [e2, fw_c_id (x := σ 95 2) (by omega) (by omega)] at q1
  obtain ⟨p', rfl⟩ := Int.eq_ofNat_of_zero_le p1.1
  obtain ⟨q', rfl⟩ := Int.eq_ofNat_of_zero_le q1.1
  obtain ⟨N, hN⟩ := Int.eq_ofNat_of_zero_le w0.1
  obtain ⟨hz, hh⟩ := h1 p' q' N rfl rfl qp qq hN
  have k95 : ab_ups σ 93 0 0 95 = σ 95 := ab_ups_row (by decide)
  have eN : fw_c (N : Int) = (N : Int) := fw_c_id (by omega) (by omega)
  have cdN := cd_b (σ 95) (182 + 9 * p') (182 + 9 * q') N
  have loop2 : ∀ (σ1 : ab_SG), sn_is (ab_ups σ 93 0 0) σ1 → cd_n (σ 95) (182 + 9 * p') (182 + 9 * q') N ≠ 0 → ∀ (f x : Nat) (υ : ab_SG), x + f = N → ab_okM [(95, 1000000)] σ1 υ → (∀ j : Nat, (j < 182 + 9 * p' ∨ 182 + 9 * p' + x ≤ j) → υ 95 j = σ1 95 j) → (∀ y : Nat, y < x → υ 95 (182 + 9 * p' + y) = fw_c (σ1 95 (182 + 9 * q' + y))) →
      G 76 [some (2, 93, 0), some (0, 0, (p' : Int)), some (0, 0, (q' : Int)), some (0, 0, cd_n (σ 95) (182 + 9 * p') (182 + 9 * q') N), some (0, 0, (x : Int))] [] υ := by
    intro σ1 hs hne f
    have z0 : σ1 95 0 = (N : Int) := (hs.1 95 0 (by decide)).trans ((congrFun k95 0).trans hN)
    induction f with
    | zero =>
      intro x υ hx M a1 a2
      have ex : fw_c (x : Int) = (x : Int) := fw_c_id (by omega) (by omega)
      refine fs_m_copies_76 hG ⟨rfl, fs_m_copies_82 hG ?_⟩
      rw [a1 0 (by omega), z0, eN, ex]
      have e : x = N := by omega
      subst e
      exact ⟨fun _ => hh hne υ ⟨σ1, hs, M, a1, a2⟩, fun z => absurd z (by omega)⟩
    | succ f ih =>
      intro x υ hx M a1 a2
      have ex : fw_c (x : Int) = (x : Int) := fw_c_id (by omega) (by omega)
      have ej : fw_c ((182 + 9 * (p' : Int)) + (x : Int)) = ((182 + 9 * p' + x : Nat) : Int) := by rw [fw_c_id (by omega) (by omega)]; omega
      refine fs_m_copies_76 hG ⟨rfl, fs_m_copies_82 hG ?_⟩
      rw [a1 0 (by omega), z0, eN, ex]
      refine ⟨fun z => absurd z (by omega), fun _ => ⟨q', x, rfl, by omega, by omega, fs_m_copies_107 hG ?_⟩⟩
      rw [ej, Int.toNat_natCast]
      refine ⟨⟨Int.natCast_nonneg _, by omega⟩, trivial, ih (x + 1) _ (by omega) (fw_okM_upa M (by decide)) (fun j hj => ?_) (fun y hy => ?_)⟩
      · rw [ab_ups_ne (fun z => by omega)]; exact a1 j (by omega)
      · by_cases c : y = x
        · rw [c, ab_ups_eq, a1 (182 + 9 * q' + x) (by omega)]
        · rw [ab_ups_ne (fun z => by omega)]; exact a2 y (by omega)
  have loop1 : ∀ (f x : Nat), x + f = N → G 28 [some (2, 93, 0), some (0, 0, (p' : Int)), some (0, 0, (q' : Int)), some (0, 0, cd_n (σ 95) (182 + 9 * p') (182 + 9 * q') x), some (0, 0, (x : Int))] [] (ab_ups σ 93 0 0) := by
    intro f
    induction f with
    | zero =>
      intro x hx
      have ex : fw_c (x : Int) = (x : Int) := fw_c_id (by omega) (by omega)
      refine fs_m_copies_28 hG ⟨rfl, fs_m_copies_34 hG ?_⟩
      rw [k95, hN, eN, ex]
      have e : x = N := by omega
      subst e
      rw [fw_c_id (x := cd_n (σ 95) (182 + 9 * p') (182 + 9 * q') x) (by omega) (by omega)]
      refine ⟨fun _ => ⟨fun z => ⟨rfl, ?_, fun σ1 hs => fs_m_copies_73 hG (loop2 σ1 hs z x 0 σ1 (Nat.zero_add _) (fw_okM_refl _ _) (fun _ _ => rfl) (fun y hy => absurd hy (Nat.not_lt_zero _)))⟩, fun z => hz z⟩, fun z => absurd z (by omega)⟩
      rw [ab_ups_ne (fun z => absurd z.2 (by decide))]
      exact w24
    | succ f ih =>
      intro x hx
      have ex : fw_c (x : Int) = (x : Int) := fw_c_id (by omega) (by omega)
      have hn := ih (x + 1) (by omega)
      have cb := cd_b (σ 95) (182 + 9 * p') (182 + 9 * q') x
      refine fs_m_copies_28 hG ⟨rfl, fs_m_copies_34 hG ?_⟩
      rw [k95, hN, eN, ex]
      refine ⟨fun z => absurd z (by omega), fun _ => ⟨p', x, rfl, by omega, by omega, fs_m_copies_44 hG ⟨q', x, rfl, by omega, by omega, fs_m_copies_51 hG ?_⟩⟩⟩
      rw [k95]
      rw [cd_s] at hn
      refine ⟨fun z => fs_m_copies_57 hG ?_, fun z => fs_m_copies_57 hG ?_⟩
      · rw [if_pos z] at hn
        exact hn
      · rw [if_neg z] at hn
        exact hn
  exact loop1 N 0 (Nat.zero_add _))
theorem fm_copies (hinj : nn_inj ad) : fw_H l cy ad wr cr D 140 3 sp_copies := fw_mk hinj (⟨"NameNotes", "copies", "(II)I"⟩, prog_1_method_39_code, 5, (Option.some Jvm.ClassFile.FieldType.int), 2, true, 0) rfl rfl nn_KI1_ok nn_KJ1_ok nn_PF1_ok nn_PS1_ok (by decide +kernel) rfl rfl (List.forall_mem_cons.mpr ⟨fw_row nn_PM1_ok (x := 173) (k := 0) (mn := 67) (np := 1) (ob := true) (ci := 6) (⟨"NameNotes$Studio", "isPerson", "(I)Z"⟩, prog_8_method_6_code, 2, (Option.some Jvm.ClassFile.FieldType.boolean), 1, true, 1) rfl (by decide +kernel) rfl rfl (by decide) (fun _ => ⟨_, _, rfl⟩) (fm_isPerson3 hinj), (List.forall_mem_cons.mpr ⟨fw_row nn_PM1_ok (x := 176) (k := 0) (mn := 68) (np := 2) (ob := true) (ci := 6) (⟨"NameNotes$Studio", "ninth", "(II)I"⟩, prog_8_method_13_code, 3, (Option.some Jvm.ClassFile.FieldType.int), 2, true, 0) rfl (by decide +kernel) rfl rfl (by decide) (fun _ => ⟨_, _, rfl⟩) (fm_ninth3 hinj), (List.forall_mem_cons.mpr ⟨fw_row nn_PM1_ok (x := 339) (k := 0) (mn := 131) (np := 2) (ob := true) (ci := 3) (⟨"NameNotes$Journal", "keep", "(LNameNotes$Studio;I)V"⟩, prog_5_method_2_code, 5, (Option.none : Option Jvm.ClassFile.FieldType), 2, true, 4) rfl (by decide +kernel) rfl rfl (by decide) (fun _ => ⟨_, _, rfl⟩) (fm_keep hinj), (List.forall_mem_cons.mpr ⟨fw_row nn_PM1_ok (x := 343) (k := 0) (mn := 37) (np := 3) (ob := true) (ci := 6) (⟨"NameNotes$Studio", "setNinth", "(III)V"⟩, prog_8_method_14_code, 4, (Option.none : Option Jvm.ClassFile.FieldType), 3, true, 4) rfl (by decide +kernel) rfl rfl (by decide) (fun _ => ⟨_, _, rfl⟩) (fm_setNinth3 hinj), (fun _ h => absurd h List.not_mem_nil)⟩)⟩)⟩)⟩) (fun as σ K h => by
  obtain ⟨p, q, rfl, ⟨ep, e2⟩, ⟨w0, w2, w24⟩, h0, h1⟩ := h
  refine ⟨rfl, fun G hG => fs_copies_0 hG ⟨p, rfl, fs_copies_8 hG ?_⟩⟩
  refine ⟨fun z => h0 (fun y => absurd (y.1.symm.trans (m_b_eq z)) (by decide)), fun z => ⟨q, rfl, fs_copies_19 hG ?_⟩⟩
  have qp := m_b_ne z
  refine ⟨fun z => ?_, fun z => h0 (fun y => absurd (y.2.symm.trans (m_b_eq z)) (by decide))⟩
  have qq := m_b_ne z
  have p1 := c_pe_t qp
  have q1 := c_pe_t qq
  rw [ep, fw_c_id (x := σ 3 13) (by omega) (by omega)] at p1
  rw [e2, fw_c_id (x := σ 3 13) (by omega) (by omega)] at q1
  obtain ⟨p', rfl⟩ := Int.eq_ofNat_of_zero_le p1.1
  obtain ⟨q', rfl⟩ := Int.eq_ofNat_of_zero_le q1.1
  obtain ⟨N, hN⟩ := Int.eq_ofNat_of_zero_le w0.1
  obtain ⟨hz, hh⟩ := h1 p' q' N rfl rfl qp qq hN
  have eN : fw_c (N : Int) = (N : Int) := fw_c_id (by omega) (by omega)
  have cdN := cd_b (σ 9) (9 * p') (9 * q') N
  have loop2 : ∀ (σ1 : ab_SG), kj_is σ σ1 p' → cd_n (σ 9) (9 * p') (9 * q') N ≠ 0 → ∀ (f x : Nat) (υ : ab_SG), x + f = N → ab_okM [(9, 1000000)] σ1 υ → (∀ j : Nat, (j < 9 * p' ∨ 9 * p' + x ≤ j) → υ 9 j = σ1 9 j) → (∀ y : Nat, y < x → υ 9 (9 * p' + y) = fw_c (σ1 9 (9 * q' + y))) →
      G 92 [some (2, 0, 0), some (0, 0, (p' : Int)), some (0, 0, (q' : Int)), some (0, 0, cd_n (σ 9) (9 * p') (9 * q') N), some (0, 0, (x : Int))] [] υ := by
    intro σ1 hs hne f
    have z0 : σ1 3 11 = (N : Int) := (hs.1 3 11 (by decide)).trans hN
    induction f with
    | zero =>
      intro x υ hx M a1 a2
      have ex : fw_c (x : Int) = (x : Int) := fw_c_id (by omega) (by omega)
      refine fs_copies_92 hG ?_
      rw [M 3 11 (by decide), z0, eN, ex]
      have e : x = N := by omega
      subst e
      exact ⟨fun _ => hh hne υ ⟨σ1, hs, M, a1, a2⟩, fun z => absurd z (by omega)⟩
    | succ f ih =>
      intro x υ hx M a1 a2
      have ex : fw_c (x : Int) = (x : Int) := fw_c_id (by omega) (by omega)
      refine fs_copies_92 hG ?_
      rw [M 3 11 (by decide), z0, eN, ex]
      refine ⟨fun z => absurd z (by omega), fun _ => ⟨q', x, rfl, by omega, by omega, fs_copies_121 hG ⟨p', x, _, rfl, by omega, by omega, fs_copies_124 hG ?_⟩⟩⟩
      refine ih (x + 1) _ (by omega) (fw_okM_upa M (by decide)) (fun j hj => ?_) (fun y hy => ?_)
      · rw [ab_ups_ne (fun z => by omega)]; exact a1 j (by omega)
      · by_cases c : y = x
        · rw [c, ab_ups_eq, a1 (9 * q' + x) (by omega)]
        · rw [ab_ups_ne (fun z => by omega)]; exact a2 y (by omega)
  have loop1 : ∀ (f x : Nat), x + f = N → G 29 [some (2, 0, 0), some (0, 0, (p' : Int)), some (0, 0, (q' : Int)), some (0, 0, cd_n (σ 9) (9 * p') (9 * q') x), some (0, 0, (x : Int))] [] σ := by
    intro f
    induction f with
    | zero =>
      intro x hx
      have ex : fw_c (x : Int) = (x : Int) := fw_c_id (by omega) (by omega)
      refine fs_copies_29 hG ?_
      rw [hN, eN, ex]
      have e : x = N := by omega
      subst e
      rw [fw_c_id (x := cd_n (σ 9) (9 * p') (9 * q') x) (by omega) (by omega)]
      refine ⟨fun _ => ⟨fun z => ?_, fun z => ⟨p', rfl, by omega, w24, fun σ1 hs => fs_copies_89 hG (loop2 σ1 hs (by omega) x 0 σ1 (Nat.zero_add _) (fw_okM_refl _ _) (fun _ _ => rfl) (fun y hy => absurd hy (Nat.not_lt_zero _)))⟩⟩, fun z => absurd z (by omega)⟩
      have e0 : cd_n (σ 9) (9 * p') (9 * q') x = 0 := by omega
      rw [e0]
      exact hz e0
    | succ f ih =>
      intro x hx
      have ex : fw_c (x : Int) = (x : Int) := fw_c_id (by omega) (by omega)
      have hn := ih (x + 1) (by omega)
      refine fs_copies_29 hG ?_
      rw [hN, eN, ex]
      refine ⟨fun z => absurd z (by omega), fun _ => ⟨p', x, rfl, by omega, by omega, fs_copies_51 hG ⟨q', x, rfl, by omega, by omega, fs_copies_61 hG ?_⟩⟩⟩
      rw [cd_s] at hn
      refine ⟨fun z => fs_copies_67 hG ?_, fun z => fs_copies_67 hG ?_⟩
      · rw [if_pos z] at hn
        exact hn
      · rw [if_neg z] at hn
        exact hn
  exact loop1 N 0 (Nat.zero_add _))
end
