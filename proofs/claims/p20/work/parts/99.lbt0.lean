/-! what teaches and takes back: the reference -/
def m_pe (σ : ab_SG) (p : Int) : Bool := decide (0 ≤ fw_c p) && decide (fw_c p < fw_c (σ 95 2))
def m_tu (σ : ab_SG) (x : Int) : Bool := decide (0 ≤ fw_c x) && decide (fw_c x < fw_c (σ 95 0))
def m_b (b : Bool) : Int := if b = true then 1 else 0
theorem m_pe_t {σ : ab_SG} {p : Int} (h : m_pe σ p = true) : 0 ≤ fw_c p ∧ fw_c p < fw_c (σ 95 2) := by
  unfold m_pe at h
  rw [Bool.and_eq_true] at h
  exact ⟨of_decide_eq_true h.1, of_decide_eq_true h.2⟩
theorem m_tu_t {σ : ab_SG} {p : Int} (h : m_tu σ p = true) : 0 ≤ fw_c p ∧ fw_c p < fw_c (σ 95 0) := by
  unfold m_tu at h
  rw [Bool.and_eq_true] at h
  exact ⟨of_decide_eq_true h.1, of_decide_eq_true h.2⟩
theorem m_b_ne {b : Bool} (h : fw_c (m_b b) ≠ 0) : b = true := by
  cases b with
  | true => rfl
  | false => exact absurd fw_c0 h
theorem m_b_eq {b : Bool} (h : fw_c (m_b b) = 0) : b = false := by
  cases b with
  | false => rfl
  | true => exact absurd (fw_c1.symm.trans h) (by decide)
theorem m_b1 {a b : Prop} [Decidable a] [Decidable b] (h1 : a) (h2 : b) : m_b (decide a && decide b) = 1 := by
  rw [decide_eq_true h1, decide_eq_true h2]
  rfl
theorem m_b0 {a b : Prop} [Decidable a] [Decidable b] (h : ¬ (a ∧ b)) : m_b (decide a && decide b) = 0 := by
  by_cases h1 : a
  · rw [decide_eq_true h1, decide_eq_false (fun h2 => h ⟨h1, h2⟩)]
    rfl
  · rw [decide_eq_false h1]
    rfl
def sp_m_isPerson : fw_SP := fun as σ K => ∃ p : Int, as = [(2, 93, 0), (0, 0, p)] ∧ K (some (0, 0, m_b (m_pe σ p))) σ
def sp_m_isTune : fw_SP := fun as σ K => ∃ p : Int, as = [(2, 93, 0), (0, 0, p)] ∧ K (some (0, 0, m_b (m_tu σ p))) σ
def sp_m_known : fw_SP := fun as σ K => ∃ p x : Nat, as = [(2, 93, 0), (0, 0, (p : Int)), (0, 0, (x : Int))] ∧ p < 5 ∧ x < 9 ∧ K (some (0, 0, σ 95 (182 + 9 * p + x))) σ
def sn_M : ab_ML := [(93, 24), (98, 1000000)]
/-- what may be taken back is kept once more -/
def sn_is (σ σ' : ab_SG) : Prop := ab_okM sn_M σ σ' ∧ (∀ n : Nat, σ 93 24 = (n : Int) → n < 8 → σ' 93 24 = (n : Int) + 1 ∧ (∀ j : Nat, j < 50 * n → σ' 98 j = σ 98 j) ∧ ∀ j : Nat, j < 50 → σ' 98 (50 * n + j) = fw_c (σ 95 (182 + j))) ∧
  (σ 93 24 = 8 → σ' 93 24 = 8 ∧ (∀ j : Nat, j < 350 → σ' 98 j = fw_c (σ 98 (j + 50))) ∧ ∀ j : Nat, j < 50 → σ' 98 (350 + j) = fw_c (σ 95 (182 + j)))
def sp_m_snap : fw_SP := fun as σ K => as = [(2, 93, 0)] ∧ (0 ≤ σ 93 24 ∧ σ 93 24 ≤ 8) ∧ ∀ σ' : ab_SG, sn_is σ σ' → K none σ'
def un_M : ab_ML := [(93, 0), (93, 24), (95, 1000000)]
def sp_m_undo : fw_SP := fun as σ K => as = [(2, 93, 0)] ∧ (0 ≤ σ 93 24 ∧ σ 93 24 ≤ 8) ∧ (σ 93 24 = 0 → K (some (0, 0, -1)) (ab_ups σ 93 0 0)) ∧
  (∀ n : Nat, σ 93 24 = (n : Int) + 1 → ∀ σ' : ab_SG, ab_okM un_M σ σ' → σ' 93 24 = (n : Int) → (∀ j : Nat, (j < 182 ∨ 232 ≤ j) → σ' 95 j = σ 95 j) → (∀ j : Nat, j < 50 → σ' 95 (182 + j) = fw_c (σ 98 (50 * n + j))) → K (some (0, 0, (n : Int))) σ')
/-- the persons and the tunes are few -/
def m_fw (σ : ab_SG) : Prop := (0 ≤ σ 95 0 ∧ σ 95 0 ≤ 9) ∧ (0 ≤ σ 95 2 ∧ σ 95 2 ≤ 5) ∧ (0 ≤ σ 93 24 ∧ σ 93 24 ≤ 8)
def te_M : ab_ML := (93, 0) :: (95, 1000000) :: sn_M
/-- one number is put behind a kept state -/
def te_is (σ σ' : ab_SG) (q : Nat) (v : Int) : Prop := ∃ σ1 : ab_SG, sn_is (ab_ups σ 93 0 0) σ1 ∧ σ' = ab_ups σ1 95 q (fw_c v)
def sp_m_teach : fw_SP := fun as σ K => ∃ p x k : Int, as = [(2, 93, 0), (0, 0, p), (0, 0, x), (0, 0, k)] ∧ (fw_c p = p ∧ fw_c x = x ∧ fw_c k = k) ∧ m_fw σ ∧
  (¬ (m_pe σ p = true ∧ m_tu σ x = true ∧ (0 ≤ k ∧ k ≤ 9)) → K (some (0, 0, 0)) (ab_ups σ 93 0 0)) ∧
  (∀ p' x' : Nat, p = (p' : Int) → x = (x' : Int) → m_pe σ p = true → m_tu σ x = true → (0 ≤ k ∧ k ≤ 9) → (fw_c (σ 95 (182 + 9 * p' + x')) = k → K (some (0, 0, 0)) (ab_ups σ 93 0 0)) ∧ (fw_c (σ 95 (182 + 9 * p' + x')) ≠ k → ∀ σ' : ab_SG, te_is σ σ' (182 + 9 * p' + x') k → K (some (0, 0, 1)) σ'))
def sp_m_dares : fw_SP := fun as σ K => ∃ p k : Int, as = [(2, 93, 0), (0, 0, p), (0, 0, k)] ∧ (fw_c p = p ∧ fw_c k = k) ∧ m_fw σ ∧
  (¬ (m_pe σ p = true ∧ (0 ≤ k ∧ k ≤ 9)) → K (some (0, 0, 0)) (ab_ups σ 93 0 0)) ∧
  (∀ p' : Nat, p = (p' : Int) → m_pe σ p = true → (0 ≤ k ∧ k ≤ 9) → (fw_c (σ 95 (227 + p')) = k → K (some (0, 0, 0)) (ab_ups σ 93 0 0)) ∧ (fw_c (σ 95 (227 + p')) ≠ k → ∀ σ' : ab_SG, te_is σ σ' (227 + p') k → K (some (0, 0, 1)) σ'))
theorem m_pe_ups {σ : ab_SG} {v p : Int} : m_pe (ab_ups σ 93 0 v) p = m_pe σ p := by
  unfold m_pe
  rw [ab_ups_ne (fun z => absurd z.1 (by decide))]
theorem m_tu_ups {σ : ab_SG} {v p : Int} : m_tu (ab_ups σ 93 0 v) p = m_tu σ p := by
  unfold m_tu
  rw [ab_ups_ne (fun z => absurd z.1 (by decide))]
abbrev fk_m_isPerson : List fw_CR := []
abbrev st_m_isPerson : fw_K → fw_KR → fw_K := fw_st vwCl nn_sh nn_kd fw_kv fw_wc (nn_KI20.map (fun x => x.1)) (nn_KJ20.map (fun x => x.1)) (nn_PF20.map (fun x => x.1)) (nn_PS20.map (fun x => x.1)) fk_m_isPerson 0 nn_dt249 2 1
theorem fs_m_isPerson_0 {G : fw_K} {R : fw_KR} (hG : fw_cls st_m_isPerson R G) {p : Int} {σ : ab_SG} (h : (fw_c p < 0 → (0 ≤ fw_c 0 ∧ fw_c 0 ≤ 1) ∧ R (some (0, 0, 0)) σ) ∧ (0 ≤ fw_c p → (0 ≤ fw_c 2 ∧ fw_c 2 < ((474 : Nat) : Int)) ∧ ((fw_c (σ 95 (fw_c 2).toNat) ≤ fw_c p → (0 ≤ fw_c 0 ∧ fw_c 0 ≤ 1) ∧ R (some (0, 0, 0)) σ) ∧ (fw_c p < fw_c (σ 95 (fw_c 2).toNat) → (0 ≤ fw_c 1 ∧ fw_c 1 ≤ 1) ∧ R (some (0, 0, 1)) σ)))) : G 0 [some (2, 93, 0), some (0, 0, p)] [] σ := fw_on hG [] 200 h
abbrev fk_m_isTune : List fw_CR := [(261, 0, true, 11, 0, sp_m_tunes)]
abbrev st_m_isTune : fw_K → fw_KR → fw_K := fw_st vwCl nn_sh nn_kd fw_kv fw_wc (nn_KI20.map (fun x => x.1)) (nn_KJ20.map (fun x => x.1)) (nn_PF20.map (fun x => x.1)) (nn_PS20.map (fun x => x.1)) fk_m_isTune 1 nn_dt239 2 1
theorem fs_m_isTune_0 {G : fw_K} {R : fw_KR} (hG : fw_cls st_m_isTune R G) {x : Int} {σ : ab_SG} (h : (fw_c x < 0 → (0 ≤ fw_c 0 ∧ fw_c 0 ≤ 1) ∧ R (some (0, 0, 0)) σ) ∧ (0 ≤ fw_c x → sp_m_tunes [(2, 93, 0)] σ (fun rv σ2 => G 9 [some (2, 93, 0), some (0, 0, x)] (rv.toList ++ [(0, 0, x)]) σ2))) : G 0 [some (2, 93, 0), some (0, 0, x)] [] σ := fw_on hG [9] 200 h
theorem fs_m_isTune_9 {G : fw_K} {R : fw_KR} (hG : fw_cls st_m_isTune R G) {a1 b0 b1 : Int} {σ : ab_SG} (h : (fw_c b0 ≤ fw_c b1 → (0 ≤ fw_c 0 ∧ fw_c 0 ≤ 1) ∧ R (some (0, 0, 0)) σ) ∧ (fw_c b1 < fw_c b0 → (0 ≤ fw_c 1 ∧ fw_c 1 ≤ 1) ∧ R (some (0, 0, 1)) σ)) : G 9 [some (2, 93, 0), some (0, 0, a1)] [(0, 0, b0), (0, 0, b1)] σ := fw_on hG [9] 200 h
abbrev fk_m_known : List fw_CR := []
abbrev st_m_known : fw_K → fw_KR → fw_K := fw_st vwCl nn_sh nn_kd fw_kv fw_wc (nn_KI20.map (fun x => x.1)) (nn_KJ20.map (fun x => x.1)) (nn_PF20.map (fun x => x.1)) (nn_PS20.map (fun x => x.1)) fk_m_known 0 nn_dt250 3 0
theorem fs_m_known_0 {G : fw_K} {R : fw_KR} (hG : fw_cls st_m_known R G) {p x : Int} {σ : ab_SG} (h : (0 ≤ fw_c ((182 + (9 * p)) + x) ∧ fw_c ((182 + (9 * p)) + x) < ((474 : Nat) : Int)) ∧ (R (some (0, 0, σ 95 (fw_c ((182 + (9 * p)) + x)).toNat)) σ)) : G 0 [some (2, 93, 0), some (0, 0, p), some (0, 0, x)] [] σ := fw_on hG [] 200 h
abbrev fk_m_snap : List fw_CR := []
abbrev st_m_snap : fw_K → fw_KR → fw_K := fw_st vwCl nn_sh nn_kd fw_kv fw_wc (nn_KI20.map (fun x => x.1)) (nn_KJ20.map (fun x => x.1)) (nn_PF20.map (fun x => x.1)) (nn_PS20.map (fun x => x.1)) fk_m_snap 0 nn_dt316 2 4
theorem fs_m_snap_0 {G : fw_K} {R : fw_KR} (hG : fw_cls st_m_snap R G) {σ : ab_SG} (h : (fw_c (σ 93 24) ≠ fw_c 8 → G 50 [some (2, 93, 0), none] [] σ) ∧ (fw_c (σ 93 24) = fw_c 8 → G 12 [some (2, 93, 0), some (0, 0, 50)] [] σ)) : G 0 [some (2, 93, 0), none] [] σ := fw_on hG [12, 50, 52] 200 h
theorem fs_m_snap_50 {G : fw_K} {R : fw_KR} (hG : fw_cls st_m_snap R G) {σ : ab_SG} (h : G 52 [some (2, 93, 0), some (0, 0, 0)] [] σ) : G 50 [some (2, 93, 0), none] [] σ := fw_on hG [12, 50, 52] 200 h
theorem fs_m_snap_12 {G : fw_K} {R : fw_KR} (hG : fw_cls st_m_snap R G) {a1 : Int} {σ : ab_SG} (h : (fw_c 400 ≤ fw_c a1 → G 50 [some (2, 93, 0), some (0, 0, a1)] [] (ab_ups σ 93 24 (fw_c ((σ 93 24) - 1)))) ∧ (fw_c a1 < fw_c 400 → (0 ≤ fw_c a1 ∧ fw_c a1 < ((400 : Nat) : Int)) ∧ ((0 ≤ fw_c (a1 - 50) ∧ fw_c (a1 - 50) < ((400 : Nat) : Int)) ∧ True ∧ (G 12 [some (2, 93, 0), some (0, 0, a1 + 1)] [] (ab_ups σ 98 (fw_c (a1 - 50)).toNat (fw_c (σ 98 (fw_c a1).toNat))))))) : G 12 [some (2, 93, 0), some (0, 0, a1)] [] σ := fw_on hG [12, 50, 52] 200 h
theorem fs_m_snap_52 {G : fw_K} {R : fw_KR} (hG : fw_cls st_m_snap R G) {a1 : Int} {σ : ab_SG} (h : (fw_c 50 ≤ fw_c a1 → R none (ab_ups σ 93 24 (fw_c ((σ 93 24) + 1)))) ∧ (fw_c a1 < fw_c 50 → (0 ≤ fw_c (182 + a1) ∧ fw_c (182 + a1) < ((474 : Nat) : Int)) ∧ ((0 ≤ fw_c ((50 * (σ 93 24)) + a1) ∧ fw_c ((50 * (σ 93 24)) + a1) < ((400 : Nat) : Int)) ∧ True ∧ (G 52 [some (2, 93, 0), some (0, 0, a1 + 1)] [] (ab_ups σ 98 (fw_c ((50 * (σ 93 24)) + a1)).toNat (fw_c (σ 95 (fw_c (182 + a1)).toNat))))))) : G 52 [some (2, 93, 0), some (0, 0, a1)] [] σ := fw_on hG [12, 50, 52] 200 h
theorem fs_m_snap_50a {G : fw_K} {R : fw_KR} (hG : fw_cls st_m_snap R G) {a1 : Int} {σ : ab_SG} (h : G 52 [some (2, 93, 0), some (0, 0, 0)] [] σ) : G 50 [some (2, 93, 0), some (0, 0, a1)] [] σ := fw_on hG [12, 50, 52] 200 h
abbrev fk_m_undo : List fw_CR := []
abbrev st_m_undo : fw_K → fw_KR → fw_K := fw_st vwCl nn_sh nn_kd fw_kv fw_wc (nn_KI20.map (fun x => x.1)) (nn_KJ20.map (fun x => x.1)) (nn_PF20.map (fun x => x.1)) (nn_PS20.map (fun x => x.1)) fk_m_undo 0 nn_dt314 2 0
theorem fs_m_undo_0 {G : fw_K} {R : fw_KR} (hG : fw_cls st_m_undo R G) {σ : ab_SG} (h : (fw_c (σ 93 24) ≠ 0 → G 26 [some (2, 93, 0), some (0, 0, 0)] [] (ab_ups (ab_ups σ 93 0 (fw_c 0)) 93 24 (fw_c ((σ 93 24) - 1)))) ∧ (fw_c (σ 93 24) = 0 → R (some (0, 0, (-1))) (ab_ups σ 93 0 (fw_c 0)))) : G 0 [some (2, 93, 0), none] [] σ := fw_on hG [26] 200 h
theorem fs_m_undo_26 {G : fw_K} {R : fw_KR} (hG : fw_cls st_m_undo R G) {a1 : Int} {σ : ab_SG} (h : (fw_c 50 ≤ fw_c a1 → R (some (0, 0, σ 93 24)) σ) ∧ (fw_c a1 < fw_c 50 → (0 ≤ fw_c ((50 * (σ 93 24)) + a1) ∧ fw_c ((50 * (σ 93 24)) + a1) < ((400 : Nat) : Int)) ∧ ((0 ≤ fw_c (182 + a1) ∧ fw_c (182 + a1) < ((474 : Nat) : Int)) ∧ True ∧ (G 26 [some (2, 93, 0), some (0, 0, a1 + 1)] [] (ab_ups σ 95 (fw_c (182 + a1)).toNat (fw_c (σ 98 (fw_c ((50 * (σ 93 24)) + a1)).toNat))))))) : G 26 [some (2, 93, 0), some (0, 0, a1)] [] σ := fw_on hG [26] 200 h
abbrev fk_m_teach : List fw_CR := [(171, 3, false, 0, 0, sp_m_isIn), (267, 1, true, 11, 1, sp_m_isTune), (281, 1, true, 11, 0, sp_m_isPerson), (284, 2, true, 11, 0, sp_m_known), (411, 0, true, 11, 0, sp_m_snap)]
abbrev st_m_teach : fw_K → fw_KR → fw_K := fw_st vwCl nn_sh nn_kd fw_kv fw_wc (nn_KI20.map (fun x => x.1)) (nn_KJ20.map (fun x => x.1)) (nn_PF20.map (fun x => x.1)) (nn_PS20.map (fun x => x.1)) fk_m_teach 2 nn_dt315 4 1
theorem fs_m_teach_0 {G : fw_K} {R : fw_KR} (hG : fw_cls st_m_teach R G) {p x k : Int} {σ : ab_SG} (h : sp_m_isPerson [(2, 93, 0), (0, 0, p)] (ab_ups σ 93 0 (fw_c 0)) (fun rv σ2 => G 10 [some (2, 93, 0), some (0, 0, p), some (0, 0, x), some (0, 0, k)] (rv.toList ++ []) σ2)) : G 0 [some (2, 93, 0), some (0, 0, p), some (0, 0, x), some (0, 0, k)] [] σ := fw_on hG [10, 18, 28, 37, 47] 200 h
theorem fs_m_teach_10 {G : fw_K} {R : fw_KR} (hG : fw_cls st_m_teach R G) {a1 a2 a3 b0 : Int} {σ : ab_SG} (h : (fw_c b0 = 0 → (0 ≤ fw_c 0 ∧ fw_c 0 ≤ 1) ∧ R (some (0, 0, 0)) σ) ∧ (fw_c b0 ≠ 0 → sp_m_isTune [(2, 93, 0), (0, 0, a2)] σ (fun rv σ2 => G 18 [some (2, 93, 0), some (0, 0, a1), some (0, 0, a2), some (0, 0, a3)] (rv.toList ++ []) σ2))) : G 10 [some (2, 93, 0), some (0, 0, a1), some (0, 0, a2), some (0, 0, a3)] [(0, 0, b0)] σ := fw_on hG [10, 18, 28, 37, 47] 200 h
theorem fs_m_teach_18 {G : fw_K} {R : fw_KR} (hG : fw_cls st_m_teach R G) {a1 a2 a3 b0 : Int} {σ : ab_SG} (h : (fw_c b0 = 0 → (0 ≤ fw_c 0 ∧ fw_c 0 ≤ 1) ∧ R (some (0, 0, 0)) σ) ∧ (fw_c b0 ≠ 0 → sp_m_isIn [(0, 0, a3), (0, 0, 0), (0, 0, 9)] σ (fun rv σ2 => G 28 [some (2, 93, 0), some (0, 0, a1), some (0, 0, a2), some (0, 0, a3)] (rv.toList ++ []) σ2))) : G 18 [some (2, 93, 0), some (0, 0, a1), some (0, 0, a2), some (0, 0, a3)] [(0, 0, b0)] σ := fw_on hG [10, 18, 28, 37, 47] 200 h
theorem fs_m_teach_28 {G : fw_K} {R : fw_KR} (hG : fw_cls st_m_teach R G) {a1 a2 a3 b0 : Int} {σ : ab_SG} (h : (fw_c b0 = 0 → (0 ≤ fw_c 0 ∧ fw_c 0 ≤ 1) ∧ R (some (0, 0, 0)) σ) ∧ (fw_c b0 ≠ 0 → sp_m_known [(2, 93, 0), (0, 0, a1), (0, 0, a2)] σ (fun rv σ2 => G 37 [some (2, 93, 0), some (0, 0, a1), some (0, 0, a2), some (0, 0, a3)] (rv.toList ++ []) σ2))) : G 28 [some (2, 93, 0), some (0, 0, a1), some (0, 0, a2), some (0, 0, a3)] [(0, 0, b0)] σ := fw_on hG [10, 18, 28, 37, 47] 200 h
theorem fs_m_teach_37 {G : fw_K} {R : fw_KR} (hG : fw_cls st_m_teach R G) {a1 a2 a3 b0 : Int} {σ : ab_SG} (h : (fw_c b0 ≠ fw_c a3 → sp_m_snap [(2, 93, 0)] σ (fun rv σ2 => G 47 [some (2, 93, 0), some (0, 0, a1), some (0, 0, a2), some (0, 0, a3)] (rv.toList ++ []) σ2)) ∧ (fw_c b0 = fw_c a3 → (0 ≤ fw_c 0 ∧ fw_c 0 ≤ 1) ∧ R (some (0, 0, 0)) σ)) : G 37 [some (2, 93, 0), some (0, 0, a1), some (0, 0, a2), some (0, 0, a3)] [(0, 0, b0)] σ := fw_on hG [10, 18, 28, 37, 47] 200 h
theorem fs_m_teach_47 {G : fw_K} {R : fw_KR} (hG : fw_cls st_m_teach R G) {a1 a2 a3 : Int} {σ : ab_SG} (h : (0 ≤ fw_c ((182 + (9 * a1)) + a2) ∧ fw_c ((182 + (9 * a1)) + a2) < ((474 : Nat) : Int)) ∧ True ∧ ((0 ≤ fw_c 1 ∧ fw_c 1 ≤ 1) ∧ R (some (0, 0, 1)) (ab_ups σ 95 (fw_c ((182 + (9 * a1)) + a2)).toNat (fw_c a3)))) : G 47 [some (2, 93, 0), some (0, 0, a1), some (0, 0, a2), some (0, 0, a3)] [] σ := fw_on hG [10, 18, 28, 37, 47] 200 h
abbrev fk_m_dares : List fw_CR := [(171, 3, false, 0, 0, sp_m_isIn), (281, 1, true, 11, 0, sp_m_isPerson), (411, 0, true, 11, 0, sp_m_snap)]
abbrev st_m_dares : fw_K → fw_KR → fw_K := fw_st vwCl nn_sh nn_kd fw_kv fw_wc (nn_KI20.map (fun x => x.1)) (nn_KJ20.map (fun x => x.1)) (nn_PF20.map (fun x => x.1)) (nn_PS20.map (fun x => x.1)) fk_m_dares 1 nn_dt317 3 1
theorem fs_m_dares_0 {G : fw_K} {R : fw_KR} (hG : fw_cls st_m_dares R G) {p k : Int} {σ : ab_SG} (h : sp_m_isPerson [(2, 93, 0), (0, 0, p)] (ab_ups σ 93 0 (fw_c 0)) (fun rv σ2 => G 10 [some (2, 93, 0), some (0, 0, p), some (0, 0, k)] (rv.toList ++ []) σ2)) : G 0 [some (2, 93, 0), some (0, 0, p), some (0, 0, k)] [] σ := fw_on hG [10, 20, 43] 200 h
theorem fs_m_dares_10 {G : fw_K} {R : fw_KR} (hG : fw_cls st_m_dares R G) {a1 a2 b0 : Int} {σ : ab_SG} (h : (fw_c b0 = 0 → (0 ≤ fw_c 0 ∧ fw_c 0 ≤ 1) ∧ R (some (0, 0, 0)) σ) ∧ (fw_c b0 ≠ 0 → sp_m_isIn [(0, 0, a2), (0, 0, 0), (0, 0, 9)] σ (fun rv σ2 => G 20 [some (2, 93, 0), some (0, 0, a1), some (0, 0, a2)] (rv.toList ++ []) σ2))) : G 10 [some (2, 93, 0), some (0, 0, a1), some (0, 0, a2)] [(0, 0, b0)] σ := fw_on hG [10, 20, 43] 200 h
theorem fs_m_dares_20 {G : fw_K} {R : fw_KR} (hG : fw_cls st_m_dares R G) {a1 a2 b0 : Int} {σ : ab_SG} (h : (fw_c b0 = 0 → (0 ≤ fw_c 0 ∧ fw_c 0 ≤ 1) ∧ R (some (0, 0, 0)) σ) ∧ (fw_c b0 ≠ 0 → (0 ≤ fw_c (227 + a1) ∧ fw_c (227 + a1) < ((474 : Nat) : Int)) ∧ ((fw_c (σ 95 (fw_c (227 + a1)).toNat) ≠ fw_c a2 → sp_m_snap [(2, 93, 0)] σ (fun rv σ2 => G 43 [some (2, 93, 0), some (0, 0, a1), some (0, 0, a2)] (rv.toList ++ []) σ2)) ∧ (fw_c (σ 95 (fw_c (227 + a1)).toNat) = fw_c a2 → (0 ≤ fw_c 0 ∧ fw_c 0 ≤ 1) ∧ R (some (0, 0, 0)) σ)))) : G 20 [some (2, 93, 0), some (0, 0, a1), some (0, 0, a2)] [(0, 0, b0)] σ := fw_on hG [10, 20, 43] 200 h
theorem fs_m_dares_43 {G : fw_K} {R : fw_KR} (hG : fw_cls st_m_dares R G) {a1 a2 : Int} {σ : ab_SG} (h : (0 ≤ fw_c (227 + a1) ∧ fw_c (227 + a1) < ((474 : Nat) : Int)) ∧ True ∧ ((0 ≤ fw_c 1 ∧ fw_c 1 ≤ 1) ∧ R (some (0, 0, 1)) (ab_ups σ 95 (fw_c (227 + a1)).toNat (fw_c a2)))) : G 43 [some (2, 93, 0), some (0, 0, a1), some (0, 0, a2)] [] σ := fw_on hG [10, 20, 43] 200 h

section
variable {l : Launch} {cy : Nat → ClassId} {ad wr cr : Nat → Nat} {D : va_G}
theorem fm_m_isPerson (hinj : nn_inj ad) : fw_H l cy ad wr cr D 249 0 sp_m_isPerson := fw_mk hinj (⟨"NameNotesModel", "isPerson", "(I)Z"⟩, prog_14_method_44_code, 2, (Option.some Jvm.ClassFile.FieldType.boolean), 1, true, 1) rfl rfl nn_KI20_ok nn_KJ20_ok nn_PF20_ok nn_PS20_ok (by decide +kernel) rfl rfl (fun _ h => absurd h List.not_mem_nil) (fun as σ K h => by
  obtain ⟨p, rfl, h⟩ := h
  have t2 : (fw_c 2).toNat = 2 := by rw [fw_c_id (by decide) (by decide)]; rfl
  have u2 : 0 ≤ fw_c 2 ∧ fw_c 2 < ((474 : Nat) : Int) := by rw [fw_c_id (by decide) (by decide)]; decide
  refine ⟨rfl, fun G hG => fs_m_isPerson_0 hG ?_⟩
  unfold m_pe at h
  rw [t2]
  refine ⟨fun q => ⟨fw_01, ?_⟩, fun q => ⟨u2, fun q2 => ⟨fw_01, ?_⟩, fun q2 => ⟨by rw [fw_c1]; decide, ?_⟩⟩⟩
  · rw [m_b0 (fun z => by omega)] at h; exact h
  · rw [m_b0 (fun z => by omega)] at h; exact h
  · rw [m_b1 q q2] at h; exact h)
theorem fm_m_isTune (hinj : nn_inj ad) : fw_H l cy ad wr cr D 239 1 sp_m_isTune := fw_mk hinj (⟨"NameNotesModel", "isTune", "(I)Z"⟩, prog_14_method_42_code, 2, (Option.some Jvm.ClassFile.FieldType.boolean), 1, true, 1) rfl rfl nn_KI20_ok nn_KJ20_ok nn_PF20_ok nn_PS20_ok (by decide +kernel) rfl rfl (List.forall_mem_cons.mpr ⟨fw_row nn_PM20_ok (x := 261) (k := 0) (mn := 240) (np := 0) (ob := true) (ci := 11) (⟨"NameNotesModel", "tunes", "()I"⟩, prog_14_method_41_code, 1, (Option.some Jvm.ClassFile.FieldType.int), 0, true, 0) rfl (by decide +kernel) rfl rfl (by decide) (fun _ => ⟨_, _, rfl⟩) (fm_m_tunes hinj), (fun _ h => absurd h List.not_mem_nil)⟩) (fun as σ K h => by
  obtain ⟨p, rfl, h⟩ := h
  refine ⟨rfl, fun G hG => fs_m_isTune_0 hG ?_⟩
  unfold m_tu at h
  refine ⟨fun q => ⟨fw_01, ?_⟩, fun q => ⟨rfl, fs_m_isTune_9 hG ⟨fun q2 => ⟨fw_01, ?_⟩, fun q2 => ⟨by rw [fw_c1]; decide, ?_⟩⟩⟩⟩
  · rw [m_b0 (fun z => by omega)] at h; exact h
  · rw [m_b0 (fun z => by omega)] at h; exact h
  · rw [m_b1 q q2] at h; exact h)
theorem fm_m_known (hinj : nn_inj ad) : fw_H l cy ad wr cr D 250 0 sp_m_known := fw_mk hinj (⟨"NameNotesModel", "known", "(II)I"⟩, prog_14_method_54_code, 3, (Option.some Jvm.ClassFile.FieldType.int), 2, true, 0) rfl rfl nn_KI20_ok nn_KJ20_ok nn_PF20_ok nn_PS20_ok (by decide +kernel) rfl rfl (fun _ h => absurd h List.not_mem_nil) (fun as σ K h => by
  obtain ⟨p, x, rfl, hp, hx, h⟩ := h
  have e : fw_c ((182 + 9 * (p : Int)) + (x : Int)) = ((182 + 9 * p + x : Nat) : Int) := by rw [fw_c_id (by omega) (by omega)]; omega
  refine ⟨rfl, fun G hG => fs_m_known_0 hG ?_⟩
  rw [e, Int.toNat_natCast]
  exact ⟨⟨Int.natCast_nonneg _, by omega⟩, h⟩)
theorem fm_m_snap (hinj : nn_inj ad) : fw_H l cy ad wr cr D 316 0 sp_m_snap := fw_mk hinj (⟨"NameNotesModel", "snap", "()V"⟩, prog_14_method_112_code, 2, (Option.none : Option Jvm.ClassFile.FieldType), 0, true, 4) rfl rfl nn_KI20_ok nn_KJ20_ok nn_PF20_ok nn_PS20_ok (by decide +kernel) rfl rfl (fun _ h => absurd h List.not_mem_nil) (fun as σ K h => by
  obtain ⟨rfl, hs, h⟩ := h
  have e8 : fw_c 8 = 8 := fw_c_id (by decide) (by decide)
  have e50 : fw_c 50 = 50 := fw_c_id (by decide) (by decide)
  have e400 : fw_c 400 = 400 := fw_c_id (by decide) (by decide)
  have e24 : fw_c (σ 93 24) = σ 93 24 := fw_c_id (by omega) (by omega)
  refine ⟨rfl, fun G hG => fs_m_snap_0 hG ?_⟩
  have key2 : ∀ (n : Nat) (τ0 : ab_SG), n < 8 → τ0 93 24 = (n : Int) → (∀ σ' : ab_SG, ab_okM sn_M τ0 σ' → σ' 93 24 = (n : Int) + 1 → (∀ j : Nat, j < 50 * n → σ' 98 j = τ0 98 j) → (∀ j : Nat, j < 50 → σ' 98 (50 * n + j) = fw_c (τ0 95 (182 + j))) → K none σ') →
      ∀ (f i : Nat) (τ : ab_SG), i + f = 50 → ab_okM [(98, 1000000)] τ0 τ → (∀ j : Nat, j < 50 * n → τ 98 j = τ0 98 j) → (∀ j : Nat, j < i → τ 98 (50 * n + j) = fw_c (τ0 95 (182 + j))) → G 52 [some (2, 93, 0), some (0, 0, (i : Int))] [] τ := by
    intro n τ0 hn h24 hk f
    induction f with
    | zero =>
      intro i τ hi M a1 a2
      have ei : fw_c (i : Int) = i := fw_c_id (by omega) (by omega)
      have k24 : τ 93 24 = (n : Int) := (M 93 24 (by decide)).trans h24
      refine fs_m_snap_52 hG ?_
      rw [ei, e50, k24]
      refine ⟨fun _ => hk _ (fw_okM_ups (fw_okM_tr (fw_okM_refl _ _) M (by decide)) (by decide)) (ab_ups_eq.trans (fw_c_id (by omega) (by omega))) (fun j hj => ?_) (fun j hj => ?_), fun z => absurd z (by omega)⟩
      · rw [ab_ups_ne (fun z => absurd z.1 (by decide))]; exact a1 j hj
      · rw [ab_ups_ne (fun z => absurd z.1 (by decide))]; exact a2 j (by omega)
    | succ f ih =>
      intro i τ hi M a1 a2
      have ei : fw_c (i : Int) = i := fw_c_id (by omega) (by omega)
      have k24 : τ 93 24 = (n : Int) := (M 93 24 (by decide)).trans h24
      have ej : fw_c (50 * (n : Int) + (i : Int)) = ((50 * n + i : Nat) : Int) := by rw [fw_c_id (by omega) (by omega)]; omega
      have ek : fw_c (182 + (i : Int)) = ((182 + i : Nat) : Int) := by rw [fw_c_id (by omega) (by omega)]; omega
      refine fs_m_snap_52 hG ?_
      rw [k24, ei, ej, ek, e50, Int.toNat_natCast, Int.toNat_natCast, show τ 95 = τ0 95 from fw_okM_c M (by decide)]
      refine ⟨fun z => absurd z (by omega), fun _ => ⟨⟨Int.natCast_nonneg _, by omega⟩, ⟨Int.natCast_nonneg _, by omega⟩, trivial, ih (i + 1) _ (by omega) (fw_okM_upa M (by decide)) (fun j hj => ?_) (fun j hj => ?_)⟩⟩
      · rw [ab_ups_ne (fun z => by omega)]; exact a1 j hj
      · by_cases c : j = i
        · rw [c, ab_ups_eq]
        · rw [ab_ups_ne (fun z => by omega)]; exact a2 j (by omega)
  rw [e24, e8]
  refine ⟨fun q => ?_, fun q => ?_⟩
  · obtain ⟨n, hn⟩ := Int.eq_ofNat_of_zero_le hs.1
    refine fs_m_snap_50 hG (key2 n σ (by omega) hn (fun σ' M a b c => h σ' ⟨M, fun n' hn' _ => ?_, fun z => absurd z q⟩) 50 0 σ rfl (fw_okM_refl _ _) (fun _ _ => rfl) (fun j hj => absurd hj (Nat.not_lt_zero _)))
    have : n' = n := by omega
    subst this
    exact ⟨a, b, c⟩
  · have key1 : ∀ (f i : Nat) (τ : ab_SG), i + f = 350 → ab_okM [(98, 1000000)] σ τ → (∀ j : Nat, j < i → τ 98 j = fw_c (σ 98 (j + 50))) → (∀ j : Nat, i ≤ j → τ 98 j = σ 98 j) → G 12 [some (2, 93, 0), some (0, 0, ((50 + i : Nat) : Int))] [] τ := by
      intro f
      induction f with
      | zero =>
        intro i τ hi M a1 a2
        have ei : fw_c ((50 + i : Nat) : Int) = ((50 + i : Nat) : Int) := fw_c_id (by omega) (by omega)
        have k24 : τ 93 24 = 8 := (M 93 24 (by decide)).trans q
        refine fs_m_snap_12 hG ?_
        rw [ei, e400, k24]
        refine ⟨fun _ => fs_m_snap_50a hG (key2 7 _ (by decide) (ab_ups_eq.trans (fw_c_id (by decide) (by decide))) (fun σ' M2 a b c => h σ' ⟨?_, fun n' hn' z => absurd z (by omega), fun _ => ⟨a, fun j hj => ?_, fun j hj => ?_⟩⟩) 50 0 _ rfl (fw_okM_refl _ _) (fun _ _ => rfl) (fun j hj => absurd hj (Nat.not_lt_zero _))), fun z => absurd z (by omega)⟩
        · exact fw_okM_tr (fw_okM_ups (fw_okM_tr (fw_okM_refl _ _) M (by decide)) (by decide)) M2 (fun _ h => h)
        · rw [b j (by omega), ab_ups_ne (fun z => absurd z.1 (by decide))]; exact a1 j (by omega)
        · rw [c j hj, ab_ups_ne (fun z => absurd z.1 (by decide)), show τ 95 = σ 95 from fw_okM_c M (by decide)]
      | succ f ih =>
        intro i τ hi M a1 a2
        have ei : fw_c ((50 + i : Nat) : Int) = ((50 + i : Nat) : Int) := fw_c_id (by omega) (by omega)
        have ej : fw_c (((50 + i : Nat) : Int) - 50) = (i : Int) := by rw [fw_c_id (by omega) (by omega)]; omega
        refine fs_m_snap_12 hG ?_
        rw [ei, ej, e400, Int.toNat_natCast, Int.toNat_natCast, a2 (50 + i) (by omega), show 50 + i = i + 50 from Nat.add_comm _ _]
        refine ⟨fun z => absurd z (by omega), fun _ => ⟨⟨Int.natCast_nonneg _, by omega⟩, ⟨Int.natCast_nonneg _, by omega⟩, trivial, ?_⟩⟩
        have h9 := ih (i + 1) (ab_ups τ 98 i (fw_c (σ 98 (i + 50)))) (by omega) (fw_okM_upa M (by decide)) (fun j hj => by
          by_cases c : j = i
          · rw [c, ab_ups_eq]
          · rw [ab_ups_ne (fun z => by omega)]; exact a1 j (by omega)) (fun j hj => by rw [ab_ups_ne (fun z => by omega)]; exact a2 j (by omega))
        rw [show ((i + 50 : Nat) : Int) + 1 = ((50 + (i + 1) : Nat) : Int) by omega]
        exact h9
    exact key1 350 0 σ rfl (fw_okM_refl _ _) (fun j hj => absurd hj (Nat.not_lt_zero _)) (fun _ _ => rfl))
theorem fm_m_undo (hinj : nn_inj ad) : fw_H l cy ad wr cr D 314 0 sp_m_undo := fw_mk hinj (⟨"NameNotesModel", "undo", "()I"⟩, prog_14_method_113_code, 2, (Option.some Jvm.ClassFile.FieldType.int), 0, true, 0) rfl rfl nn_KI20_ok nn_KJ20_ok nn_PF20_ok nn_PS20_ok (by decide +kernel) rfl rfl (fun _ h => absurd h List.not_mem_nil) (fun as σ K h => by
  obtain ⟨rfl, hs, h0, h1⟩ := h
  have e50 : fw_c 50 = 50 := fw_c_id (by decide) (by decide)
  have e24 : fw_c (σ 93 24) = σ 93 24 := fw_c_id (by omega) (by omega)
  refine ⟨rfl, fun G hG => fs_m_undo_0 hG ?_⟩
  rw [e24, fw_c0]
  refine ⟨fun q => ?_, fun q => h0 q⟩
  obtain ⟨n, hn⟩ := Int.eq_ofNat_of_zero_le (show 0 ≤ σ 93 24 - 1 by omega)
  have en : fw_c (σ 93 24 - 1) = (n : Int) := by rw [fw_c_id (by omega) (by omega)]; exact hn
  rw [en]
  have B0 : ab_okM un_M σ (ab_ups (ab_ups σ 93 0 0) 93 24 (n : Int)) := fw_okM_ups (fw_okM_ups (fw_okM_refl _ _) (by decide)) (by decide)
  have key : ∀ (f i : Nat) (τ : ab_SG), i + f = 50 → ab_okM un_M σ τ → τ 93 24 = (n : Int) → (∀ j : Nat, (j < 182 ∨ 182 + i ≤ j) → τ 95 j = σ 95 j) → (∀ j : Nat, j < i → τ 95 (182 + j) = fw_c (σ 98 (50 * n + j))) → G 26 [some (2, 93, 0), some (0, 0, (i : Int))] [] τ := by
    intro f
    induction f with
    | zero =>
      intro i τ hi M k24 a1 a2
      have ei : fw_c (i : Int) = i := fw_c_id (by omega) (by omega)
      refine fs_m_undo_26 hG ?_
      rw [ei, e50, k24]
      exact ⟨fun _ => h1 n (by omega) τ M k24 (fun j hj => a1 j (by omega)) (fun j hj => a2 j (by omega)), fun z => absurd z (by omega)⟩
    | succ f ih =>
      intro i τ hi M k24 a1 a2
      have ei : fw_c (i : Int) = i := fw_c_id (by omega) (by omega)
      have ej : fw_c (50 * (n : Int) + (i : Int)) = ((50 * n + i : Nat) : Int) := by rw [fw_c_id (by omega) (by omega)]; omega
      have ek : fw_c (182 + (i : Int)) = ((182 + i : Nat) : Int) := by rw [fw_c_id (by omega) (by omega)]; omega
      refine fs_m_undo_26 hG ?_
      rw [k24, ei, ej, ek, e50, Int.toNat_natCast, Int.toNat_natCast, show τ 98 = σ 98 from fw_okM_c M (by decide)]
      refine ⟨fun z => absurd z (by omega), fun _ => ⟨⟨Int.natCast_nonneg _, by omega⟩, ⟨Int.natCast_nonneg _, by omega⟩, trivial, ih (i + 1) _ (by omega) (fw_okM_upa M (by decide)) ?_ (fun j hj => ?_) (fun j hj => ?_)⟩⟩
      · rw [ab_ups_ne (fun z => absurd z.1 (by decide))]; exact k24
      · rw [ab_ups_ne (fun z => by omega)]; exact a1 j (by omega)
      · by_cases c : j = i
        · rw [c, ab_ups_eq]
        · rw [ab_ups_ne (fun z => by omega)]; exact a2 j (by omega)
  refine key 50 0 _ rfl B0 ab_ups_eq (fun j _ => ?_) (fun j hj => absurd hj (Nat.not_lt_zero _))
  rw [ab_ups_ne (fun z => absurd z.1 (by decide)), ab_ups_ne (fun z => absurd z.1 (by decide))])
theorem fm_m_teach (hinj : nn_inj ad) : fw_H l cy ad wr cr D 315 2 sp_m_teach := fw_mk hinj (⟨"NameNotesModel", "teach", "(III)Z"⟩, prog_14_method_114_code, 4, (Option.some Jvm.ClassFile.FieldType.boolean), 3, true, 1) rfl rfl nn_KI20_ok nn_KJ20_ok nn_PF20_ok nn_PS20_ok (by decide +kernel) rfl rfl (List.forall_mem_cons.mpr ⟨fw_row nn_PM20_ok (x := 171) (k := 0) (mn := 226) (np := 3) (ob := false) (ci := 0) (⟨"NameNotesModel", "isIn", "(III)Z"⟩, prog_14_method_8_code, 3, (Option.some Jvm.ClassFile.FieldType.boolean), 3, false, 1) rfl (by decide +kernel) rfl rfl (by decide) (fun q => by cases q) (fm_m_isIn hinj), (List.forall_mem_cons.mpr ⟨fw_row nn_PM20_ok (x := 267) (k := 0) (mn := 239) (np := 1) (ob := true) (ci := 11) (⟨"NameNotesModel", "isTune", "(I)Z"⟩, prog_14_method_42_code, 2, (Option.some Jvm.ClassFile.FieldType.boolean), 1, true, 1) rfl (by decide +kernel) rfl rfl (by decide) (fun _ => ⟨_, _, rfl⟩) (fm_m_isTune hinj), (List.forall_mem_cons.mpr ⟨fw_row nn_PM20_ok (x := 281) (k := 0) (mn := 249) (np := 1) (ob := true) (ci := 11) (⟨"NameNotesModel", "isPerson", "(I)Z"⟩, prog_14_method_44_code, 2, (Option.some Jvm.ClassFile.FieldType.boolean), 1, true, 1) rfl (by decide +kernel) rfl rfl (by decide) (fun _ => ⟨_, _, rfl⟩) (fm_m_isPerson hinj), (List.forall_mem_cons.mpr ⟨fw_row nn_PM20_ok (x := 284) (k := 0) (mn := 250) (np := 2) (ob := true) (ci := 11) (⟨"NameNotesModel", "known", "(II)I"⟩, prog_14_method_54_code, 3, (Option.some Jvm.ClassFile.FieldType.int), 2, true, 0) rfl (by decide +kernel) rfl rfl (by decide) (fun _ => ⟨_, _, rfl⟩) (fm_m_known hinj), (List.forall_mem_cons.mpr ⟨fw_row nn_PM20_ok (x := 411) (k := 0) (mn := 316) (np := 0) (ob := true) (ci := 11) (⟨"NameNotesModel", "snap", "()V"⟩, prog_14_method_112_code, 2, (Option.none : Option Jvm.ClassFile.FieldType), 0, true, 4) rfl (by decide +kernel) rfl rfl (by decide) (fun _ => ⟨_, _, rfl⟩) (fm_m_snap hinj), (fun _ h => absurd h List.not_mem_nil)⟩)⟩)⟩)⟩)⟩) (fun as σ K h => by
  obtain ⟨p, x, k, rfl, ⟨ep, ex, ek⟩, ⟨w0, w2, w24⟩, h0, h1⟩ := h
  have e9 : fw_c 9 = 9 := fw_c_id (by decide) (by decide)
  refine ⟨rfl, fun G hG => fs_m_teach_0 hG ⟨p, rfl, fs_m_teach_10 hG ?_⟩⟩
  rw [m_pe_ups, fw_c0]
  refine ⟨fun q => ⟨by decide, h0 (fun z => absurd (z.1.symm.trans (m_b_eq q)) (by decide))⟩, fun q => ⟨x, rfl, fs_m_teach_18 hG ?_⟩⟩
  have qp := m_b_ne q
  rw [m_tu_ups, fw_c0]
  refine ⟨fun q => ⟨by decide, h0 (fun z => absurd (z.2.1.symm.trans (m_b_eq q)) (by decide))⟩, fun q => ⟨k, 0, 9, rfl, fs_m_teach_28 hG ?_⟩⟩
  have qx := m_b_ne q
  rw [fw_c0, e9, ek]
  refine ⟨fun q => ⟨by decide, h0 (fun z => fw_bo_eq q z.2.2)⟩, fun q => ?_⟩
  have qk := fw_bo_ne q
  have p1 := m_pe_t qp
  have x1 := m_tu_t qx
  rw [ep, fw_c_id (by omega) (by omega)] at p1
  rw [ex, fw_c_id (by omega) (by omega)] at x1
  obtain ⟨p', rfl⟩ := Int.eq_ofNat_of_zero_le p1.1
  obtain ⟨x', rfl⟩ := Int.eq_ofNat_of_zero_le x1.1
  have hh := h1 p' x' rfl rfl qp qx qk
  refine ⟨p', x', rfl, by omega, by omega, fs_m_teach_37 hG ?_⟩
  rw [ek, show ab_ups σ 93 0 0 95 = σ 95 from ab_ups_row (by decide), fw_c0]
  refine ⟨fun q => ⟨rfl, ?_, fun σ1 hs => fs_m_teach_47 hG ?_⟩, fun q => ⟨by decide, hh.1 q⟩⟩
  · rw [ab_ups_ne (fun z => absurd z.2 (by decide))]
    exact w24
  · have e : fw_c ((182 + 9 * (p' : Int)) + (x' : Int)) = ((182 + 9 * p' + x' : Nat) : Int) := by rw [fw_c_id (by omega) (by omega)]; omega
    rw [e, Int.toNat_natCast, fw_c1]
    exact ⟨⟨Int.natCast_nonneg _, by omega⟩, trivial, by decide, hh.2 q _ ⟨σ1, hs, rfl⟩⟩)
theorem fm_m_dares (hinj : nn_inj ad) : fw_H l cy ad wr cr D 317 1 sp_m_dares := fw_mk hinj (⟨"NameNotesModel", "dares", "(II)Z"⟩, prog_14_method_115_code, 3, (Option.some Jvm.ClassFile.FieldType.boolean), 2, true, 1) rfl rfl nn_KI20_ok nn_KJ20_ok nn_PF20_ok nn_PS20_ok (by decide +kernel) rfl rfl (List.forall_mem_cons.mpr ⟨fw_row nn_PM20_ok (x := 171) (k := 0) (mn := 226) (np := 3) (ob := false) (ci := 0) (⟨"NameNotesModel", "isIn", "(III)Z"⟩, prog_14_method_8_code, 3, (Option.some Jvm.ClassFile.FieldType.boolean), 3, false, 1) rfl (by decide +kernel) rfl rfl (by decide) (fun q => by cases q) (fm_m_isIn hinj), (List.forall_mem_cons.mpr ⟨fw_row nn_PM20_ok (x := 281) (k := 0) (mn := 249) (np := 1) (ob := true) (ci := 11) (⟨"NameNotesModel", "isPerson", "(I)Z"⟩, prog_14_method_44_code, 2, (Option.some Jvm.ClassFile.FieldType.boolean), 1, true, 1) rfl (by decide +kernel) rfl rfl (by decide) (fun _ => ⟨_, _, rfl⟩) (fm_m_isPerson hinj), (List.forall_mem_cons.mpr ⟨fw_row nn_PM20_ok (x := 411) (k := 0) (mn := 316) (np := 0) (ob := true) (ci := 11) (⟨"NameNotesModel", "snap", "()V"⟩, prog_14_method_112_code, 2, (Option.none : Option Jvm.ClassFile.FieldType), 0, true, 4) rfl (by decide +kernel) rfl rfl (by decide) (fun _ => ⟨_, _, rfl⟩) (fm_m_snap hinj), (fun _ h => absurd h List.not_mem_nil)⟩)⟩)⟩) (fun as σ K h => by
  obtain ⟨p, k, rfl, ⟨ep, ek⟩, ⟨w0, w2, w24⟩, h0, h1⟩ := h
  have e9 : fw_c 9 = 9 := fw_c_id (by decide) (by decide)
  refine ⟨rfl, fun G hG => fs_m_dares_0 hG ⟨p, rfl, fs_m_dares_10 hG ?_⟩⟩
  rw [m_pe_ups, fw_c0]
  refine ⟨fun q => ⟨by decide, h0 (fun z => absurd (z.1.symm.trans (m_b_eq q)) (by decide))⟩, fun q => ⟨k, 0, 9, rfl, fs_m_dares_20 hG ?_⟩⟩
  have qp := m_b_ne q
  rw [fw_c0, e9, ek]
  refine ⟨fun q => ⟨by decide, h0 (fun z => fw_bo_eq q z.2)⟩, fun q => ?_⟩
  have qk := fw_bo_ne q
  have p1 := m_pe_t qp
  rw [ep, fw_c_id (by omega) (by omega)] at p1
  obtain ⟨p', rfl⟩ := Int.eq_ofNat_of_zero_le p1.1
  have hh := h1 p' rfl qp qk
  have e : fw_c (227 + (p' : Int)) = ((227 + p' : Nat) : Int) := by rw [fw_c_id (by omega) (by omega)]; omega
  rw [e, Int.toNat_natCast, show ab_ups σ 93 0 0 95 = σ 95 from ab_ups_row (by decide)]
  refine ⟨⟨Int.natCast_nonneg _, by omega⟩, fun q => ⟨rfl, ?_, fun σ1 hs => fs_m_dares_43 hG ?_⟩, fun q => ⟨by decide, hh.1 q⟩⟩
  · rw [ab_ups_ne (fun z => absurd z.2 (by decide))]
    exact w24
  · rw [e, Int.toNat_natCast, fw_c1]
    exact ⟨⟨Int.natCast_nonneg _, by omega⟩, trivial, by decide, hh.2 q _ ⟨σ1, hs, rfl⟩⟩)
end
