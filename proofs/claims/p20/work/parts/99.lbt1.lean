/-! what teaches and takes back: the class -/
def tc_T : List (Nat × Nat) := [(9, 45), (10, 5), (86, 88)]
def sp_atc : fw_SP := sp_of at_k tc_T
def sp_putc : fw_SP := sp_of put_k tc_T
def c_pe (σ : ab_SG) (p : Int) : Bool := decide (0 ≤ fw_c p) && decide (fw_c p < fw_c (σ 3 13))
def c_tu (σ : ab_SG) (x : Int) : Bool := decide (0 ≤ fw_c x) && decide (fw_c x < fw_c (σ 3 11))
theorem c_pe_t {σ : ab_SG} {p : Int} (h : c_pe σ p = true) : 0 ≤ fw_c p ∧ fw_c p < fw_c (σ 3 13) := by
  unfold c_pe at h
  rw [Bool.and_eq_true] at h
  exact ⟨of_decide_eq_true h.1, of_decide_eq_true h.2⟩
theorem c_tu_t {σ : ab_SG} {p : Int} (h : c_tu σ p = true) : 0 ≤ fw_c p ∧ fw_c p < fw_c (σ 3 11) := by
  unfold c_tu at h
  rw [Bool.and_eq_true] at h
  exact ⟨of_decide_eq_true h.1, of_decide_eq_true h.2⟩
def sp_isPerson3 : fw_SP := fun as σ K => ∃ p : Int, as = [(2, 3, 0), (0, 0, p)] ∧ K (some (0, 0, m_b (c_pe σ p))) σ
def sp_isTune3 : fw_SP := fun as σ K => ∃ p : Int, as = [(2, 3, 0), (0, 0, p)] ∧ K (some (0, 0, m_b (c_tu σ p))) σ
def sp_isNinth : fw_SP := fun as σ K => ∃ k : Int, as = [(0, 0, k)] ∧ K (some (0, 0, m_b (decide (0 ≤ fw_c k) && decide (fw_c k ≤ 9)))) σ
def sp_ninth3 : fw_SP := fun as σ K => ∃ p x : Nat, as = [(2, 3, 0), (0, 0, (p : Int)), (0, 0, (x : Int))] ∧ p < 5 ∧ x < 9 ∧ K (some (0, 0, σ 9 (9 * p + x))) σ
def sp_setNinth3 : fw_SP := fun as σ K => ∃ (p x : Nat) (k : Int), as = [(2, 3, 0), (0, 0, (p : Int)), (0, 0, (x : Int)), (0, 0, k)] ∧ p < 5 ∧ x < 9 ∧ K none (ab_ups σ 9 (9 * p + x) (fw_c k))
def kj_M : ab_ML := [(85, 1), (86, 1000000)]
/-- the row n of the journal tells a person's nineths -/
def kj_row (σ σ' : ab_SG) (n p : Nat) : Prop := (∀ x : Nat, x < 9 → σ' 86 (11 * n + x) = fw_c (σ 9 (9 * p + x))) ∧ σ' 86 (11 * n + 9) = fw_c (σ 10 p) ∧ σ' 86 (11 * n + 10) = (p : Int)
def kj_is (σ σ' : ab_SG) (p : Nat) : Prop := ab_okM kj_M σ σ' ∧ (∀ n : Nat, σ 85 1 = (n : Int) → n < 8 → σ' 85 1 = (n : Int) + 1 ∧ (∀ j : Nat, j < 11 * n → σ' 86 j = σ 86 j) ∧ kj_row σ σ' n p) ∧
  (σ 85 1 = 8 → σ' 85 1 = 8 ∧ (∀ j : Nat, j < 77 → σ' 86 j = fw_c (σ 86 (j + 11))) ∧ kj_row σ σ' 7 p)
def sp_keep : fw_SP := fun as σ K => ∃ p : Nat, as = [(2, 85, 0), (2, 3, 0), (0, 0, (p : Int))] ∧ p < 5 ∧ (0 ≤ σ 85 1 ∧ σ 85 1 ≤ 8) ∧ ∀ σ' : ab_SG, kj_is σ σ' p → K none σ'
def tk_M : ab_ML := [(85, 1), (9, 1000000), (10, 1000000)]
def tk_is (σ σ' : ab_SG) (n p : Nat) : Prop := ab_okM tk_M σ σ' ∧ σ' 85 1 = (n : Int) ∧ (∀ j : Nat, (j < 9 * p ∨ 9 * p + 9 ≤ j) → σ' 9 j = σ 9 j) ∧ (∀ x : Nat, x < 9 → σ' 9 (9 * p + x) = fw_c (σ 86 (11 * n + x))) ∧ σ' 10 p = fw_c (σ 86 (11 * n + 9)) ∧ ∀ j : Nat, j ≠ p → σ' 10 j = σ 10 j
def sp_takeBack : fw_SP := fun as σ K => as = [(2, 85, 0), (2, 3, 0)] ∧ ∃ n p : Nat, σ 85 1 = (n : Int) + 1 ∧ n < 8 ∧ p < 5 ∧ σ 86 (11 * n + 10) = (p : Int) ∧ ∀ σ' : ab_SG, tk_is σ σ' n p → K none σ'
def sp_undo : fw_SP := fun as σ K => as = [(2, 0, 0)] ∧ (0 ≤ σ 85 1 ∧ σ 85 1 ≤ 8) ∧ (σ 85 1 = 0 → K (some (0, 0, -1)) σ) ∧ (σ 85 1 ≠ 0 → ∃ n p : Nat, σ 85 1 = (n : Int) + 1 ∧ p < 5 ∧ σ 86 (11 * n + 10) = (p : Int) ∧ ∀ σ' : ab_SG, tk_is σ σ' n p → K (some (0, 0, (n : Int))) σ')
def c_fw (σ : ab_SG) : Prop := (0 ≤ σ 3 11 ∧ σ 3 11 ≤ 9) ∧ (0 ≤ σ 3 13 ∧ σ 3 13 ≤ 5) ∧ (0 ≤ σ 85 1 ∧ σ 85 1 ≤ 8)
/-- one number is put behind a kept row -/
def ce_is (σ σ' : ab_SG) (p a q : Nat) (v : Int) : Prop := ∃ σ1 : ab_SG, kj_is σ σ1 p ∧ σ' = ab_ups σ1 a q (fw_c v)
def sp_teach : fw_SP := fun as σ K => ∃ p x k : Int, as = [(2, 0, 0), (0, 0, p), (0, 0, x), (0, 0, k)] ∧ (fw_c p = p ∧ fw_c x = x ∧ fw_c k = k) ∧ c_fw σ ∧
  (¬ (c_pe σ p = true ∧ c_tu σ x = true ∧ (0 ≤ k ∧ k ≤ 9)) → K (some (0, 0, 0)) σ) ∧
  (∀ p' x' : Nat, p = (p' : Int) → x = (x' : Int) → c_pe σ p = true → c_tu σ x = true → (0 ≤ k ∧ k ≤ 9) → (fw_c (σ 9 (9 * p' + x')) = k → K (some (0, 0, 0)) σ) ∧ (fw_c (σ 9 (9 * p' + x')) ≠ k → ∀ σ' : ab_SG, ce_is σ σ' p' 9 (9 * p' + x') k → K (some (0, 0, 1)) σ'))
def sp_dares : fw_SP := fun as σ K => ∃ p k : Int, as = [(2, 0, 0), (0, 0, p), (0, 0, k)] ∧ (fw_c p = p ∧ fw_c k = k) ∧ c_fw σ ∧
  (¬ (c_pe σ p = true ∧ (0 ≤ k ∧ k ≤ 9)) → K (some (0, 0, 0)) σ) ∧
  (∀ p' : Nat, p = (p' : Int) → c_pe σ p = true → (0 ≤ k ∧ k ≤ 9) → (fw_c (σ 10 p') = k → K (some (0, 0, 0)) σ) ∧ (fw_c (σ 10 p') ≠ k → ∀ σ' : ab_SG, ce_is σ σ' p' 10 p' k → K (some (0, 0, 1)) σ'))
theorem m_bt {a b : Prop} [Decidable a] [Decidable b] (h : (decide a && decide b) = true) : a ∧ b := by
  rw [Bool.and_eq_true] at h
  exact ⟨of_decide_eq_true h.1, of_decide_eq_true h.2⟩
theorem m_bf {a b : Prop} [Decidable a] [Decidable b] (h : (decide a && decide b) = false) : ¬ (a ∧ b) := fun z => by
  rw [decide_eq_true z.1, decide_eq_true z.2] at h
  cases h
abbrev fk_at9 : List fw_CR := []
abbrev st_at9 : fw_K → fw_KR → fw_K := fw_st vwCl nn_sh nn_kd fw_kv fw_wc (nn_KI1.map (fun x => x.1)) (nn_KJ1.map (fun x => x.1)) (nn_PF1.map (fun x => x.1)) (nn_PS1.map (fun x => x.1)) fk_at9 0 nn_dt29 2 0
theorem fs_at9_0 {G : fw_K} {R : fw_KR} (hG : fw_cls st_at9 R G) {x : Int} {σ : ab_SG} (h : (fw_c x < 0 → R (some (0, 0, 0)) σ) ∧ (0 ≤ fw_c x → (fw_c ((45 : Nat) : Int) ≤ fw_c x → R (some (0, 0, 0)) σ) ∧ (fw_c x < fw_c ((45 : Nat) : Int) → (0 ≤ fw_c x ∧ fw_c x < ((45 : Nat) : Int)) ∧ (R (some (0, 0, σ 9 (fw_c x).toNat)) σ)))) : G 0 [some (2, 9, 0), some (0, 0, x)] [] σ := fw_on hG [] 200 h
abbrev fk_put9 : List fw_CR := []
abbrev st_put9 : fw_K → fw_KR → fw_K := fw_st vwCl nn_sh nn_kd fw_kv fw_wc (nn_KI1.map (fun x => x.1)) (nn_KJ1.map (fun x => x.1)) (nn_PF1.map (fun x => x.1)) (nn_PS1.map (fun x => x.1)) fk_put9 0 nn_dt27 3 4
theorem fs_put9_0 {G : fw_K} {R : fw_KR} (hG : fw_cls st_put9 R G) {x v : Int} {σ : ab_SG} (h : (fw_c x < 0 → R none σ) ∧ (0 ≤ fw_c x → (fw_c ((45 : Nat) : Int) ≤ fw_c x → R none σ) ∧ (fw_c x < fw_c ((45 : Nat) : Int) → (0 ≤ fw_c x ∧ fw_c x < ((45 : Nat) : Int)) ∧ True ∧ (R none (ab_ups σ 9 (fw_c x).toNat (fw_c v)))))) : G 0 [some (2, 9, 0), some (0, 0, x), some (0, 0, v)] [] σ := fw_on hG [] 200 h
abbrev fk_at10 : List fw_CR := []
abbrev st_at10 : fw_K → fw_KR → fw_K := fw_st vwCl nn_sh nn_kd fw_kv fw_wc (nn_KI1.map (fun x => x.1)) (nn_KJ1.map (fun x => x.1)) (nn_PF1.map (fun x => x.1)) (nn_PS1.map (fun x => x.1)) fk_at10 0 nn_dt29 2 0
theorem fs_at10_0 {G : fw_K} {R : fw_KR} (hG : fw_cls st_at10 R G) {x : Int} {σ : ab_SG} (h : (fw_c x < 0 → R (some (0, 0, 0)) σ) ∧ (0 ≤ fw_c x → (fw_c ((5 : Nat) : Int) ≤ fw_c x → R (some (0, 0, 0)) σ) ∧ (fw_c x < fw_c ((5 : Nat) : Int) → (0 ≤ fw_c x ∧ fw_c x < ((5 : Nat) : Int)) ∧ (R (some (0, 0, σ 10 (fw_c x).toNat)) σ)))) : G 0 [some (2, 10, 0), some (0, 0, x)] [] σ := fw_on hG [] 200 h
abbrev fk_put10 : List fw_CR := []
abbrev st_put10 : fw_K → fw_KR → fw_K := fw_st vwCl nn_sh nn_kd fw_kv fw_wc (nn_KI1.map (fun x => x.1)) (nn_KJ1.map (fun x => x.1)) (nn_PF1.map (fun x => x.1)) (nn_PS1.map (fun x => x.1)) fk_put10 0 nn_dt27 3 4
theorem fs_put10_0 {G : fw_K} {R : fw_KR} (hG : fw_cls st_put10 R G) {x v : Int} {σ : ab_SG} (h : (fw_c x < 0 → R none σ) ∧ (0 ≤ fw_c x → (fw_c ((5 : Nat) : Int) ≤ fw_c x → R none σ) ∧ (fw_c x < fw_c ((5 : Nat) : Int) → (0 ≤ fw_c x ∧ fw_c x < ((5 : Nat) : Int)) ∧ True ∧ (R none (ab_ups σ 10 (fw_c x).toNat (fw_c v)))))) : G 0 [some (2, 10, 0), some (0, 0, x), some (0, 0, v)] [] σ := fw_on hG [] 200 h
abbrev fk_at86 : List fw_CR := []
abbrev st_at86 : fw_K → fw_KR → fw_K := fw_st vwCl nn_sh nn_kd fw_kv fw_wc (nn_KI1.map (fun x => x.1)) (nn_KJ1.map (fun x => x.1)) (nn_PF1.map (fun x => x.1)) (nn_PS1.map (fun x => x.1)) fk_at86 0 nn_dt29 2 0
theorem fs_at86_0 {G : fw_K} {R : fw_KR} (hG : fw_cls st_at86 R G) {x : Int} {σ : ab_SG} (h : (fw_c x < 0 → R (some (0, 0, 0)) σ) ∧ (0 ≤ fw_c x → (fw_c ((88 : Nat) : Int) ≤ fw_c x → R (some (0, 0, 0)) σ) ∧ (fw_c x < fw_c ((88 : Nat) : Int) → (0 ≤ fw_c x ∧ fw_c x < ((88 : Nat) : Int)) ∧ (R (some (0, 0, σ 86 (fw_c x).toNat)) σ)))) : G 0 [some (2, 86, 0), some (0, 0, x)] [] σ := fw_on hG [] 200 h
abbrev fk_put86 : List fw_CR := []
abbrev st_put86 : fw_K → fw_KR → fw_K := fw_st vwCl nn_sh nn_kd fw_kv fw_wc (nn_KI1.map (fun x => x.1)) (nn_KJ1.map (fun x => x.1)) (nn_PF1.map (fun x => x.1)) (nn_PS1.map (fun x => x.1)) fk_put86 0 nn_dt27 3 4
theorem fs_put86_0 {G : fw_K} {R : fw_KR} (hG : fw_cls st_put86 R G) {x v : Int} {σ : ab_SG} (h : (fw_c x < 0 → R none σ) ∧ (0 ≤ fw_c x → (fw_c ((88 : Nat) : Int) ≤ fw_c x → R none σ) ∧ (fw_c x < fw_c ((88 : Nat) : Int) → (0 ≤ fw_c x ∧ fw_c x < ((88 : Nat) : Int)) ∧ True ∧ (R none (ab_ups σ 86 (fw_c x).toNat (fw_c v)))))) : G 0 [some (2, 86, 0), some (0, 0, x), some (0, 0, v)] [] σ := fw_on hG [] 200 h
abbrev fk_isPerson3 : List fw_CR := []
abbrev st_isPerson3 : fw_K → fw_KR → fw_K := fw_st vwCl nn_sh nn_kd fw_kv fw_wc (nn_KI6.map (fun x => x.1)) (nn_KJ6.map (fun x => x.1)) (nn_PF6.map (fun x => x.1)) (nn_PS6.map (fun x => x.1)) fk_isPerson3 0 nn_dt67 2 1
theorem fs_isPerson3_0 {G : fw_K} {R : fw_KR} (hG : fw_cls st_isPerson3 R G) {p : Int} {σ : ab_SG} (h : (fw_c p < 0 → (0 ≤ fw_c 0 ∧ fw_c 0 ≤ 1) ∧ R (some (0, 0, 0)) σ) ∧ (0 ≤ fw_c p → (fw_c (σ 3 13) ≤ fw_c p → (0 ≤ fw_c 0 ∧ fw_c 0 ≤ 1) ∧ R (some (0, 0, 0)) σ) ∧ (fw_c p < fw_c (σ 3 13) → (0 ≤ fw_c 1 ∧ fw_c 1 ≤ 1) ∧ R (some (0, 0, 1)) σ))) : G 0 [some (2, 3, 0), some (0, 0, p)] [] σ := fw_on hG [] 200 h
abbrev fk_isTune3 : List fw_CR := []
abbrev st_isTune3 : fw_K → fw_KR → fw_K := fw_st vwCl nn_sh nn_kd fw_kv fw_wc (nn_KI6.map (fun x => x.1)) (nn_KJ6.map (fun x => x.1)) (nn_PF6.map (fun x => x.1)) (nn_PS6.map (fun x => x.1)) fk_isTune3 0 nn_dt46 2 1
theorem fs_isTune3_0 {G : fw_K} {R : fw_KR} (hG : fw_cls st_isTune3 R G) {x : Int} {σ : ab_SG} (h : (fw_c x < 0 → (0 ≤ fw_c 0 ∧ fw_c 0 ≤ 1) ∧ R (some (0, 0, 0)) σ) ∧ (0 ≤ fw_c x → (fw_c (σ 3 11) ≤ fw_c x → (0 ≤ fw_c 0 ∧ fw_c 0 ≤ 1) ∧ R (some (0, 0, 0)) σ) ∧ (fw_c x < fw_c (σ 3 11) → (0 ≤ fw_c 1 ∧ fw_c 1 ≤ 1) ∧ R (some (0, 0, 1)) σ))) : G 0 [some (2, 3, 0), some (0, 0, x)] [] σ := fw_on hG [] 200 h
abbrev fk_isNinth : List fw_CR := []
abbrev st_isNinth : fw_K → fw_KR → fw_K := fw_st vwCl nn_sh nn_kd fw_kv fw_wc (nn_KI1.map (fun x => x.1)) (nn_KJ1.map (fun x => x.1)) (nn_PF1.map (fun x => x.1)) (nn_PS1.map (fun x => x.1)) fk_isNinth 0 nn_dt81 1 1
theorem fs_isNinth_0 {G : fw_K} {R : fw_KR} (hG : fw_cls st_isNinth R G) {k : Int} {σ : ab_SG} (h : (fw_c k < 0 → (0 ≤ fw_c 0 ∧ fw_c 0 ≤ 1) ∧ R (some (0, 0, 0)) σ) ∧ (0 ≤ fw_c k → (fw_c 9 < fw_c k → (0 ≤ fw_c 0 ∧ fw_c 0 ≤ 1) ∧ R (some (0, 0, 0)) σ) ∧ (fw_c k ≤ fw_c 9 → (0 ≤ fw_c 1 ∧ fw_c 1 ≤ 1) ∧ R (some (0, 0, 1)) σ))) : G 0 [some (0, 0, k)] [] σ := fw_on hG [] 200 h
abbrev fk_ninth3 : List fw_CR := [(92, 2, false, 0, 0, sp_atc)]
abbrev st_ninth3 : fw_K → fw_KR → fw_K := fw_st vwCl nn_sh nn_kd fw_kv fw_wc (nn_KI6.map (fun x => x.1)) (nn_KJ6.map (fun x => x.1)) (nn_PF6.map (fun x => x.1)) (nn_PS6.map (fun x => x.1)) fk_ninth3 1 nn_dt68 3 0
theorem fs_ninth3_0 {G : fw_K} {R : fw_KR} (hG : fw_cls st_ninth3 R G) {p x : Int} {σ : ab_SG} (h : sp_atc [(2, 9, 0), (0, 0, (p * 9) + x)] σ (fun rv σ2 => G 13 [some (2, 3, 0), some (0, 0, p), some (0, 0, x)] (rv.toList ++ []) σ2)) : G 0 [some (2, 3, 0), some (0, 0, p), some (0, 0, x)] [] σ := fw_on hG [13] 200 h
theorem fs_ninth3_13 {G : fw_K} {R : fw_KR} (hG : fw_cls st_ninth3 R G) {a1 a2 b0 : Int} {σ : ab_SG} (h : R (some (0, 0, b0)) σ) : G 13 [some (2, 3, 0), some (0, 0, a1), some (0, 0, a2)] [(0, 0, b0)] σ := fw_on hG [13] 200 h
abbrev fk_setNinth3 : List fw_CR := [(99, 3, false, 0, 0, sp_putc)]
abbrev st_setNinth3 : fw_K → fw_KR → fw_K := fw_st vwCl nn_sh nn_kd fw_kv fw_wc (nn_KI6.map (fun x => x.1)) (nn_KJ6.map (fun x => x.1)) (nn_PF6.map (fun x => x.1)) (nn_PS6.map (fun x => x.1)) fk_setNinth3 1 nn_dt37 4 4
theorem fs_setNinth3_0 {G : fw_K} {R : fw_KR} (hG : fw_cls st_setNinth3 R G) {p x k : Int} {σ : ab_SG} (h : sp_putc [(2, 9, 0), (0, 0, (p * 9) + x), (0, 0, k)] σ (fun rv σ2 => G 14 [some (2, 3, 0), some (0, 0, p), some (0, 0, x), some (0, 0, k)] (rv.toList ++ []) σ2)) : G 0 [some (2, 3, 0), some (0, 0, p), some (0, 0, x), some (0, 0, k)] [] σ := fw_on hG [14] 200 h
theorem fs_setNinth3_14 {G : fw_K} {R : fw_KR} (hG : fw_cls st_setNinth3 R G) {a1 a2 a3 : Int} {σ : ab_SG} (h : R none σ) : G 14 [some (2, 3, 0), some (0, 0, a1), some (0, 0, a2), some (0, 0, a3)] [] σ := fw_on hG [14] 200 h
abbrev fk_keep : List fw_CR := [(19, 2, true, 6, 1, sp_ninth3), (25, 3, false, 0, 0, sp_putc), (32, 2, false, 0, 0, sp_atc)]
abbrev st_keep : fw_K → fw_KR → fw_K := fw_st vwCl nn_sh nn_kd fw_kv fw_wc (nn_KI7.map (fun x => x.1)) (nn_KJ7.map (fun x => x.1)) (nn_PF7.map (fun x => x.1)) (nn_PS7.map (fun x => x.1)) fk_keep 2 nn_dt131 5 4
theorem fs_keep_0 {G : fw_K} {R : fw_KR} (hG : fw_cls st_keep R G) {p : Int} {σ : ab_SG} (h : (fw_c (σ 85 1) < fw_c 8 → G 50 [some (2, 85, 0), some (2, 3, 0), some (0, 0, p), none, none] [] σ) ∧ (fw_c 8 ≤ fw_c (σ 85 1) → G 11 [some (2, 85, 0), some (2, 3, 0), some (0, 0, p), some (0, 0, 0), none] [] σ)) : G 0 [some (2, 85, 0), some (2, 3, 0), some (0, 0, p), none, none] [] σ := fw_on hG [11, 50, 61, 83, 86, 108, 111, 125] 200 h
theorem fs_keep_50 {G : fw_K} {R : fw_KR} (hG : fw_cls st_keep R G) {a2 : Int} {σ : ab_SG} (h : G 61 [some (2, 85, 0), some (2, 3, 0), some (0, 0, a2), some (0, 0, (σ 85 1) * 11), some (0, 0, 0)] [] σ) : G 50 [some (2, 85, 0), some (2, 3, 0), some (0, 0, a2), none, none] [] σ := fw_on hG [11, 50, 61, 83, 86, 108, 111, 125] 200 h
theorem fs_keep_11 {G : fw_K} {R : fw_KR} (hG : fw_cls st_keep R G) {a2 a3 : Int} {σ : ab_SG} (h : (fw_c ((88 : Nat) : Int) ≤ fw_c (a3 + 11) → G 50 [some (2, 85, 0), some (2, 3, 0), some (0, 0, a2), some (0, 0, a3), none] [] (ab_ups σ 85 1 (fw_c 7))) ∧ (fw_c (a3 + 11) < fw_c ((88 : Nat) : Int) → (0 ≤ fw_c (a3 + 11) ∧ fw_c (a3 + 11) < ((88 : Nat) : Int)) ∧ ((0 ≤ fw_c a3 ∧ fw_c a3 < ((88 : Nat) : Int)) ∧ True ∧ (G 11 [some (2, 85, 0), some (2, 3, 0), some (0, 0, a2), some (0, 0, a3 + 1), none] [] (ab_ups σ 86 (fw_c a3).toNat (fw_c (σ 86 (fw_c (a3 + 11)).toNat))))))) : G 11 [some (2, 85, 0), some (2, 3, 0), some (0, 0, a2), some (0, 0, a3), none] [] σ := fw_on hG [11, 50, 61, 83, 86, 108, 111, 125] 200 h
theorem fs_keep_61 {G : fw_K} {R : fw_KR} (hG : fw_cls st_keep R G) {a2 a3 a4 : Int} {σ : ab_SG} (h : (fw_c 9 ≤ fw_c a4 → sp_atc [(2, 10, 0), (0, 0, a2)] σ (fun rv σ2 => G 108 [some (2, 85, 0), some (2, 3, 0), some (0, 0, a2), some (0, 0, a3), some (0, 0, a4)] (rv.toList ++ [(0, 0, a3 + 9), (2, 86, 0)]) σ2)) ∧ (fw_c a4 < fw_c 9 → sp_ninth3 [(2, 3, 0), (0, 0, a2), (0, 0, a4)] σ (fun rv σ2 => G 83 [some (2, 85, 0), some (2, 3, 0), some (0, 0, a2), some (0, 0, a3), some (0, 0, a4)] (rv.toList ++ [(0, 0, a3 + a4), (2, 86, 0)]) σ2))) : G 61 [some (2, 85, 0), some (2, 3, 0), some (0, 0, a2), some (0, 0, a3), some (0, 0, a4)] [] σ := fw_on hG [11, 50, 61, 83, 86, 108, 111, 125] 200 h
theorem fs_keep_50a {G : fw_K} {R : fw_KR} (hG : fw_cls st_keep R G) {a2 a3 : Int} {σ : ab_SG} (h : G 61 [some (2, 85, 0), some (2, 3, 0), some (0, 0, a2), some (0, 0, (σ 85 1) * 11), some (0, 0, 0)] [] σ) : G 50 [some (2, 85, 0), some (2, 3, 0), some (0, 0, a2), some (0, 0, a3), none] [] σ := fw_on hG [11, 50, 61, 83, 86, 108, 111, 125] 200 h
theorem fs_keep_108 {G : fw_K} {R : fw_KR} (hG : fw_cls st_keep R G) {a2 a3 a4 b0 b1 : Int} {σ : ab_SG} (h : sp_putc [(2, 86, 0), (0, 0, b1), (0, 0, b0)] σ (fun rv σ2 => G 111 [some (2, 85, 0), some (2, 3, 0), some (0, 0, a2), some (0, 0, a3), some (0, 0, a4)] (rv.toList ++ []) σ2)) : G 108 [some (2, 85, 0), some (2, 3, 0), some (0, 0, a2), some (0, 0, a3), some (0, 0, a4)] [(0, 0, b0), (0, 0, b1), (2, 86, 0)] σ := fw_on hG [11, 50, 61, 83, 86, 108, 111, 125] 200 h
theorem fs_keep_83 {G : fw_K} {R : fw_KR} (hG : fw_cls st_keep R G) {a2 a3 a4 b0 b1 : Int} {σ : ab_SG} (h : sp_putc [(2, 86, 0), (0, 0, b1), (0, 0, b0)] σ (fun rv σ2 => G 86 [some (2, 85, 0), some (2, 3, 0), some (0, 0, a2), some (0, 0, a3), some (0, 0, a4)] (rv.toList ++ []) σ2)) : G 83 [some (2, 85, 0), some (2, 3, 0), some (0, 0, a2), some (0, 0, a3), some (0, 0, a4)] [(0, 0, b0), (0, 0, b1), (2, 86, 0)] σ := fw_on hG [11, 50, 61, 83, 86, 108, 111, 125] 200 h
theorem fs_keep_111 {G : fw_K} {R : fw_KR} (hG : fw_cls st_keep R G) {a2 a3 a4 : Int} {σ : ab_SG} (h : sp_putc [(2, 86, 0), (0, 0, (a3 + 9) + 1), (0, 0, a2)] σ (fun rv σ2 => G 125 [some (2, 85, 0), some (2, 3, 0), some (0, 0, a2), some (0, 0, a3), some (0, 0, a4)] (rv.toList ++ []) σ2)) : G 111 [some (2, 85, 0), some (2, 3, 0), some (0, 0, a2), some (0, 0, a3), some (0, 0, a4)] [] σ := fw_on hG [11, 50, 61, 83, 86, 108, 111, 125] 200 h
theorem fs_keep_86 {G : fw_K} {R : fw_KR} (hG : fw_cls st_keep R G) {a2 a3 a4 : Int} {σ : ab_SG} (h : G 61 [some (2, 85, 0), some (2, 3, 0), some (0, 0, a2), some (0, 0, a3), some (0, 0, a4 + 1)] [] σ) : G 86 [some (2, 85, 0), some (2, 3, 0), some (0, 0, a2), some (0, 0, a3), some (0, 0, a4)] [] σ := fw_on hG [11, 50, 61, 83, 86, 108, 111, 125] 200 h
theorem fs_keep_125 {G : fw_K} {R : fw_KR} (hG : fw_cls st_keep R G) {a2 a3 a4 : Int} {σ : ab_SG} (h : R none (ab_ups σ 85 1 (fw_c ((σ 85 1) + 1)))) : G 125 [some (2, 85, 0), some (2, 3, 0), some (0, 0, a2), some (0, 0, a3), some (0, 0, a4)] [] σ := fw_on hG [11, 50, 61, 83, 86, 108, 111, 125] 200 h
abbrev fk_takeBack : List fw_CR := [(25, 3, false, 0, 0, sp_putc), (32, 2, false, 0, 0, sp_atc), (36, 3, true, 6, 1, sp_setNinth3)]
abbrev st_takeBack : fw_K → fw_KR → fw_K := fw_st vwCl nn_sh nn_kd fw_kv fw_wc (nn_KI7.map (fun x => x.1)) (nn_KJ7.map (fun x => x.1)) (nn_PF7.map (fun x => x.1)) (nn_PS7.map (fun x => x.1)) fk_takeBack 2 nn_dt134 5 4
theorem fs_takeBack_0 {G : fw_K} {R : fw_KR} (hG : fw_cls st_takeBack R G) {σ : ab_SG} (h : sp_atc [(2, 86, 0), (0, 0, (((fw_c ((σ 85 1) - 1)) * 11) + 9) + 1)] (ab_ups σ 85 1 (fw_c ((σ 85 1) - 1))) (fun rv σ2 => G 31 [some (2, 85, 0), some (2, 3, 0), some (0, 0, (fw_c ((σ 85 1) - 1)) * 11), none, none] (rv.toList ++ []) σ2)) : G 0 [some (2, 85, 0), some (2, 3, 0), none, none, none] [] σ := fw_on hG [31, 35, 57, 60, 82, 85] 200 h
theorem fs_takeBack_31 {G : fw_K} {R : fw_KR} (hG : fw_cls st_takeBack R G) {a2 b0 : Int} {σ : ab_SG} (h : G 35 [some (2, 85, 0), some (2, 3, 0), some (0, 0, a2), some (0, 0, b0), some (0, 0, 0)] [] σ) : G 31 [some (2, 85, 0), some (2, 3, 0), some (0, 0, a2), none, none] [(0, 0, b0)] σ := fw_on hG [31, 35, 57, 60, 82, 85] 200 h
theorem fs_takeBack_35 {G : fw_K} {R : fw_KR} (hG : fw_cls st_takeBack R G) {a2 a3 a4 : Int} {σ : ab_SG} (h : (fw_c 9 ≤ fw_c a4 → sp_atc [(2, 86, 0), (0, 0, a2 + 9)] σ (fun rv σ2 => G 82 [some (2, 85, 0), some (2, 3, 0), some (0, 0, a2), some (0, 0, a3), some (0, 0, a4)] (rv.toList ++ [(0, 0, a3), (2, 10, 0)]) σ2)) ∧ (fw_c a4 < fw_c 9 → sp_atc [(2, 86, 0), (0, 0, a2 + a4)] σ (fun rv σ2 => G 57 [some (2, 85, 0), some (2, 3, 0), some (0, 0, a2), some (0, 0, a3), some (0, 0, a4)] (rv.toList ++ [(0, 0, a4), (0, 0, a3), (2, 3, 0)]) σ2))) : G 35 [some (2, 85, 0), some (2, 3, 0), some (0, 0, a2), some (0, 0, a3), some (0, 0, a4)] [] σ := fw_on hG [31, 35, 57, 60, 82, 85] 200 h
theorem fs_takeBack_82 {G : fw_K} {R : fw_KR} (hG : fw_cls st_takeBack R G) {a2 a3 a4 b0 b1 : Int} {σ : ab_SG} (h : sp_putc [(2, 10, 0), (0, 0, b1), (0, 0, b0)] σ (fun rv σ2 => G 85 [some (2, 85, 0), some (2, 3, 0), some (0, 0, a2), some (0, 0, a3), some (0, 0, a4)] (rv.toList ++ []) σ2)) : G 82 [some (2, 85, 0), some (2, 3, 0), some (0, 0, a2), some (0, 0, a3), some (0, 0, a4)] [(0, 0, b0), (0, 0, b1), (2, 10, 0)] σ := fw_on hG [31, 35, 57, 60, 82, 85] 200 h
theorem fs_takeBack_57 {G : fw_K} {R : fw_KR} (hG : fw_cls st_takeBack R G) {a2 a3 a4 b0 b1 b2 : Int} {σ : ab_SG} (h : sp_setNinth3 [(2, 3, 0), (0, 0, b2), (0, 0, b1), (0, 0, b0)] σ (fun rv σ2 => G 60 [some (2, 85, 0), some (2, 3, 0), some (0, 0, a2), some (0, 0, a3), some (0, 0, a4)] (rv.toList ++ []) σ2)) : G 57 [some (2, 85, 0), some (2, 3, 0), some (0, 0, a2), some (0, 0, a3), some (0, 0, a4)] [(0, 0, b0), (0, 0, b1), (0, 0, b2), (2, 3, 0)] σ := fw_on hG [31, 35, 57, 60, 82, 85] 200 h
theorem fs_takeBack_85 {G : fw_K} {R : fw_KR} (hG : fw_cls st_takeBack R G) {a2 a3 a4 : Int} {σ : ab_SG} (h : R none σ) : G 85 [some (2, 85, 0), some (2, 3, 0), some (0, 0, a2), some (0, 0, a3), some (0, 0, a4)] [] σ := fw_on hG [31, 35, 57, 60, 82, 85] 200 h
theorem fs_takeBack_60 {G : fw_K} {R : fw_KR} (hG : fw_cls st_takeBack R G) {a2 a3 a4 : Int} {σ : ab_SG} (h : G 35 [some (2, 85, 0), some (2, 3, 0), some (0, 0, a2), some (0, 0, a3), some (0, 0, a4 + 1)] [] σ) : G 60 [some (2, 85, 0), some (2, 3, 0), some (0, 0, a2), some (0, 0, a3), some (0, 0, a4)] [] σ := fw_on hG [31, 35, 57, 60, 82, 85] 200 h
abbrev fk_undo : List fw_CR := [(350, 1, true, 3, 2, sp_takeBack)]
abbrev st_undo : fw_K → fw_KR → fw_K := fw_st vwCl nn_sh nn_kd fw_kv fw_wc (nn_KI1.map (fun x => x.1)) (nn_KJ1.map (fun x => x.1)) (nn_PF1.map (fun x => x.1)) (nn_PS1.map (fun x => x.1)) fk_undo 3 nn_dt133 1 0
theorem fs_undo_0 {G : fw_K} {R : fw_KR} (hG : fw_cls st_undo R G) {σ : ab_SG} (h : (fw_c 1 ≤ fw_c (σ 85 1) → sp_takeBack [(2, 85, 0), (2, 3, 0)] σ (fun rv σ2 => G 24 [some (2, 0, 0)] (rv.toList ++ []) σ2)) ∧ (fw_c (σ 85 1) < fw_c 1 → R (some (0, 0, (-1))) σ)) : G 0 [some (2, 0, 0)] [] σ := fw_on hG [24] 200 h
theorem fs_undo_24 {G : fw_K} {R : fw_KR} (hG : fw_cls st_undo R G) {σ : ab_SG} (h : R (some (0, 0, σ 85 1)) σ) : G 24 [some (2, 0, 0)] [] σ := fw_on hG [24] 200 h
abbrev fk_teach : List fw_CR := [(157, 1, true, 6, 0, sp_isTune3), (173, 1, true, 6, 0, sp_isPerson3), (176, 2, true, 6, 1, sp_ninth3), (232, 1, false, 0, 0, sp_isNinth), (339, 2, true, 3, 2, sp_keep), (343, 3, true, 6, 1, sp_setNinth3)]
abbrev st_teach : fw_K → fw_KR → fw_K := fw_st vwCl nn_sh nn_kd fw_kv fw_wc (nn_KI1.map (fun x => x.1)) (nn_KJ1.map (fun x => x.1)) (nn_PF1.map (fun x => x.1)) (nn_PS1.map (fun x => x.1)) fk_teach 3 nn_dt130 4 1
theorem fs_teach_0 {G : fw_K} {R : fw_KR} (hG : fw_cls st_teach R G) {p x k : Int} {σ : ab_SG} (h : sp_isPerson3 [(2, 3, 0), (0, 0, p)] σ (fun rv σ2 => G 8 [some (2, 0, 0), some (0, 0, p), some (0, 0, x), some (0, 0, k)] (rv.toList ++ []) σ2)) : G 0 [some (2, 0, 0), some (0, 0, p), some (0, 0, x), some (0, 0, k)] [] σ := fw_on hG [8, 19, 26, 38, 56, 66] 200 h
theorem fs_teach_8 {G : fw_K} {R : fw_KR} (hG : fw_cls st_teach R G) {a1 a2 a3 b0 : Int} {σ : ab_SG} (h : (fw_c b0 = 0 → (0 ≤ fw_c 0 ∧ fw_c 0 ≤ 1) ∧ R (some (0, 0, 0)) σ) ∧ (fw_c b0 ≠ 0 → sp_isTune3 [(2, 3, 0), (0, 0, a2)] σ (fun rv σ2 => G 19 [some (2, 0, 0), some (0, 0, a1), some (0, 0, a2), some (0, 0, a3)] (rv.toList ++ []) σ2))) : G 8 [some (2, 0, 0), some (0, 0, a1), some (0, 0, a2), some (0, 0, a3)] [(0, 0, b0)] σ := fw_on hG [8, 19, 26, 38, 56, 66] 200 h
theorem fs_teach_19 {G : fw_K} {R : fw_KR} (hG : fw_cls st_teach R G) {a1 a2 a3 b0 : Int} {σ : ab_SG} (h : (fw_c b0 = 0 → (0 ≤ fw_c 0 ∧ fw_c 0 ≤ 1) ∧ R (some (0, 0, 0)) σ) ∧ (fw_c b0 ≠ 0 → sp_isNinth [(0, 0, a3)] σ (fun rv σ2 => G 26 [some (2, 0, 0), some (0, 0, a1), some (0, 0, a2), some (0, 0, a3)] (rv.toList ++ []) σ2))) : G 19 [some (2, 0, 0), some (0, 0, a1), some (0, 0, a2), some (0, 0, a3)] [(0, 0, b0)] σ := fw_on hG [8, 19, 26, 38, 56, 66] 200 h
theorem fs_teach_26 {G : fw_K} {R : fw_KR} (hG : fw_cls st_teach R G) {a1 a2 a3 b0 : Int} {σ : ab_SG} (h : (fw_c b0 = 0 → (0 ≤ fw_c 0 ∧ fw_c 0 ≤ 1) ∧ R (some (0, 0, 0)) σ) ∧ (fw_c b0 ≠ 0 → sp_ninth3 [(2, 3, 0), (0, 0, a1), (0, 0, a2)] σ (fun rv σ2 => G 38 [some (2, 0, 0), some (0, 0, a1), some (0, 0, a2), some (0, 0, a3)] (rv.toList ++ []) σ2))) : G 26 [some (2, 0, 0), some (0, 0, a1), some (0, 0, a2), some (0, 0, a3)] [(0, 0, b0)] σ := fw_on hG [8, 19, 26, 38, 56, 66] 200 h
theorem fs_teach_38 {G : fw_K} {R : fw_KR} (hG : fw_cls st_teach R G) {a1 a2 a3 b0 : Int} {σ : ab_SG} (h : (fw_c b0 ≠ fw_c a3 → sp_keep [(2, 85, 0), (2, 3, 0), (0, 0, a1)] σ (fun rv σ2 => G 56 [some (2, 0, 0), some (0, 0, a1), some (0, 0, a2), some (0, 0, a3)] (rv.toList ++ []) σ2)) ∧ (fw_c b0 = fw_c a3 → (0 ≤ fw_c 0 ∧ fw_c 0 ≤ 1) ∧ R (some (0, 0, 0)) σ)) : G 38 [some (2, 0, 0), some (0, 0, a1), some (0, 0, a2), some (0, 0, a3)] [(0, 0, b0)] σ := fw_on hG [8, 19, 26, 38, 56, 66] 200 h
theorem fs_teach_56 {G : fw_K} {R : fw_KR} (hG : fw_cls st_teach R G) {a1 a2 a3 : Int} {σ : ab_SG} (h : sp_setNinth3 [(2, 3, 0), (0, 0, a1), (0, 0, a2), (0, 0, a3)] σ (fun rv σ2 => G 66 [some (2, 0, 0), some (0, 0, a1), some (0, 0, a2), some (0, 0, a3)] (rv.toList ++ []) σ2)) : G 56 [some (2, 0, 0), some (0, 0, a1), some (0, 0, a2), some (0, 0, a3)] [] σ := fw_on hG [8, 19, 26, 38, 56, 66] 200 h
theorem fs_teach_66 {G : fw_K} {R : fw_KR} (hG : fw_cls st_teach R G) {a1 a2 a3 : Int} {σ : ab_SG} (h : (0 ≤ fw_c 1 ∧ fw_c 1 ≤ 1) ∧ R (some (0, 0, 1)) σ) : G 66 [some (2, 0, 0), some (0, 0, a1), some (0, 0, a2), some (0, 0, a3)] [] σ := fw_on hG [8, 19, 26, 38, 56, 66] 200 h
abbrev fk_dares : List fw_CR := [(173, 1, true, 6, 0, sp_isPerson3), (180, 2, false, 0, 0, sp_atc), (232, 1, false, 0, 0, sp_isNinth), (339, 2, true, 3, 2, sp_keep), (346, 3, false, 0, 0, sp_putc)]
abbrev st_dares : fw_K → fw_KR → fw_K := fw_st vwCl nn_sh nn_kd fw_kv fw_wc (nn_KI1.map (fun x => x.1)) (nn_KJ1.map (fun x => x.1)) (nn_PF1.map (fun x => x.1)) (nn_PS1.map (fun x => x.1)) fk_dares 3 nn_dt132 3 1
theorem fs_dares_0 {G : fw_K} {R : fw_KR} (hG : fw_cls st_dares R G) {p k : Int} {σ : ab_SG} (h : sp_isPerson3 [(2, 3, 0), (0, 0, p)] σ (fun rv σ2 => G 8 [some (2, 0, 0), some (0, 0, p), some (0, 0, k)] (rv.toList ++ []) σ2)) : G 0 [some (2, 0, 0), some (0, 0, p), some (0, 0, k)] [] σ := fw_on hG [8, 15, 29, 47, 59] 200 h
theorem fs_dares_8 {G : fw_K} {R : fw_KR} (hG : fw_cls st_dares R G) {a1 a2 b0 : Int} {σ : ab_SG} (h : (fw_c b0 = 0 → (0 ≤ fw_c 0 ∧ fw_c 0 ≤ 1) ∧ R (some (0, 0, 0)) σ) ∧ (fw_c b0 ≠ 0 → sp_isNinth [(0, 0, a2)] σ (fun rv σ2 => G 15 [some (2, 0, 0), some (0, 0, a1), some (0, 0, a2)] (rv.toList ++ []) σ2))) : G 8 [some (2, 0, 0), some (0, 0, a1), some (0, 0, a2)] [(0, 0, b0)] σ := fw_on hG [8, 15, 29, 47, 59] 200 h
theorem fs_dares_15 {G : fw_K} {R : fw_KR} (hG : fw_cls st_dares R G) {a1 a2 b0 : Int} {σ : ab_SG} (h : (fw_c b0 = 0 → (0 ≤ fw_c 0 ∧ fw_c 0 ≤ 1) ∧ R (some (0, 0, 0)) σ) ∧ (fw_c b0 ≠ 0 → sp_atc [(2, 10, 0), (0, 0, a1)] σ (fun rv σ2 => G 29 [some (2, 0, 0), some (0, 0, a1), some (0, 0, a2)] (rv.toList ++ []) σ2))) : G 15 [some (2, 0, 0), some (0, 0, a1), some (0, 0, a2)] [(0, 0, b0)] σ := fw_on hG [8, 15, 29, 47, 59] 200 h
theorem fs_dares_29 {G : fw_K} {R : fw_KR} (hG : fw_cls st_dares R G) {a1 a2 b0 : Int} {σ : ab_SG} (h : (fw_c b0 ≠ fw_c a2 → sp_keep [(2, 85, 0), (2, 3, 0), (0, 0, a1)] σ (fun rv σ2 => G 47 [some (2, 0, 0), some (0, 0, a1), some (0, 0, a2)] (rv.toList ++ []) σ2)) ∧ (fw_c b0 = fw_c a2 → (0 ≤ fw_c 0 ∧ fw_c 0 ≤ 1) ∧ R (some (0, 0, 0)) σ)) : G 29 [some (2, 0, 0), some (0, 0, a1), some (0, 0, a2)] [(0, 0, b0)] σ := fw_on hG [8, 15, 29, 47, 59] 200 h
theorem fs_dares_47 {G : fw_K} {R : fw_KR} (hG : fw_cls st_dares R G) {a1 a2 : Int} {σ : ab_SG} (h : sp_putc [(2, 10, 0), (0, 0, a1), (0, 0, a2)] σ (fun rv σ2 => G 59 [some (2, 0, 0), some (0, 0, a1), some (0, 0, a2)] (rv.toList ++ []) σ2)) : G 47 [some (2, 0, 0), some (0, 0, a1), some (0, 0, a2)] [] σ := fw_on hG [8, 15, 29, 47, 59] 200 h
theorem fs_dares_59 {G : fw_K} {R : fw_KR} (hG : fw_cls st_dares R G) {a1 a2 : Int} {σ : ab_SG} (h : (0 ≤ fw_c 1 ∧ fw_c 1 ≤ 1) ∧ R (some (0, 0, 1)) σ) : G 59 [some (2, 0, 0), some (0, 0, a1), some (0, 0, a2)] [] σ := fw_on hG [8, 15, 29, 47, 59] 200 h
section
variable {l : Launch} {cy : Nat → ClassId} {ad wr cr : Nat → Nat} {D : va_G}
theorem fm_at9 (hinj : nn_inj ad) : fw_H l cy ad wr cr D 29 0 (at_k 9 45) := fw_mk hinj (⟨"NameNotes", "at", "([II)I"⟩, prog_1_method_84_code, 2, (Option.some Jvm.ClassFile.FieldType.int), 2, false, 0) rfl rfl nn_KI1_ok nn_KJ1_ok nn_PF1_ok nn_PS1_ok (by decide +kernel) rfl rfl (fun _ h => absurd h List.not_mem_nil) (fun as σ K h => by
  obtain ⟨x, rfl, h1, h2⟩ := h
  exact ⟨rfl, fun G hG => at_gen (k := 9) (n := 45) (K := K) (σ := σ) (x := x) (by decide) (fs_at9_0 hG) h1 h2⟩)
theorem fm_put9 (hinj : nn_inj ad) : fw_H l cy ad wr cr D 27 0 (put_k 9 45) := fw_mk hinj (⟨"NameNotes", "put", "([III)V"⟩, prog_1_method_86_code, 3, (Option.none : Option Jvm.ClassFile.FieldType), 3, false, 4) rfl rfl nn_KI1_ok nn_KJ1_ok nn_PF1_ok nn_PS1_ok (by decide +kernel) rfl rfl (fun _ h => absurd h List.not_mem_nil) (fun as σ K h => by
  obtain ⟨x, v, rfl, h1, h2⟩ := h
  exact ⟨rfl, fun G hG => put_gen (k := 9) (n := 45) (K := K) (σ := σ) (x := x) (c := fw_c v) (by decide) (fs_put9_0 hG) h1 h2⟩)
theorem fm_at10 (hinj : nn_inj ad) : fw_H l cy ad wr cr D 29 0 (at_k 10 5) := fw_mk hinj (⟨"NameNotes", "at", "([II)I"⟩, prog_1_method_84_code, 2, (Option.some Jvm.ClassFile.FieldType.int), 2, false, 0) rfl rfl nn_KI1_ok nn_KJ1_ok nn_PF1_ok nn_PS1_ok (by decide +kernel) rfl rfl (fun _ h => absurd h List.not_mem_nil) (fun as σ K h => by
  obtain ⟨x, rfl, h1, h2⟩ := h
  exact ⟨rfl, fun G hG => at_gen (k := 10) (n := 5) (K := K) (σ := σ) (x := x) (by decide) (fs_at10_0 hG) h1 h2⟩)
theorem fm_put10 (hinj : nn_inj ad) : fw_H l cy ad wr cr D 27 0 (put_k 10 5) := fw_mk hinj (⟨"NameNotes", "put", "([III)V"⟩, prog_1_method_86_code, 3, (Option.none : Option Jvm.ClassFile.FieldType), 3, false, 4) rfl rfl nn_KI1_ok nn_KJ1_ok nn_PF1_ok nn_PS1_ok (by decide +kernel) rfl rfl (fun _ h => absurd h List.not_mem_nil) (fun as σ K h => by
  obtain ⟨x, v, rfl, h1, h2⟩ := h
  exact ⟨rfl, fun G hG => put_gen (k := 10) (n := 5) (K := K) (σ := σ) (x := x) (c := fw_c v) (by decide) (fs_put10_0 hG) h1 h2⟩)
theorem fm_at86 (hinj : nn_inj ad) : fw_H l cy ad wr cr D 29 0 (at_k 86 88) := fw_mk hinj (⟨"NameNotes", "at", "([II)I"⟩, prog_1_method_84_code, 2, (Option.some Jvm.ClassFile.FieldType.int), 2, false, 0) rfl rfl nn_KI1_ok nn_KJ1_ok nn_PF1_ok nn_PS1_ok (by decide +kernel) rfl rfl (fun _ h => absurd h List.not_mem_nil) (fun as σ K h => by
  obtain ⟨x, rfl, h1, h2⟩ := h
  exact ⟨rfl, fun G hG => at_gen (k := 86) (n := 88) (K := K) (σ := σ) (x := x) (by decide) (fs_at86_0 hG) h1 h2⟩)
theorem fm_put86 (hinj : nn_inj ad) : fw_H l cy ad wr cr D 27 0 (put_k 86 88) := fw_mk hinj (⟨"NameNotes", "put", "([III)V"⟩, prog_1_method_86_code, 3, (Option.none : Option Jvm.ClassFile.FieldType), 3, false, 4) rfl rfl nn_KI1_ok nn_KJ1_ok nn_PF1_ok nn_PS1_ok (by decide +kernel) rfl rfl (fun _ h => absurd h List.not_mem_nil) (fun as σ K h => by
  obtain ⟨x, v, rfl, h1, h2⟩ := h
  exact ⟨rfl, fun G hG => put_gen (k := 86) (n := 88) (K := K) (σ := σ) (x := x) (c := fw_c v) (by decide) (fs_put86_0 hG) h1 h2⟩)
theorem fm_atc (hinj : nn_inj ad) : fw_H l cy ad wr cr D 29 0 sp_atc := fw_H_of (List.forall_mem_cons.mpr ⟨fm_at9 hinj, (List.forall_mem_cons.mpr ⟨fm_at10 hinj, (List.forall_mem_cons.mpr ⟨fm_at86 hinj, (fun _ h => absurd h List.not_mem_nil)⟩)⟩)⟩)
theorem fm_putc (hinj : nn_inj ad) : fw_H l cy ad wr cr D 27 0 sp_putc := fw_H_of (List.forall_mem_cons.mpr ⟨fm_put9 hinj, (List.forall_mem_cons.mpr ⟨fm_put10 hinj, (List.forall_mem_cons.mpr ⟨fm_put86 hinj, (fun _ h => absurd h List.not_mem_nil)⟩)⟩)⟩)
theorem fm_isPerson3 (hinj : nn_inj ad) : fw_H l cy ad wr cr D 67 0 sp_isPerson3 := fw_mk hinj (⟨"NameNotes$Studio", "isPerson", "(I)Z"⟩, prog_8_method_6_code, 2, (Option.some Jvm.ClassFile.FieldType.boolean), 1, true, 1) rfl rfl nn_KI6_ok nn_KJ6_ok nn_PF6_ok nn_PS6_ok (by decide +kernel) rfl rfl (fun _ h => absurd h List.not_mem_nil) (fun as σ K h => by
  obtain ⟨p, rfl, h⟩ := h
  refine ⟨rfl, fun G hG => fs_isPerson3_0 hG ?_⟩
  unfold c_pe at h
  refine ⟨fun q => ⟨fw_01, ?_⟩, fun q => ⟨fun q2 => ⟨fw_01, ?_⟩, fun q2 => ⟨by rw [fw_c1]; decide, ?_⟩⟩⟩
  · rw [m_b0 (fun z => by omega)] at h; exact h
  · rw [m_b0 (fun z => by omega)] at h; exact h
  · rw [m_b1 q q2] at h; exact h)
theorem fm_isTune3 (hinj : nn_inj ad) : fw_H l cy ad wr cr D 46 0 sp_isTune3 := fw_mk hinj (⟨"NameNotes$Studio", "isTune", "(I)Z"⟩, prog_8_method_4_code, 2, (Option.some Jvm.ClassFile.FieldType.boolean), 1, true, 1) rfl rfl nn_KI6_ok nn_KJ6_ok nn_PF6_ok nn_PS6_ok (by decide +kernel) rfl rfl (fun _ h => absurd h List.not_mem_nil) (fun as σ K h => by
  obtain ⟨p, rfl, h⟩ := h
  refine ⟨rfl, fun G hG => fs_isTune3_0 hG ?_⟩
  unfold c_tu at h
  refine ⟨fun q => ⟨fw_01, ?_⟩, fun q => ⟨fun q2 => ⟨fw_01, ?_⟩, fun q2 => ⟨by rw [fw_c1]; decide, ?_⟩⟩⟩
  · rw [m_b0 (fun z => by omega)] at h; exact h
  · rw [m_b0 (fun z => by omega)] at h; exact h
  · rw [m_b1 q q2] at h; exact h)
theorem fm_isNinth (hinj : nn_inj ad) : fw_H l cy ad wr cr D 81 0 sp_isNinth := fw_mk hinj (⟨"NameNotes", "isNinth", "(I)Z"⟩, prog_1_method_75_code, 1, (Option.some Jvm.ClassFile.FieldType.boolean), 1, false, 1) rfl rfl nn_KI1_ok nn_KJ1_ok nn_PF1_ok nn_PS1_ok (by decide +kernel) rfl rfl (fun _ h => absurd h List.not_mem_nil) (fun as σ K h => by
  obtain ⟨p, rfl, h⟩ := h
  refine ⟨rfl, fun G hG => fs_isNinth_0 hG ?_⟩
  rw [fw_c_id (x := 9) (by decide) (by decide)]
  refine ⟨fun q => ⟨fw_01, ?_⟩, fun q => ⟨fun q2 => ⟨fw_01, ?_⟩, fun q2 => ⟨by rw [fw_c1]; decide, ?_⟩⟩⟩
  · rw [m_b0 (fun z => by omega)] at h; exact h
  · rw [m_b0 (fun z => by omega)] at h; exact h
  · rw [m_b1 q q2] at h; exact h)
theorem fm_ninth3 (hinj : nn_inj ad) : fw_H l cy ad wr cr D 68 1 sp_ninth3 := fw_mk hinj (⟨"NameNotes$Studio", "ninth", "(II)I"⟩, prog_8_method_13_code, 3, (Option.some Jvm.ClassFile.FieldType.int), 2, true, 0) rfl rfl nn_KI6_ok nn_KJ6_ok nn_PF6_ok nn_PS6_ok (by decide +kernel) rfl rfl (List.forall_mem_cons.mpr ⟨fw_row nn_PM6_ok (x := 92) (k := 2) (mn := 29) (np := 2) (ob := false) (ci := 0) (⟨"NameNotes", "at", "([II)I"⟩, prog_1_method_84_code, 2, (Option.some Jvm.ClassFile.FieldType.int), 2, false, 0) rfl (by decide +kernel) rfl rfl (by decide) (fun q => by cases q) (fm_atc hinj), (fun _ h => absurd h List.not_mem_nil)⟩) (fun as σ K h => by
  obtain ⟨p, x, rfl, hp, hx, h⟩ := h
  have e : fw_c ((p : Int) * 9 + (x : Int)) = ((9 * p + x : Nat) : Int) := by rw [fw_c_id (by omega) (by omega)]; omega
  refine ⟨rfl, fun G hG => fs_ninth3_0 hG ⟨(9, 45), by decide, _, rfl, fun _ => fs_ninth3_13 hG ?_, fun z => absurd (by rw [e]; exact ⟨Int.natCast_nonneg _, by omega⟩) z⟩⟩
  rw [e, Int.toNat_natCast]
  exact h)
theorem fm_setNinth3 (hinj : nn_inj ad) : fw_H l cy ad wr cr D 37 1 sp_setNinth3 := fw_mk hinj (⟨"NameNotes$Studio", "setNinth", "(III)V"⟩, prog_8_method_14_code, 4, (Option.none : Option Jvm.ClassFile.FieldType), 3, true, 4) rfl rfl nn_KI6_ok nn_KJ6_ok nn_PF6_ok nn_PS6_ok (by decide +kernel) rfl rfl (List.forall_mem_cons.mpr ⟨fw_row nn_PM6_ok (x := 99) (k := 2) (mn := 27) (np := 3) (ob := false) (ci := 0) (⟨"NameNotes", "put", "([III)V"⟩, prog_1_method_86_code, 3, (Option.none : Option Jvm.ClassFile.FieldType), 3, false, 4) rfl (by decide +kernel) rfl rfl (by decide) (fun q => by cases q) (fm_putc hinj), (fun _ h => absurd h List.not_mem_nil)⟩) (fun as σ K h => by
  obtain ⟨p, x, k, rfl, hp, hx, h⟩ := h
  have e : fw_c ((p : Int) * 9 + (x : Int)) = ((9 * p + x : Nat) : Int) := by rw [fw_c_id (by omega) (by omega)]; omega
  refine ⟨rfl, fun G hG => fs_setNinth3_0 hG ⟨(9, 45), by decide, _, _, rfl, fun _ => fs_setNinth3_14 hG ?_, fun z => absurd (by rw [e]; exact ⟨Int.natCast_nonneg _, by omega⟩) z⟩⟩
  rw [e, Int.toNat_natCast]
  exact h)
theorem fm_keep (hinj : nn_inj ad) : fw_H l cy ad wr cr D 131 2 sp_keep := fw_mk hinj (⟨"NameNotes$Journal", "keep", "(LNameNotes$Studio;I)V"⟩, prog_5_method_2_code, 5, (Option.none : Option Jvm.ClassFile.FieldType), 2, true, 4) rfl rfl nn_KI7_ok nn_KJ7_ok nn_PF7_ok nn_PS7_ok (by decide +kernel) rfl rfl (List.forall_mem_cons.mpr ⟨fw_row nn_PM7_ok (x := 19) (k := 0) (mn := 68) (np := 2) (ob := true) (ci := 6) (⟨"NameNotes$Studio", "ninth", "(II)I"⟩, prog_8_method_13_code, 3, (Option.some Jvm.ClassFile.FieldType.int), 2, true, 0) rfl (by decide +kernel) rfl rfl (by decide) (fun _ => ⟨_, _, rfl⟩) (fm_ninth3 hinj), (List.forall_mem_cons.mpr ⟨fw_row nn_PM7_ok (x := 25) (k := 2) (mn := 27) (np := 3) (ob := false) (ci := 0) (⟨"NameNotes", "put", "([III)V"⟩, prog_1_method_86_code, 3, (Option.none : Option Jvm.ClassFile.FieldType), 3, false, 4) rfl (by decide +kernel) rfl rfl (by decide) (fun q => by cases q) (fm_putc hinj), (List.forall_mem_cons.mpr ⟨fw_row nn_PM7_ok (x := 32) (k := 2) (mn := 29) (np := 2) (ob := false) (ci := 0) (⟨"NameNotes", "at", "([II)I"⟩, prog_1_method_84_code, 2, (Option.some Jvm.ClassFile.FieldType.int), 2, false, 0) rfl (by decide +kernel) rfl rfl (by decide) (fun q => by cases q) (fm_atc hinj), (fun _ h => absurd h List.not_mem_nil)⟩)⟩)⟩) (fun as σ K h => by
  obtain ⟨p, rfl, hp, hs, h⟩ := h
  have e8 : fw_c 8 = 8 := fw_c_id (by decide) (by decide)
  have e9 : fw_c 9 = 9 := fw_c_id (by decide) (by decide)
  have e88 : fw_c ((88 : Nat) : Int) = 88 := fw_c_id (by decide) (by decide)
  have ep : fw_c (p : Int) = (p : Int) := fw_c_id (by omega) (by omega)
  have e24 : fw_c (σ 85 1) = σ 85 1 := fw_c_id (by omega) (by omega)
  refine ⟨rfl, fun G hG => fs_keep_0 hG ?_⟩
  have key2 : ∀ (n : Nat) (τ0 : ab_SG), n < 8 → τ0 85 1 = (n : Int) → (∀ σ' : ab_SG, ab_okM kj_M τ0 σ' → σ' 85 1 = (n : Int) + 1 → (∀ j : Nat, j < 11 * n → σ' 86 j = τ0 86 j) → kj_row τ0 σ' n p → K none σ') →
      ∀ (f i : Nat) (τ : ab_SG), i + f = 9 → ab_okM [(86, 1000000)] τ0 τ → (∀ j : Nat, j < 11 * n → τ 86 j = τ0 86 j) → (∀ j : Nat, j < i → τ 86 (11 * n + j) = fw_c (τ0 9 (9 * p + j))) → G 61 [some (2, 85, 0), some (2, 3, 0), some (0, 0, (p : Int)), some (0, 0, (n : Int) * 11), some (0, 0, (i : Int))] [] τ := by
    intro n τ0 hn h24 hk f
    induction f with
    | zero =>
      intro i τ hi M a1 a2
      have ei : fw_c (i : Int) = i := fw_c_id (by omega) (by omega)
      have k24 : τ 85 1 = (n : Int) := (M 85 1 (by decide)).trans h24
      have f9 : fw_c ((n : Int) * 11 + 9) = ((11 * n + 9 : Nat) : Int) := by rw [fw_c_id (by omega) (by omega)]; omega
      have f10 : fw_c ((n : Int) * 11 + 9 + 1) = ((11 * n + 10 : Nat) : Int) := by rw [fw_c_id (by omega) (by omega)]; omega
      refine fs_keep_61 hG ?_
      rw [ei, e9]
      refine ⟨fun _ => ⟨(10, 5), by decide, _, rfl, fun _ => fs_keep_108 hG ⟨(86, 88), by decide, _, _, rfl, fun _ => fs_keep_111 hG ⟨(86, 88), by decide, _, _, rfl, fun _ => fs_keep_125 hG ?_, fun z => absurd (by rw [f10]; exact ⟨Int.natCast_nonneg _, by omega⟩) z⟩, fun z => absurd (by rw [f9]; exact ⟨Int.natCast_nonneg _, by omega⟩) z⟩, fun z => absurd (by rw [ep]; exact ⟨Int.natCast_nonneg _, by omega⟩) z⟩, fun z => absurd z (by omega)⟩
      rw [f9, f10, ep, Int.toNat_natCast, Int.toNat_natCast, Int.toNat_natCast, show τ 10 = τ0 10 from fw_okM_c M (by decide)]
      rw [ab_ups_ne (k := 86) (a := 85) (fun z => absurd z.1 (by decide)), ab_ups_ne (k := 86) (a := 85) (fun z => absurd z.1 (by decide)), k24]
      refine hk _ (fw_okM_ups (fw_okM_upa (fw_okM_upa (fw_okM_tr (fw_okM_refl _ _) M (by decide)) (by decide)) (by decide)) (by decide)) (ab_ups_eq.trans (fw_c_id (by omega) (by omega))) (fun j hj => ?_) ⟨fun x hx => ?_, ?_, ?_⟩
      · rw [ab_ups_ne (fun z => absurd z.1 (by decide)), ab_ups_ne (fun z => by omega), ab_ups_ne (fun z => by omega)]; exact a1 j hj
      · rw [ab_ups_ne (fun z => absurd z.1 (by decide)), ab_ups_ne (fun z => by omega), ab_ups_ne (fun z => by omega)]; exact a2 x (by omega)
      · rw [ab_ups_ne (fun z => absurd z.1 (by decide)), ab_ups_ne (fun z => by omega), ab_ups_eq]
      · rw [ab_ups_ne (fun z => absurd z.1 (by decide)), ab_ups_eq]
    | succ f ih =>
      intro i τ hi M a1 a2
      have ei : fw_c (i : Int) = i := fw_c_id (by omega) (by omega)
      have ej : fw_c ((n : Int) * 11 + (i : Int)) = ((11 * n + i : Nat) : Int) := by rw [fw_c_id (by omega) (by omega)]; omega
      refine fs_keep_61 hG ?_
      rw [ei, e9]
      refine ⟨fun z => absurd z (by omega), fun _ => ⟨p, i, rfl, hp, by omega, fs_keep_83 hG ⟨(86, 88), by decide, _, _, rfl, fun _ => fs_keep_86 hG ?_, fun z => absurd (by rw [ej]; exact ⟨Int.natCast_nonneg _, by omega⟩) z⟩⟩⟩
      rw [ej, Int.toNat_natCast, show τ 9 = τ0 9 from fw_okM_c M (by decide)]
      refine ih (i + 1) _ (by omega) (fw_okM_upa M (by decide)) (fun j hj => ?_) (fun j hj => ?_)
      · rw [ab_ups_ne (fun z => by omega)]; exact a1 j hj
      · by_cases c : j = i
        · rw [c, ab_ups_eq]
        · rw [ab_ups_ne (fun z => by omega)]; exact a2 j (by omega)
  rw [e24, e8]
  refine ⟨fun q => ?_, fun q => ?_⟩
  · obtain ⟨n, hn⟩ := Int.eq_ofNat_of_zero_le hs.1
    refine fs_keep_50 hG ?_
    rw [hn]
    refine key2 n σ (by omega) hn (fun σ' M a b c => h σ' ⟨M, fun n' hn' _ => ?_, fun z => absurd z (by omega)⟩) 9 0 σ rfl (fw_okM_refl _ _) (fun _ _ => rfl) (fun j hj => absurd hj (Nat.not_lt_zero _))
    have : n' = n := by omega
    subst this
    exact ⟨a, b, c⟩
  · have key1 : ∀ (f i : Nat) (τ : ab_SG), i + f = 77 → ab_okM [(86, 1000000)] σ τ → (∀ j : Nat, j < i → τ 86 j = fw_c (σ 86 (j + 11))) → (∀ j : Nat, i ≤ j → τ 86 j = σ 86 j) → G 11 [some (2, 85, 0), some (2, 3, 0), some (0, 0, (p : Int)), some (0, 0, (i : Int)), none] [] τ := by
      intro f
      induction f with
      | zero =>
        intro i τ hi M a1 a2
        have ei : fw_c ((i : Int) + 11) = ((i + 11 : Nat) : Int) := by rw [fw_c_id (by omega) (by omega)]; omega
        have e7 : fw_c 7 = 7 := fw_c_id (by decide) (by decide)
        refine fs_keep_11 hG ?_
        rw [ei, e88, e7]
        refine ⟨fun _ => fs_keep_50a hG ?_, fun z => absurd z (by omega)⟩
        rw [ab_ups_eq]
        refine key2 7 _ (by decide) ab_ups_eq (fun σ' M2 a b c => h σ' ⟨?_, fun n' hn' z => absurd z (by omega), fun _ => ⟨a, fun j hj => ?_, ?_⟩⟩) 9 0 _ rfl (fw_okM_refl _ _) (fun _ _ => rfl) (fun j hj => absurd hj (Nat.not_lt_zero _))
        · exact fw_okM_tr (fw_okM_ups (fw_okM_tr (fw_okM_refl _ _) M (by decide)) (by decide)) M2 (fun _ h => h)
        · rw [b j (by omega), ab_ups_ne (fun z => absurd z.1 (by decide))]; exact a1 j (by omega)
        · obtain ⟨c1, c2, c3⟩ := c
          refine ⟨fun x hx => ?_, ?_, c3⟩
          · rw [c1 x hx, ab_ups_ne (fun z => absurd z.1 (by decide)), show τ 9 = σ 9 from fw_okM_c M (by decide)]
          · rw [c2, ab_ups_ne (fun z => absurd z.1 (by decide)), show τ 10 = σ 10 from fw_okM_c M (by decide)]
      | succ f ih =>
        intro i τ hi M a1 a2
        have ei : fw_c ((i : Int) + 11) = ((i + 11 : Nat) : Int) := by rw [fw_c_id (by omega) (by omega)]; omega
        have ej : fw_c (i : Int) = i := fw_c_id (by omega) (by omega)
        refine fs_keep_11 hG ?_
        rw [ei, ej, e88, Int.toNat_natCast, Int.toNat_natCast, a2 (i + 11) (by omega)]
        refine ⟨fun z => absurd z (by omega), fun _ => ⟨⟨Int.natCast_nonneg _, by omega⟩, ⟨Int.natCast_nonneg _, by omega⟩, trivial, ?_⟩⟩
        exact ih (i + 1) _ (by omega) (fw_okM_upa M (by decide)) (fun j hj => by
          by_cases c : j = i
          · rw [c, ab_ups_eq]
          · rw [ab_ups_ne (fun z => by omega)]; exact a1 j (by omega)) (fun j hj => by rw [ab_ups_ne (fun z => by omega)]; exact a2 j (by omega))
    exact key1 77 0 σ rfl (fw_okM_refl _ _) (fun j hj => absurd hj (Nat.not_lt_zero _)) (fun _ _ => rfl))
theorem fm_takeBack (hinj : nn_inj ad) : fw_H l cy ad wr cr D 134 2 sp_takeBack := fw_mk hinj (⟨"NameNotes$Journal", "takeBack", "(LNameNotes$Studio;)V"⟩, prog_5_method_3_code, 5, (Option.none : Option Jvm.ClassFile.FieldType), 1, true, 4) rfl rfl nn_KI7_ok nn_KJ7_ok nn_PF7_ok nn_PS7_ok (by decide +kernel) rfl rfl (List.forall_mem_cons.mpr ⟨fw_row nn_PM7_ok (x := 25) (k := 2) (mn := 27) (np := 3) (ob := false) (ci := 0) (⟨"NameNotes", "put", "([III)V"⟩, prog_1_method_86_code, 3, (Option.none : Option Jvm.ClassFile.FieldType), 3, false, 4) rfl (by decide +kernel) rfl rfl (by decide) (fun q => by cases q) (fm_putc hinj), (List.forall_mem_cons.mpr ⟨fw_row nn_PM7_ok (x := 32) (k := 2) (mn := 29) (np := 2) (ob := false) (ci := 0) (⟨"NameNotes", "at", "([II)I"⟩, prog_1_method_84_code, 2, (Option.some Jvm.ClassFile.FieldType.int), 2, false, 0) rfl (by decide +kernel) rfl rfl (by decide) (fun q => by cases q) (fm_atc hinj), (List.forall_mem_cons.mpr ⟨fw_row nn_PM7_ok (x := 36) (k := 0) (mn := 37) (np := 3) (ob := true) (ci := 6) (⟨"NameNotes$Studio", "setNinth", "(III)V"⟩, prog_8_method_14_code, 4, (Option.none : Option Jvm.ClassFile.FieldType), 3, true, 4) rfl (by decide +kernel) rfl rfl (by decide) (fun _ => ⟨_, _, rfl⟩) (fm_setNinth3 hinj), (fun _ h => absurd h List.not_mem_nil)⟩)⟩)⟩) (fun as σ K h => by
  obtain ⟨rfl, n, p, h1, hn, hp, h2, h⟩ := h
  have e9 : fw_c 9 = 9 := fw_c_id (by decide) (by decide)
  have ep : fw_c (p : Int) = (p : Int) := fw_c_id (by omega) (by omega)
  have en : fw_c (σ 85 1 - 1) = (n : Int) := by rw [h1, fw_c_id (by omega) (by omega)]; omega
  have f10 : fw_c ((n : Int) * 11 + 9 + 1) = ((11 * n + 10 : Nat) : Int) := by rw [fw_c_id (by omega) (by omega)]; omega
  have f9 : fw_c ((n : Int) * 11 + 9) = ((11 * n + 9 : Nat) : Int) := by rw [fw_c_id (by omega) (by omega)]; omega
  have key : ∀ (G : fw_K), fw_cls st_takeBack K G → ∀ (f i : Nat) (τ : ab_SG), i + f = 9 → ab_okM tk_M σ τ → τ 85 1 = (n : Int) → (∀ j : Nat, (j < 9 * p ∨ 9 * p + i ≤ j) → τ 9 j = σ 9 j) → (∀ x : Nat, x < i → τ 9 (9 * p + x) = fw_c (σ 86 (11 * n + x))) → τ 10 = σ 10 → τ 86 = σ 86 → G 35 [some (2, 85, 0), some (2, 3, 0), some (0, 0, (n : Int) * 11), some (0, 0, (p : Int)), some (0, 0, (i : Int))] [] τ := by
    intro G hG f
    induction f with
    | zero =>
      intro i τ hi M k1 a1 a2 a3 a4
      have ei : fw_c (i : Int) = i := fw_c_id (by omega) (by omega)
      refine fs_takeBack_35 hG ?_
      rw [ei, e9]
      refine ⟨fun _ => ⟨(86, 88), by decide, _, rfl, fun _ => fs_takeBack_82 hG ⟨(10, 5), by decide, _, _, rfl, fun _ => fs_takeBack_85 hG ?_, fun z => absurd (by rw [ep]; exact ⟨Int.natCast_nonneg _, by omega⟩) z⟩, fun z => absurd (by rw [f9]; exact ⟨Int.natCast_nonneg _, by omega⟩) z⟩, fun z => absurd z (by omega)⟩
      rw [f9, ep, Int.toNat_natCast, Int.toNat_natCast, a4]
      refine h _ ⟨fw_okM_upa M (by decide), ?_, fun j hj => ?_, fun x hx => ?_, ab_ups_eq, fun j hj => ?_⟩
      · rw [ab_ups_ne (fun z => absurd z.1 (by decide))]; exact k1
      · rw [ab_ups_ne (fun z => absurd z.1 (by decide))]; exact a1 j (by omega)
      · rw [ab_ups_ne (fun z => absurd z.1 (by decide))]; exact a2 x (by omega)
      · rw [ab_ups_ne (fun z => hj z.2), a3]
    | succ f ih =>
      intro i τ hi M k1 a1 a2 a3 a4
      have ei : fw_c (i : Int) = i := fw_c_id (by omega) (by omega)
      have ej : fw_c ((n : Int) * 11 + (i : Int)) = ((11 * n + i : Nat) : Int) := by rw [fw_c_id (by omega) (by omega)]; omega
      refine fs_takeBack_35 hG ?_
      rw [ei, e9]
      refine ⟨fun z => absurd z (by omega), fun _ => ⟨(86, 88), by decide, _, rfl, fun _ => fs_takeBack_57 hG ⟨p, i, _, rfl, hp, by omega, fs_takeBack_60 hG ?_⟩, fun z => absurd (by rw [ej]; exact ⟨Int.natCast_nonneg _, by omega⟩) z⟩⟩
      rw [ej, Int.toNat_natCast, a4]
      refine ih (i + 1) _ (by omega) (fw_okM_upa M (by decide)) ?_ (fun j hj => ?_) (fun x hx => ?_) ?_ ?_
      · rw [ab_ups_ne (fun z => absurd z.1 (by decide))]; exact k1
      · rw [ab_ups_ne (fun z => by omega)]; exact a1 j (by omega)
      · by_cases c : x = i
        · rw [c, ab_ups_eq]
        · rw [ab_ups_ne (fun z => by omega)]; exact a2 x (by omega)
      · rw [ab_ups_row (by decide)]; exact a3
      · rw [ab_ups_row (by decide)]; exact a4
  refine ⟨rfl, fun G hG => fs_takeBack_0 hG ?_⟩
  rw [en]
  refine ⟨(86, 88), by decide, _, rfl, fun _ => fs_takeBack_31 hG ?_, fun z => absurd (by rw [f10]; exact ⟨Int.natCast_nonneg _, by omega⟩) z⟩
  rw [f10, Int.toNat_natCast, show ab_ups σ 85 1 (n : Int) 86 (11 * n + 10) = (p : Int) from (ab_ups_ne (fun z => absurd z.1 (by decide))).trans h2]
  exact key G hG 9 0 _ rfl (fw_okM_ups (fw_okM_refl _ _) (by decide)) ab_ups_eq (fun j _ => ab_ups_ne (fun z => absurd z.1 (by decide))) (fun j hj => absurd hj (Nat.not_lt_zero _)) (ab_ups_row (by decide)) (ab_ups_row (by decide)))
theorem fm_undo (hinj : nn_inj ad) : fw_H l cy ad wr cr D 133 3 sp_undo := fw_mk hinj (⟨"NameNotes", "undo", "()I"⟩, prog_1_method_34_code, 1, (Option.some Jvm.ClassFile.FieldType.int), 0, true, 0) rfl rfl nn_KI1_ok nn_KJ1_ok nn_PF1_ok nn_PS1_ok (by decide +kernel) rfl rfl (List.forall_mem_cons.mpr ⟨fw_row nn_PM1_ok (x := 350) (k := 0) (mn := 134) (np := 1) (ob := true) (ci := 3) (⟨"NameNotes$Journal", "takeBack", "(LNameNotes$Studio;)V"⟩, prog_5_method_3_code, 5, (Option.none : Option Jvm.ClassFile.FieldType), 1, true, 4) rfl (by decide +kernel) rfl rfl (by decide) (fun _ => ⟨_, _, rfl⟩) (fm_takeBack hinj), (fun _ h => absurd h List.not_mem_nil)⟩) (fun as σ K h => by
  obtain ⟨rfl, hs, h0, h1⟩ := h
  refine ⟨rfl, fun G hG => fs_undo_0 hG ?_⟩
  rw [fw_c1, fw_c_id (x := σ 85 1) (by omega) (by omega)]
  refine ⟨fun q => ?_, fun q => h0 (by omega)⟩
  obtain ⟨n, p, a, hp, b, c⟩ := h1 (by omega)
  exact ⟨rfl, n, p, a, by omega, hp, b, fun σ' t => fs_undo_24 hG (by rw [t.2.1]; exact c σ' t)⟩)
theorem fm_teach (hinj : nn_inj ad) : fw_H l cy ad wr cr D 130 3 sp_teach := fw_mk hinj (⟨"NameNotes", "teach", "(III)Z"⟩, prog_1_method_32_code, 4, (Option.some Jvm.ClassFile.FieldType.boolean), 3, true, 1) rfl rfl nn_KI1_ok nn_KJ1_ok nn_PF1_ok nn_PS1_ok (by decide +kernel) rfl rfl (List.forall_mem_cons.mpr ⟨fw_row nn_PM1_ok (x := 157) (k := 0) (mn := 46) (np := 1) (ob := true) (ci := 6) (⟨"NameNotes$Studio", "isTune", "(I)Z"⟩, prog_8_method_4_code, 2, (Option.some Jvm.ClassFile.FieldType.boolean), 1, true, 1) rfl (by decide +kernel) rfl rfl (by decide) (fun _ => ⟨_, _, rfl⟩) (fm_isTune3 hinj), (List.forall_mem_cons.mpr ⟨fw_row nn_PM1_ok (x := 173) (k := 0) (mn := 67) (np := 1) (ob := true) (ci := 6) (⟨"NameNotes$Studio", "isPerson", "(I)Z"⟩, prog_8_method_6_code, 2, (Option.some Jvm.ClassFile.FieldType.boolean), 1, true, 1) rfl (by decide +kernel) rfl rfl (by decide) (fun _ => ⟨_, _, rfl⟩) (fm_isPerson3 hinj), (List.forall_mem_cons.mpr ⟨fw_row nn_PM1_ok (x := 176) (k := 0) (mn := 68) (np := 2) (ob := true) (ci := 6) (⟨"NameNotes$Studio", "ninth", "(II)I"⟩, prog_8_method_13_code, 3, (Option.some Jvm.ClassFile.FieldType.int), 2, true, 0) rfl (by decide +kernel) rfl rfl (by decide) (fun _ => ⟨_, _, rfl⟩) (fm_ninth3 hinj), (List.forall_mem_cons.mpr ⟨fw_row nn_PM1_ok (x := 232) (k := 0) (mn := 81) (np := 1) (ob := false) (ci := 0) (⟨"NameNotes", "isNinth", "(I)Z"⟩, prog_1_method_75_code, 1, (Option.some Jvm.ClassFile.FieldType.boolean), 1, false, 1) rfl (by decide +kernel) rfl rfl (by decide) (fun q => by cases q) (fm_isNinth hinj), (List.forall_mem_cons.mpr ⟨fw_row nn_PM1_ok (x := 339) (k := 0) (mn := 131) (np := 2) (ob := true) (ci := 3) (⟨"NameNotes$Journal", "keep", "(LNameNotes$Studio;I)V"⟩, prog_5_method_2_code, 5, (Option.none : Option Jvm.ClassFile.FieldType), 2, true, 4) rfl (by decide +kernel) rfl rfl (by decide) (fun _ => ⟨_, _, rfl⟩) (fm_keep hinj), (List.forall_mem_cons.mpr ⟨fw_row nn_PM1_ok (x := 343) (k := 0) (mn := 37) (np := 3) (ob := true) (ci := 6) (⟨"NameNotes$Studio", "setNinth", "(III)V"⟩, prog_8_method_14_code, 4, (Option.none : Option Jvm.ClassFile.FieldType), 3, true, 4) rfl (by decide +kernel) rfl rfl (by decide) (fun _ => ⟨_, _, rfl⟩) (fm_setNinth3 hinj), (fun _ h => absurd h List.not_mem_nil)⟩)⟩)⟩)⟩)⟩)⟩) (fun as σ K h => by
  obtain ⟨p, x, k, rfl, ⟨ep, ex, ek⟩, ⟨w0, w2, w24⟩, h0, h1⟩ := h
  refine ⟨rfl, fun G hG => fs_teach_0 hG ⟨p, rfl, fs_teach_8 hG ?_⟩⟩
  refine ⟨fun q => ⟨fw_01, h0 (fun z => absurd (z.1.symm.trans (m_b_eq q)) (by decide))⟩, fun q => ⟨x, rfl, fs_teach_19 hG ?_⟩⟩
  have qp := m_b_ne q
  refine ⟨fun q => ⟨fw_01, h0 (fun z => absurd (z.2.1.symm.trans (m_b_eq q)) (by decide))⟩, fun q => ⟨k, rfl, fs_teach_26 hG ?_⟩⟩
  have qx := m_b_ne q
  rw [ek]
  refine ⟨fun q => ⟨fw_01, h0 (fun z => m_bf (m_b_eq q) z.2.2)⟩, fun q => ?_⟩
  have qk := m_bt (m_b_ne q)
  have p1 := c_pe_t qp
  have x1 := c_tu_t qx
  rw [ep, fw_c_id (x := σ 3 13) (by omega) (by omega)] at p1
  rw [ex, fw_c_id (x := σ 3 11) (by omega) (by omega)] at x1
  obtain ⟨p', rfl⟩ := Int.eq_ofNat_of_zero_le p1.1
  obtain ⟨x', rfl⟩ := Int.eq_ofNat_of_zero_le x1.1
  have hh := h1 p' x' rfl rfl qp qx qk
  refine ⟨p', x', rfl, by omega, by omega, fs_teach_38 hG ?_⟩
  rw [ek]
  refine ⟨fun q => ⟨p', rfl, by omega, w24, fun σ1 hs => fs_teach_56 hG ⟨p', x', k, rfl, by omega, by omega, fs_teach_66 hG ⟨by rw [fw_c1]; decide, hh.2 q _ ⟨σ1, hs, rfl⟩⟩⟩⟩, fun q => ⟨fw_01, hh.1 q⟩⟩)
theorem fm_dares (hinj : nn_inj ad) : fw_H l cy ad wr cr D 132 3 sp_dares := fw_mk hinj (⟨"NameNotes", "dares", "(II)Z"⟩, prog_1_method_33_code, 3, (Option.some Jvm.ClassFile.FieldType.boolean), 2, true, 1) rfl rfl nn_KI1_ok nn_KJ1_ok nn_PF1_ok nn_PS1_ok (by decide +kernel) rfl rfl (List.forall_mem_cons.mpr ⟨fw_row nn_PM1_ok (x := 173) (k := 0) (mn := 67) (np := 1) (ob := true) (ci := 6) (⟨"NameNotes$Studio", "isPerson", "(I)Z"⟩, prog_8_method_6_code, 2, (Option.some Jvm.ClassFile.FieldType.boolean), 1, true, 1) rfl (by decide +kernel) rfl rfl (by decide) (fun _ => ⟨_, _, rfl⟩) (fm_isPerson3 hinj), (List.forall_mem_cons.mpr ⟨fw_row nn_PM1_ok (x := 180) (k := 0) (mn := 29) (np := 2) (ob := false) (ci := 0) (⟨"NameNotes", "at", "([II)I"⟩, prog_1_method_84_code, 2, (Option.some Jvm.ClassFile.FieldType.int), 2, false, 0) rfl (by decide +kernel) rfl rfl (by decide) (fun q => by cases q) (fm_atc hinj), (List.forall_mem_cons.mpr ⟨fw_row nn_PM1_ok (x := 232) (k := 0) (mn := 81) (np := 1) (ob := false) (ci := 0) (⟨"NameNotes", "isNinth", "(I)Z"⟩, prog_1_method_75_code, 1, (Option.some Jvm.ClassFile.FieldType.boolean), 1, false, 1) rfl (by decide +kernel) rfl rfl (by decide) (fun q => by cases q) (fm_isNinth hinj), (List.forall_mem_cons.mpr ⟨fw_row nn_PM1_ok (x := 339) (k := 0) (mn := 131) (np := 2) (ob := true) (ci := 3) (⟨"NameNotes$Journal", "keep", "(LNameNotes$Studio;I)V"⟩, prog_5_method_2_code, 5, (Option.none : Option Jvm.ClassFile.FieldType), 2, true, 4) rfl (by decide +kernel) rfl rfl (by decide) (fun _ => ⟨_, _, rfl⟩) (fm_keep hinj), (List.forall_mem_cons.mpr ⟨fw_row nn_PM1_ok (x := 346) (k := 0) (mn := 27) (np := 3) (ob := false) (ci := 0) (⟨"NameNotes", "put", "([III)V"⟩, prog_1_method_86_code, 3, (Option.none : Option Jvm.ClassFile.FieldType), 3, false, 4) rfl (by decide +kernel) rfl rfl (by decide) (fun q => by cases q) (fm_putc hinj), (fun _ h => absurd h List.not_mem_nil)⟩)⟩)⟩)⟩)⟩) (fun as σ K h => by
  obtain ⟨p, k, rfl, ⟨ep, ek⟩, ⟨w0, w2, w24⟩, h0, h1⟩ := h
  refine ⟨rfl, fun G hG => fs_dares_0 hG ⟨p, rfl, fs_dares_8 hG ?_⟩⟩
  refine ⟨fun q => ⟨fw_01, h0 (fun z => absurd (z.1.symm.trans (m_b_eq q)) (by decide))⟩, fun q => ⟨k, rfl, fs_dares_15 hG ?_⟩⟩
  have qp := m_b_ne q
  rw [ek]
  refine ⟨fun q => ⟨fw_01, h0 (fun z => m_bf (m_b_eq q) z.2)⟩, fun q => ?_⟩
  have qk := m_bt (m_b_ne q)
  have p1 := c_pe_t qp
  rw [ep, fw_c_id (x := σ 3 13) (by omega) (by omega)] at p1
  obtain ⟨p', rfl⟩ := Int.eq_ofNat_of_zero_le p1.1
  have hh := h1 p' rfl qp qk
  refine ⟨(10, 5), by decide, _, rfl, fun _ => fs_dares_29 hG ?_, fun z => absurd (by rw [ep]; exact ⟨p1.1, by omega⟩) z⟩
  rw [ek, ep, Int.toNat_natCast]
  refine ⟨fun q => ⟨p', rfl, by omega, w24, fun σ1 hs => fs_dares_47 hG ⟨(10, 5), by decide, _, _, rfl, fun _ => fs_dares_59 hG ⟨by rw [fw_c1]; decide, ?_⟩, fun z => absurd (by rw [ep]; exact ⟨p1.1, by omega⟩) z⟩⟩, fun q => ⟨fw_01, hh.1 q⟩⟩
  rw [ep, Int.toNat_natCast]
  exact hh.2 q _ ⟨σ1, hs, rfl⟩)
end
