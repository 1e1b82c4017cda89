section
/-! the reference's lines: a tune -/
def rn_n (n m : Int) (σ A : ab_SG) : Prop := σ 96 0 = n ∧ σ 96 1 = m ∧ σ 96 2 = A 49 13 ∧ rn_k σ A 0 57 n ∧ rn_k σ A 9 58 m ∧ rn_k σ A 15 59 (A 49 13)
def rs_n (n m : Int) (σ A : ab_SG) : Prop := σ 96 3 = A 49 14 ∧ (∀ x : Nat, (x : Int) < n → σ 96 (5 + 19 * x) = A 52 x ∧ ∀ i : Nat, (i : Int) < A 52 x → σ 96 (6 + 19 * x + 2 * i) = A 50 (x * 9 + i) ∧ σ 96 (7 + 19 * x + 2 * i) = A 51 (x * 9 + i)) ∧
  (∀ c : Nat, (c : Int) < m → σ 96 (176 + c) = A 54 c) ∧ (∀ j : Nat, j < 45 → σ 96 (182 + j) = A 55 j) ∧ (∀ j : Nat, (j : Int) < A 49 13 → σ 96 (227 + j) = A 56 j) ∧ (∀ j : Nat, j < 5 → A 49 13 ≤ (j : Int) → A 56 j = 5) ∧
  (∀ j : Nat, j < 5 → σ 103 j = A 64 j) ∧ σ 93 25 = A 48 3 ∧ σ 93 26 = A 48 4
theorem rn_n_of {σ A : ab_SG} (h : rn_is σ A) : rn_n (A 49 11) (A 49 12) σ A := ⟨h.1.1, h.2.1.1, h.2.2.1.1, h.2.2.2.1, h.2.2.2.2.1, h.2.2.2.2.2⟩
theorem rn_n_is {σ A : ab_SG} (hi : RI A) (h : rn_n (A 49 11) (A 49 12) σ A) : rn_is σ A := ⟨⟨h.1, hi.1⟩, ⟨h.2.1, hi.2.1⟩, ⟨h.2.2.1, hi.2.2.1⟩, h.2.2.2.1, h.2.2.2.2.1, h.2.2.2.2.2⟩
theorem rs_n_of {σ A : ab_SG} (h : rs_is σ A) : rs_n (A 49 11) (A 49 12) σ A := h
/-- numbers and a name set that no row told speaks of -/
theorem rm_cong {n m : Int} {σ σ' A A' : ab_SG} {u v w : Nat} (hn : 0 ≤ n ∧ n ≤ 9) (hm : 0 ≤ m ∧ m ≤ 6) (hp : 0 ≤ A 49 13 ∧ A 49 13 ≤ 5) (h52 : ∀ j : Nat, j < 9 → 0 ≤ A 52 j ∧ A 52 j ≤ 9) (hu : 5 + 19 * n ≤ (u : Int)) (hv : v ≤ 182) (huv : (v : Int) ≤ 176 ∨ 176 + m ≤ (u : Int)) (hw : (n ≤ (w : Int) ∨ 9 ≤ w) ∧ (w < 9 ∨ 9 + m ≤ (w : Int)) ∧ w < 15)
    (s96 : ∀ j : Nat, (j < u ∨ v ≤ j) → σ' 96 j = σ 96 j) (s100 : ∀ j : Nat, j ≠ w → σ' 100 j = σ 100 j) (s103 : σ' 103 = σ 103) (s25 : σ' 93 25 = σ 93 25) (s26 : σ' 93 26 = σ 93 26)
    (a : ∀ k j : Nat, (k = 49 → j ≠ 11 ∧ j ≠ 12) → (k = 50 ∨ k = 51 → (j : Int) < 9 * n) → (k = 52 ∨ k = 57 → (j : Int) < n) → (k = 54 ∨ k = 58 → (j : Int) < m) → A' k j = A k j)
    (h : rn_n n m σ A ∧ rs_n n m σ A) : rn_n n m σ' A' ∧ rs_n n m σ' A' := by
  obtain ⟨⟨c0, c1, c2, r57, r58, r59⟩, r1, r2, r3, r4, r5, r6, r7, r8, r9⟩ := h
  have a13 : A' 49 13 = A 49 13 := a 49 13 (fun _ => by decide) (fun q => by omega) (fun q => by omega) (fun q => by omega)
  have a14 : A' 49 14 = A 49 14 := a 49 14 (fun _ => by decide) (fun q => by omega) (fun q => by omega) (fun q => by omega)
  have ak : ∀ k j : Nat, k ≠ 49 → k ≠ 50 → k ≠ 51 → k ≠ 52 → k ≠ 54 → k ≠ 57 → k ≠ 58 → A' k j = A k j := fun k j q1 q2 q3 q4 q5 q6 q7 => a k j (fun q => absurd q q1) (fun q => by omega) (fun q => by omega) (fun q => by omega)
  refine ⟨⟨(s96 0 (Or.inl (by omega))).trans c0, (s96 1 (Or.inl (by omega))).trans c1, ((s96 2 (Or.inl (by omega))).trans c2).trans a13.symm, fun j hj => ?_, fun j hj => ?_, fun j hj => ?_⟩, ?_, fun x hx => ?_, fun c hc => ?_, fun j hj => ?_, fun j hj => ?_, fun j hj hj2 => ?_, fun j hj => ?_, ?_, ?_⟩
  · rw [a 57 j (fun q => absurd q (by decide)) (fun q => by omega) (fun _ => hj) (fun q => by omega), s100 _ (by omega)]; exact r57 j hj
  · rw [a 58 j (fun q => absurd q (by decide)) (fun q => by omega) (fun q => by omega) (fun _ => hj), s100 _ (by omega)]; exact r58 j hj
  · rw [a13] at hj
    rw [ak 59 j (by decide) (by decide) (by decide) (by decide) (by decide) (by decide) (by decide), s100 _ (by omega)]; exact r59 j hj
  · rw [a14, s96 3 (Or.inl (by omega))]; exact r1
  · have h52x := h52 x (by omega)
    have e52 : A' 52 x = A 52 x := a 52 x (fun q => absurd q (by decide)) (fun q => by omega) (fun _ => hx) (fun q => by omega)
    rw [e52, s96 _ (Or.inl (by omega))]
    refine ⟨(r2 x hx).1, fun i hi => ?_⟩
    rw [a 50 (x * 9 + i) (fun q => absurd q (by decide)) (fun _ => by omega) (fun q => by omega) (fun q => by omega), a 51 (x * 9 + i) (fun q => absurd q (by decide)) (fun _ => by omega) (fun q => by omega) (fun q => by omega), s96 _ (Or.inl (by omega)), s96 _ (Or.inl (by omega))]
    exact (r2 x hx).2 i hi
  · rw [a 54 c (fun q => absurd q (by decide)) (fun q => by omega) (fun q => by omega) (fun _ => hc), s96 _ (by omega)]; exact r3 c hc
  · rw [ak 55 j (by decide) (by decide) (by decide) (by decide) (by decide) (by decide) (by decide), s96 _ (by omega)]; exact r4 j hj
  · rw [a13] at hj
    rw [ak 56 j (by decide) (by decide) (by decide) (by decide) (by decide) (by decide) (by decide), s96 _ (by omega)]; exact r5 j hj
  · rw [a13] at hj2
    rw [ak 56 j (by decide) (by decide) (by decide) (by decide) (by decide) (by decide) (by decide)]; exact r6 j hj hj2
  · rw [ak 64 j (by decide) (by decide) (by decide) (by decide) (by decide) (by decide) (by decide), s103]; exact r7 j hj
  · rw [ak 48 3 (by decide) (by decide) (by decide) (by decide) (by decide) (by decide) (by decide), s25]; exact r8
  · rw [ak 48 4 (by decide) (by decide) (by decide) (by decide) (by decide) (by decide) (by decide), s26]; exact r9
/-- the reference is at a tune's notes -/
def RT (σ A : ab_SG) (x : Nat) (e : tk_E) (p : Nat) : Prop := mt_is σ e p ∧ RI A ∧ A 49 11 = (x : Int) + 1 ∧ (rn_n (x : Int) (A 49 12) σ A ∧ rs_n (x : Int) (A 49 12) σ A) ∧ rf_ok 7 (A 57 x) ∧ σ 100 x = rf_w 7 (A 57 x) ∧ σ 96 (5 + 19 * x) = A 52 x ∧
  ∀ i : Nat, (i : Int) < A 52 x → σ 96 (6 + 19 * x + 2 * i) = A 50 (x * 9 + i) ∧ σ 96 (7 + 19 * x + 2 * i) = A 51 (x * 9 + i)
theorem RT_end {σ A : ab_SG} {x : Nat} {e : tk_E} {p : Nat} (hx : x < 9) (h : RT σ A x e p) : RM (ab_ups σ 96 0 ((x : Int) + 1)) A e p := by
  obtain ⟨hm, hi, ex, ⟨⟨c0, c1, c2, r57, r58, r59⟩, r1, r2, r3, r4, r5, r6, r7, r8, r9⟩, ok, hnm, hb, hrow⟩ := h
  have hi2 := hi.2.1
  have hi3 := hi.2.2.1
  have s96 : ∀ j : Nat, j ≠ 0 → ab_ups σ 96 0 ((x : Int) + 1) 96 j = σ 96 j := fun j hj => ab_ups_ne (fun z => hj z.2)
  have s100 : ab_ups σ 96 0 ((x : Int) + 1) 100 = σ 100 := ab_ups_row (by decide)
  refine ⟨mt_ups hm (Or.inl ⟨by decide, by decide⟩), hi, rn_n_is hi ⟨?_, ?_, ?_, ?_, rn_k_M r58 s100, rn_k_M r59 s100⟩, ?_, fun y hy => ?_, fun c hc => ?_, fun j hj => ?_, fun j hj => ?_, r6, fun j hj => ?_, ?_, ?_⟩
  · rw [ab_ups_eq, ex]
  · rw [s96 1 (by decide)]; exact c1
  · rw [s96 2 (by decide)]; exact c2
  · intro j hj
    rw [ex] at hj
    rw [s100]
    by_cases c : j = x
    · rw [c, Nat.zero_add]; exact ⟨ok, hnm⟩
    · exact r57 j (by omega)
  · rw [s96 3 (by decide)]; exact r1
  · rw [ex] at hy
    rw [s96 _ (by omega)]
    by_cases c : y = x
    · rw [c]
      refine ⟨hb, fun i hi2 => ?_⟩
      rw [s96 _ (by omega), s96 _ (by omega)]; exact hrow i hi2
    · refine ⟨(r2 y (by omega)).1, fun i hi2 => ?_⟩
      rw [s96 _ (by omega), s96 _ (by omega)]; exact (r2 y (by omega)).2 i hi2
  · rw [s96 _ (by omega)]; exact r3 c hc
  · rw [s96 _ (by omega)]; exact r4 j hj
  · rw [s96 _ (by omega)]; exact r5 j hj
  · rw [ab_ups_ne (fun z => absurd z.1 (by decide))]; exact r7 j hj
  · rw [ab_ups_ne (fun z => absurd z.1 (by decide))]; exact r8
  · rw [ab_ups_ne (fun z => absurd z.1 (by decide))]; exact r9
theorem pr_nm_k {e : tk_E} {p : Nat} {a b : Int} (q : pr_nm e p a b = 0) : (tk e p).1 = 3 := by
  unfold pr_nm at q
  by_cases y : (tk e p).1 = 3
  · exact y
  · rw [if_neg y] at q
    exact absurd q (by decide)
def sp_m_readTune : fw_SP := fun as σ K => ∃ (A : ab_SG) (e : tk_E) (p : Nat), as = [(2, 93, 0)] ∧ RM σ A e p ∧ (tk e p).1 = 2 ∧ md_post σ (pr_tune A e p) e K
abbrev fk_m_readTune : List fw_CR := [(168, 1, true, 11, 0, sp_m_bad), (178, 2, true, 11, 1, sp_m_isNumber), (182, 0, true, 11, 1, sp_m_go), (207, 1, true, 11, 3, sp_m_readNew), (210, 2, true, 11, 2, sp_m_readNumber)]
abbrev st_m_readTune : fw_K → fw_KR → fw_K := fw_st vwCl nn_sh nn_kd fw_kv fw_wc (nn_KI20.map (fun x => x.1)) (nn_KJ20.map (fun x => x.1)) (nn_PF20.map (fun x => x.1)) (nn_PS20.map (fun x => x.1)) fk_m_readTune 4 nn_dt220 3 1
theorem fs_m_readTune_0 {G : fw_K} {R : fw_KR} (hG : fw_cls st_m_readTune R G) {σ : ab_SG} (h : (0 ≤ fw_c 0 ∧ fw_c 0 < ((232 : Nat) : Int)) ∧ ((fw_c (σ 96 (fw_c 0).toNat) ≠ fw_c 9 → sp_m_go [(2, 93, 0)] σ (fun rv σ2 => G 23 [some (2, 93, 0), some (0, 0, σ 96 (fw_c 0).toNat), none] (rv.toList ++ []) σ2)) ∧ (fw_c (σ 96 (fw_c 0).toNat) = fw_c 9 → sp_m_bad [(2, 93, 0), (0, 0, 4)] σ (fun rv σ2 => G 18 [some (2, 93, 0), some (0, 0, σ 96 (fw_c 0).toNat), none] (rv.toList ++ []) σ2)))) : G 0 [some (2, 93, 0), none, none] [] σ := fw_on hG [18, 23, 28, 47, 64, 71, 92, 118, 125] 200 h
theorem fs_m_readTune_23 {G : fw_K} {R : fw_KR} (hG : fw_cls st_m_readTune R G) {a1 : Int} {σ : ab_SG} (h : sp_m_readNew [(2, 93, 0), (0, 0, a1)] σ (fun rv σ2 => G 28 [some (2, 93, 0), some (0, 0, a1), none] (rv.toList ++ []) σ2)) : G 23 [some (2, 93, 0), some (0, 0, a1), none] [] σ := fw_on hG [18, 23, 28, 47, 64, 71, 92, 118, 125] 200 h
theorem fs_m_readTune_18 {G : fw_K} {R : fw_KR} (hG : fw_cls st_m_readTune R G) {a1 b0 : Int} {σ : ab_SG} (h : (0 ≤ fw_c b0 ∧ fw_c b0 ≤ 1) ∧ R (some (0, 0, b0)) σ) : G 18 [some (2, 93, 0), some (0, 0, a1), none] [(0, 0, b0)] σ := fw_on hG [18, 23, 28, 47, 64, 71, 92, 118, 125] 200 h
theorem fs_m_readTune_28 {G : fw_K} {R : fw_KR} (hG : fw_cls st_m_readTune R G) {a1 b0 : Int} {σ : ab_SG} (h : (fw_c b0 ≠ 0 → (0 ≤ fw_c (5 + (19 * a1)) ∧ fw_c (5 + (19 * a1)) < ((232 : Nat) : Int)) ∧ True ∧ (G 47 [some (2, 93, 0), some (0, 0, a1), some (0, 0, 5 + (19 * a1))] [] (ab_ups σ 96 (fw_c (5 + (19 * a1))).toNat (fw_c 0)))) ∧ (fw_c b0 = 0 → (0 ≤ fw_c 0 ∧ fw_c 0 ≤ 1) ∧ R (some (0, 0, 0)) σ)) : G 28 [some (2, 93, 0), some (0, 0, a1), none] [(0, 0, b0)] σ := fw_on hG [18, 23, 28, 47, 64, 71, 92, 118, 125] 200 h
theorem fs_m_readTune_47 {G : fw_K} {R : fw_KR} (hG : fw_cls st_m_readTune R G) {a1 a2 : Int} {σ : ab_SG} (h : (0 ≤ fw_c a2 ∧ fw_c a2 < ((232 : Nat) : Int)) ∧ ((fw_c (σ 96 (fw_c a2).toNat) = 0 → G 64 [some (2, 93, 0), some (0, 0, a1), some (0, 0, a2)] [] σ) ∧ (fw_c (σ 96 (fw_c a2).toNat) ≠ 0 → (fw_c (σ 93 7) ≠ fw_c 3 → (0 ≤ fw_c 0 ∧ fw_c 0 < ((232 : Nat) : Int)) ∧ ((0 ≤ fw_c 0 ∧ fw_c 0 < ((232 : Nat) : Int)) ∧ True ∧ ((0 ≤ fw_c 1 ∧ fw_c 1 ≤ 1) ∧ R (some (0, 0, 1)) (ab_ups σ 96 (fw_c 0).toNat (fw_c ((σ 96 (fw_c 0).toNat) + 1)))))) ∧ (fw_c (σ 93 7) = fw_c 3 → G 64 [some (2, 93, 0), some (0, 0, a1), some (0, 0, a2)] [] σ)))) : G 47 [some (2, 93, 0), some (0, 0, a1), some (0, 0, a2)] [] σ := fw_on hG [18, 23, 28, 47, 64, 71, 92, 118, 125] 200 h
theorem fs_m_readTune_64 {G : fw_K} {R : fw_KR} (hG : fw_cls st_m_readTune R G) {a1 a2 : Int} {σ : ab_SG} (h : sp_m_isNumber [(2, 93, 0), (0, 0, 0), (0, 0, 24)] σ (fun rv σ2 => G 71 [some (2, 93, 0), some (0, 0, a1), some (0, 0, a2)] (rv.toList ++ []) σ2)) : G 64 [some (2, 93, 0), some (0, 0, a1), some (0, 0, a2)] [] σ := fw_on hG [18, 23, 28, 47, 64, 71, 92, 118, 125] 200 h
theorem fs_m_readTune_71 {G : fw_K} {R : fw_KR} (hG : fw_cls st_m_readTune R G) {a1 a2 b0 : Int} {σ : ab_SG} (h : (fw_c b0 ≠ 0 → (0 ≤ fw_c a2 ∧ fw_c a2 < ((232 : Nat) : Int)) ∧ ((fw_c (σ 96 (fw_c a2).toNat) ≠ fw_c 9 → (0 ≤ fw_c a2 ∧ fw_c a2 < ((232 : Nat) : Int)) ∧ ((0 ≤ fw_c ((a2 + 1) + (2 * (σ 96 (fw_c a2).toNat))) ∧ fw_c ((a2 + 1) + (2 * (σ 96 (fw_c a2).toNat))) < ((232 : Nat) : Int)) ∧ True ∧ (sp_m_go [(2, 93, 0)] (ab_ups σ 96 (fw_c ((a2 + 1) + (2 * (σ 96 (fw_c a2).toNat)))).toNat (fw_c (σ 93 13))) (fun rv σ2 => G 118 [some (2, 93, 0), some (0, 0, a1), some (0, 0, a2)] (rv.toList ++ []) σ2)))) ∧ (fw_c (σ 96 (fw_c a2).toNat) = fw_c 9 → sp_m_bad [(2, 93, 0), (0, 0, 4)] σ (fun rv σ2 => G 92 [some (2, 93, 0), some (0, 0, a1), some (0, 0, a2)] (rv.toList ++ []) σ2)))) ∧ (fw_c b0 = 0 → (0 ≤ fw_c 0 ∧ fw_c 0 ≤ 1) ∧ R (some (0, 0, 0)) σ)) : G 71 [some (2, 93, 0), some (0, 0, a1), some (0, 0, a2)] [(0, 0, b0)] σ := fw_on hG [18, 23, 28, 47, 64, 71, 92, 118, 125] 200 h
theorem fs_m_readTune_118 {G : fw_K} {R : fw_KR} (hG : fw_cls st_m_readTune R G) {a1 a2 : Int} {σ : ab_SG} (h : sp_m_readNumber [(2, 93, 0), (0, 0, 1), (0, 0, 9)] σ (fun rv σ2 => G 125 [some (2, 93, 0), some (0, 0, a1), some (0, 0, a2)] (rv.toList ++ []) σ2)) : G 118 [some (2, 93, 0), some (0, 0, a1), some (0, 0, a2)] [] σ := fw_on hG [18, 23, 28, 47, 64, 71, 92, 118, 125] 200 h
theorem fs_m_readTune_92 {G : fw_K} {R : fw_KR} (hG : fw_cls st_m_readTune R G) {a1 a2 b0 : Int} {σ : ab_SG} (h : (0 ≤ fw_c b0 ∧ fw_c b0 ≤ 1) ∧ R (some (0, 0, b0)) σ) : G 92 [some (2, 93, 0), some (0, 0, a1), some (0, 0, a2)] [(0, 0, b0)] σ := fw_on hG [18, 23, 28, 47, 64, 71, 92, 118, 125] 200 h
theorem fs_m_readTune_125 {G : fw_K} {R : fw_KR} (hG : fw_cls st_m_readTune R G) {a1 a2 b0 : Int} {σ : ab_SG} (h : (fw_c b0 ≠ 0 → (0 ≤ fw_c a2 ∧ fw_c a2 < ((232 : Nat) : Int)) ∧ ((0 ≤ fw_c ((a2 + 2) + (2 * (σ 96 (fw_c a2).toNat))) ∧ fw_c ((a2 + 2) + (2 * (σ 96 (fw_c a2).toNat))) < ((232 : Nat) : Int)) ∧ True ∧ ((0 ≤ fw_c a2 ∧ fw_c a2 < ((232 : Nat) : Int)) ∧ ((0 ≤ fw_c a2 ∧ fw_c a2 < ((232 : Nat) : Int)) ∧ True ∧ (G 47 [some (2, 93, 0), some (0, 0, a1), some (0, 0, a2)] [] (ab_ups (ab_ups σ 96 (fw_c ((a2 + 2) + (2 * (σ 96 (fw_c a2).toNat)))).toNat (fw_c (σ 93 13))) 96 (fw_c a2).toNat (fw_c (((ab_ups σ 96 (fw_c ((a2 + 2) + (2 * (σ 96 (fw_c a2).toNat)))).toNat (fw_c (σ 93 13))) 96 (fw_c a2).toNat) + 1)))))))) ∧ (fw_c b0 = 0 → (0 ≤ fw_c 0 ∧ fw_c 0 ≤ 1) ∧ R (some (0, 0, 0)) σ)) : G 125 [some (2, 93, 0), some (0, 0, a1), some (0, 0, a2)] [(0, 0, b0)] σ := fw_on hG [18, 23, 28, 47, 64, 71, 92, 118, 125] 200 h
theorem tb_body {G : fw_K} {K : fw_KR} (hG : fw_cls st_m_readTune K G) {x : Nat} (hx : x < 9) {σ0 σ A : ab_SG} {e : tk_E} {p : Nat} (hM : ab_okM md_M σ0 σ) (h : RT σ A x e p) (h0 : (pr_note A e x p).1 ≠ 0 → md_no σ0 (pr_note A e x p).1 K)
    (h1 : (pr_note A e x p).1 = 0 → ∀ σ' : ab_SG, ab_okM md_M σ0 σ' → RT σ' (pr_note A e x p).2.1 x e (pr_note A e x p).2.2 → (pr_note A e x p).2.1 52 x = A 52 x + 1 → G 47 [some (2, 93, 0), some (0, 0, (x : Int)), some (0, 0, 5 + 19 * (x : Int))] [] σ') :
    G 64 [some (2, 93, 0), some (0, 0, (x : Int)), some (0, 0, 5 + 19 * (x : Int))] [] σ := by
  obtain ⟨hm, hi, ex, hrr, ok, hnm, hb, hrow⟩ := h
  have mk := mg_kind hm.1
  have hs := hi.2.2.2.2.2.2.1 x hx
  have z9 : fw_c 9 = 9 := fw_c_id (by decide) (by decide)
  have ea : fw_c (5 + 19 * (x : Int)) = ((5 + 19 * x : Nat) : Int) := by rw [fw_c_id (by omega) (by omega)]; omega
  unfold pr_note at h0 h1
  rw [Int.toNat_natCast] at h0 h1
  refine fs_m_readTune_64 hG ⟨0, 24, e, p, rfl, by decide, hm.1, fun n0 σ' M2 h10 => ?_, fun n0 na nb => ?_⟩
  · rw [if_pos n0] at h0
    exact fs_m_readTune_71 hG ⟨fun z => absurd fw_c0 z, fun _ => ⟨fw_01, h0 n0 σ' (fw_okM_tr hM M2 (by decide)) h10⟩⟩
  rw [if_neg (fun y => y n0)] at h0 h1
  have kq := pr_nm_k n0
  have S1 : mt_is (ab_ups σ 93 13 (tk e p).2.2.2.2) e p := mt_ups hm (Or.inr ⟨rfl, by decide⟩)
  have M1 : ab_okM md_M σ0 (ab_ups σ 93 13 (tk e p).2.2.2.2) := fw_okM_ups hM (by decide)
  have v13 : ab_ups σ 93 13 (tk e p).2.2.2.2 93 13 = (tk e p).2.2.2.2 := ab_ups_eq
  have k7 : ab_ups σ 93 13 (tk e p).2.2.2.2 93 7 = σ 93 7 := ab_ups_ne (by decide)
  have k25 : ab_ups σ 93 13 (tk e p).2.2.2.2 93 25 = σ 93 25 := ab_ups_ne (by decide)
  have k26 : ab_ups σ 93 13 (tk e p).2.2.2.2 93 26 = σ 93 26 := ab_ups_ne (by decide)
  have o96 : ab_ups σ 93 13 (tk e p).2.2.2.2 96 = σ 96 := ab_ups_row (by decide)
  have o100 : ab_ups σ 93 13 (tk e p).2.2.2.2 100 = σ 100 := ab_ups_row (by decide)
  have o103 : ab_ups σ 93 13 (tk e p).2.2.2.2 103 = σ 103 := ab_ups_row (by decide)
  have ev : fw_c (tk e p).2.2.2.2 = (tk e p).2.2.2.2 := fw_c_id (by omega) (by omega)
  generalize ab_ups σ 93 13 (tk e p).2.2.2.2 = σ1 at S1 M1 v13 k7 k25 k26 o96 o100 o103 ⊢
  generalize (tk e p).2.2.2.2 = v at h0 h1 v13 ev
  obtain ⟨i, hi9⟩ : ∃ i : Nat, A 52 x = (i : Int) := ⟨(A 52 x).toNat, by omega⟩
  have ec : fw_c (i : Int) = i := fw_c_id (by omega) (by omega)
  have b1 : σ1 96 (5 + 19 * x) = (i : Int) := by rw [o96, hb, hi9]
  have eq : ((x : Int) * 9 + (i : Int)).toNat = x * 9 + i := by omega
  rw [hi9, eq] at h0 h1
  refine fs_m_readTune_71 hG ⟨fun _ => ?_, fun z => absurd (fw_c1.symm.trans z) (by decide)⟩
  rw [ea, Int.toNat_natCast, b1, ec, z9]
  refine ⟨⟨Int.natCast_nonneg _, by omega⟩, fun q => ?_, fun q => ?_⟩
  · rw [if_neg (show ¬ 9 ≤ (i : Int) by omega)] at h0 h1
    have e6 : fw_c (5 + 19 * (x : Int) + 1 + 2 * (i : Int)) = ((6 + 19 * x + 2 * i : Nat) : Int) := by rw [fw_c_id (by omega) (by omega)]; omega
    rw [e6, Int.toNat_natCast, v13, ev]
    refine ⟨⟨Int.natCast_nonneg _, by omega⟩, ⟨Int.natCast_nonneg _, by omega⟩, trivial, mt_go (mt_ups S1 (Or.inl ⟨by decide, by decide⟩)) (fun σ2 M2 S2 => fs_m_readTune_118 hG ⟨1, 9, e, tn e p, rfl, by decide, S2, fun n1 σ' M3 h10 => ?_, fun n1 na1 nb1 σ' M3 r13 S3 => ?_⟩)⟩
    · rw [if_pos n1] at h0
      exact fs_m_readTune_125 hG ⟨fun z => absurd fw_c0 z, fun _ => ⟨fw_01, h0 n1 σ' (fw_okM_tr (fw_okM_tr (fw_okM_upa M1 (by decide)) M2 (by decide)) M3 (by decide)) h10⟩⟩
    · rw [if_neg (fun y => y n1)] at h1
      have h1 := h1 rfl
      dsimp only at h1
      have M4 : ab_okM md_M σ0 σ' := fw_okM_tr (fw_okM_tr (fw_okM_upa M1 (by decide)) M2 (by decide)) M3 (by decide)
      have N3 : ab_okM ((93, 13) :: go_M) (ab_ups σ1 96 (6 + 19 * x + 2 * i) v) σ' := fw_okM_tr (fw_okM_tr (fw_okM_refl _ _) M2 (by decide)) M3 (by decide)
      have e96 : σ' 96 = ab_ups σ1 96 (6 + 19 * x + 2 * i) v 96 := fw_okM_c N3 (by decide)
      have e100 : σ' 100 = σ 100 := (fw_okM_c N3 (by decide)).trans ((ab_ups_row (by decide)).trans o100)
      have e103 : σ' 103 = σ 103 := (fw_okM_c N3 (by decide)).trans ((ab_ups_row (by decide)).trans o103)
      have e25 : σ' 93 25 = σ 93 25 := (N3 93 25 (by decide)).trans ((ab_ups_ne (fun z => absurd z.1 (by decide))).trans k25)
      have e26 : σ' 93 26 = σ 93 26 := (N3 93 26 (by decide)).trans ((ab_ups_ne (fun z => absurd z.1 (by decide))).trans k26)
      have f6 : σ' 96 (6 + 19 * x + 2 * i) = v := by rw [e96, ab_ups_eq]
      have fn : ∀ j : Nat, j ≠ 6 + 19 * x + 2 * i → σ' 96 j = σ 96 j := fun j hj => by rw [e96, ab_ups_ne (fun z => hj z.2), o96]
      have b5 : σ' 96 (5 + 19 * x) = (i : Int) := by rw [fn _ (by omega), hb, hi9]
      have ev1 : fw_c (tk e (tn e p)).2.2.2.2 = (tk e (tn e p)).2.2.2.2 := fw_c_id (by omega) (by omega)
      generalize (tk e (tn e p)).2.2.2.2 = v1 at h1 na1 nb1 r13 ev1
      have e7 : fw_c (5 + 19 * (x : Int) + 2 + 2 * (i : Int)) = ((7 + 19 * x + 2 * i : Nat) : Int) := by rw [fw_c_id (by omega) (by omega)]; omega
      have ei1 : fw_c ((i : Int) + 1) = (i : Int) + 1 := fw_c_id (by omega) (by omega)
      refine fs_m_readTune_125 hG ⟨fun _ => ?_, fun z => absurd (fw_c1.symm.trans z) (by decide)⟩
      rw [ea, Int.toNat_natCast, b5, e7, Int.toNat_natCast, r13, ev1]
      have b5' : ab_ups σ' 96 (7 + 19 * x + 2 * i) v1 96 (5 + 19 * x) = (i : Int) := by rw [ab_ups_ne (fun z => by omega), b5]
      rw [b5', ei1]
      refine ⟨⟨Int.natCast_nonneg _, by omega⟩, ⟨Int.natCast_nonneg _, by omega⟩, trivial, ⟨Int.natCast_nonneg _, by omega⟩, ⟨Int.natCast_nonneg _, by omega⟩, trivial, ?_⟩
      have g96 : ∀ j : Nat, j ≠ 5 + 19 * x → j ≠ 6 + 19 * x + 2 * i → j ≠ 7 + 19 * x + 2 * i → ab_ups (ab_ups σ' 96 (7 + 19 * x + 2 * i) v1) 96 (5 + 19 * x) ((i : Int) + 1) 96 j = σ 96 j := fun j q1 q2 q3 => by rw [ab_ups_ne (fun z => q1 z.2), ab_ups_ne (fun z => q3 z.2), fn j q2]
      have B : ∀ k j : Nat, k ≠ 50 → k ≠ 51 → k ≠ 52 → ab_ups (ab_ups (ab_ups A 50 (x * 9 + i) v) 51 (x * 9 + i) v1) 52 x ((i : Int) + 1) k j = A k j := fun k j q1 q2 q3 => by rw [ab_ups_ne (fun z => q3 z.1), ab_ups_ne (fun z => q2 z.1), ab_ups_ne (fun z => q1 z.1)]
      have B50 : ∀ j : Nat, j ≠ x * 9 + i → ab_ups (ab_ups (ab_ups A 50 (x * 9 + i) v) 51 (x * 9 + i) v1) 52 x ((i : Int) + 1) 50 j = A 50 j := fun j q => by rw [ab_ups_ne (fun z => absurd z.1 (by decide)), ab_ups_ne (fun z => absurd z.1 (by decide)), ab_ups_ne (fun z => q z.2)]
      have B51 : ∀ j : Nat, j ≠ x * 9 + i → ab_ups (ab_ups (ab_ups A 50 (x * 9 + i) v) 51 (x * 9 + i) v1) 52 x ((i : Int) + 1) 51 j = A 51 j := fun j q => by rw [ab_ups_ne (fun z => absurd z.1 (by decide)), ab_ups_ne (fun z => q z.2), ab_ups_ne (fun z => absurd z.1 (by decide))]
      have B52 : ∀ j : Nat, j ≠ x → ab_ups (ab_ups (ab_ups A 50 (x * 9 + i) v) 51 (x * 9 + i) v1) 52 x ((i : Int) + 1) 52 j = A 52 j := fun j q => by rw [ab_ups_ne (fun z => q z.2), ab_ups_ne (fun z => absurd z.1 (by decide)), ab_ups_ne (fun z => absurd z.1 (by decide))]
      have B52x : ab_ups (ab_ups (ab_ups A 50 (x * 9 + i) v) 51 (x * 9 + i) v1) 52 x ((i : Int) + 1) 52 x = (i : Int) + 1 := ab_ups_eq
      have B50x : ab_ups (ab_ups (ab_ups A 50 (x * 9 + i) v) 51 (x * 9 + i) v1) 52 x ((i : Int) + 1) 50 (x * 9 + i) = v := by rw [ab_ups_ne (fun z => absurd z.1 (by decide)), ab_ups_ne (fun z => absurd z.1 (by decide)), ab_ups_eq]
      have B51x : ab_ups (ab_ups (ab_ups A 50 (x * 9 + i) v) 51 (x * 9 + i) v1) 52 x ((i : Int) + 1) 51 (x * 9 + i) = v1 := by rw [ab_ups_ne (fun z => absurd z.1 (by decide)), ab_ups_eq]
      refine h1 _ (fw_okM_upa (fw_okM_upa M4 (by decide)) (by decide)) ⟨mt_ups (mt_ups S3 (Or.inl ⟨by decide, by decide⟩)) (Or.inl ⟨by decide, by decide⟩), ?_, ?_, ?_, ?_, ?_, ?_, fun i' hi' => ?_⟩ ?_
      · refine ⟨hi.1, hi.2.1, hi.2.2.1, hi.2.2.2.1, hi.2.2.2.2.1, hi.2.2.2.2.2.1, fun j hj => ?_, hi.2.2.2.2.2.2.2⟩
        by_cases c : j = x
        · rw [c, B52x]; omega
        · rw [B52 j c]; exact hi.2.2.2.2.2.2.1 j hj
      · rw [B 49 11 (by decide) (by decide) (by decide)]; exact ex
      · rw [B 49 12 (by decide) (by decide) (by decide)]
        refine rm_cong (u := 5 + 19 * x) (v := 24 + 19 * x) (w := x) (by omega) hi.2.1 hi.2.2.1 hi.2.2.2.2.2.2.1 (by omega) (by omega) (by omega) (by omega) (fun j hj => g96 j (by omega) (by omega) (by omega)) (fun j _ => ?_) ?_ ?_ ?_ (fun k j q1 q2 q3 q4 => ?_) hrr
        · rw [ab_ups_ne (fun z => absurd z.1 (by decide)), ab_ups_ne (fun z => absurd z.1 (by decide)), e100]
        · rw [ab_ups_row (by decide), ab_ups_row (by decide), e103]
        · rw [ab_ups_ne (fun z => absurd z.1 (by decide)), ab_ups_ne (fun z => absurd z.1 (by decide)), e25]
        · rw [ab_ups_ne (fun z => absurd z.1 (by decide)), ab_ups_ne (fun z => absurd z.1 (by decide)), e26]
        · by_cases c50 : k = 50
          · subst c50
            exact B50 j (by have := q2 (Or.inl rfl); omega)
          by_cases c51 : k = 51
          · subst c51
            exact B51 j (by have := q2 (Or.inr rfl); omega)
          by_cases c52 : k = 52
          · subst c52
            exact B52 j (by have := q3 (Or.inl rfl); omega)
          exact B k j c50 c51 c52
      · rw [B 57 x (by decide) (by decide) (by decide)]; exact ok
      · rw [B 57 x (by decide) (by decide) (by decide), ab_ups_ne (fun z => absurd z.1 (by decide)), ab_ups_ne (fun z => absurd z.1 (by decide)), e100]; exact hnm
      · rw [B52x, ab_ups_eq]
      · rw [B52x] at hi'
        by_cases c : i' = i
        · subst c
          rw [B50x, B51x, ab_ups_ne (fun z => by omega), ab_ups_ne (fun z => by omega), f6, ab_ups_ne (fun z => by omega), ab_ups_eq]
          exact ⟨rfl, rfl⟩
        · rw [B50 _ (by omega), B51 _ (by omega), g96 _ (by omega) (by omega) (by omega), g96 _ (by omega) (by omega) (by omega)]
          exact hrow i' (by omega)
      · rw [B52x]
  · rw [if_pos (show 9 ≤ (i : Int) by omega)] at h0
    refine ⟨4, rfl, by decide, by rw [k7]; exact mk.2.2.2.2, fun σ' M2 h10 _ => fs_m_readTune_92 hG ⟨fw_01, h0 (by show (4 : Int) ≠ 0; decide) σ' (fw_okM_tr M1 M2 (by decide)) ?_⟩⟩
    rw [h10, k7, if_neg (show ¬ σ 93 7 = 1 by have := mk.2.1.mpr kq; omega)]
theorem tm_loop {G : fw_K} {K : fw_KR} (hG : fw_cls st_m_readTune K G) {x : Nat} (hx : x < 9) {σ0 : ab_SG} {e : tk_E} : ∀ (f : Nat) (σ A : ab_SG) (p : Nat), A 52 x + f = 10 → 1 ≤ A 52 x → ab_okM md_M σ0 σ → RT σ A x e p → ((pr_notes e x f A p).1 ≠ 0 → md_no σ0 (pr_notes e x f A p).1 K) →
    ((pr_notes e x f A p).1 = 0 → ∀ σ' : ab_SG, ab_okM md_M σ0 σ' → RT σ' (pr_notes e x f A p).2.1 x e (pr_notes e x f A p).2.2 → K (some (0, 0, 1)) (ab_ups σ' 96 0 ((x : Int) + 1))) → G 47 [some (2, 93, 0), some (0, 0, (x : Int)), some (0, 0, 5 + 19 * (x : Int))] [] σ := by
  have t0 : (fw_c 0).toNat = 0 := by rw [fw_c0]; rfl
  have u0 : 0 ≤ fw_c 0 ∧ fw_c 0 < ((232 : Nat) : Int) := by rw [fw_c0]; decide
  have z3 : fw_c 3 = 3 := fw_c_id (by decide) (by decide)
  have ea : fw_c (5 + 19 * (x : Int)) = ((5 + 19 * x : Nat) : Int) := by rw [fw_c_id (by omega) (by omega)]; omega
  have ex1 : fw_c ((x : Int) + 1) = (x : Int) + 1 := fw_c_id (by omega) (by omega)
  intro f
  induction f with
  | zero =>
    intro σ A p hf _ _ h _ _
    have hs := h.2.1.2.2.2.2.2.2.1 x hx
    exact absurd hs.2 (by omega)
  | succ f ih =>
    intro σ A p hf hA hM h h0 h1
    have hs := h.2.1.2.2.2.2.2.2.1 x hx
    have mk := mg_kind h.1.1
    have hb : σ 96 (5 + 19 * x) = A 52 x := h.2.2.2.2.2.2.1
    have c0 : σ 96 0 = (x : Int) := h.2.2.2.1.1.1
    have ec : fw_c (A 52 x) = A 52 x := fw_c_id (by omega) (by omega)
    have e7 : fw_c (σ 93 7) = σ 93 7 := fw_c_id (by omega) (by omega)
    unfold pr_notes at h0 h1
    refine fs_m_readTune_47 hG ?_
    rw [ea, Int.toNat_natCast, hb, ec, e7, z3]
    refine ⟨⟨Int.natCast_nonneg _, by omega⟩, fun q => absurd q (by omega), fun _ => ⟨fun q => ?_, fun q => ?_⟩⟩
    · rw [if_pos (fun y => q (mk.2.1.mpr y))] at h1
      rw [t0, c0, ex1]
      exact ⟨u0, u0, trivial, fw_11, h1 rfl σ hM h⟩
    · rw [if_neg (fun y => y (mk.2.1.mp q))] at h0 h1
      refine tb_body hG hx hM h (fun n0 => ?_) (fun n0 σ' M' R' i' => ?_)
      · rw [if_pos n0] at h0
        exact h0 n0
      · rw [if_neg (fun y => y n0)] at h0 h1
        exact ih σ' _ _ (by omega) (by omega) M' R' h0 h1
section
variable {l : Launch} {cy : Nat → ClassId} {ad wr cr : Nat → Nat} {D : va_G}
theorem fm_m_readTune (hinj : nn_inj ad) : fw_H l cy ad wr cr D 220 4 sp_m_readTune := fw_mk hinj (⟨"NameNotesModel", "readTune", "()Z"⟩, prog_14_method_32_code, 3, (Option.some Jvm.ClassFile.FieldType.boolean), 0, true, 1) rfl rfl nn_KI20_ok nn_KJ20_ok nn_PF20_ok nn_PS20_ok (by decide +kernel) rfl rfl (List.forall_mem_cons.mpr ⟨fw_row nn_PM20_ok (x := 168) (k := 0) (mn := 221) (np := 1) (ob := true) (ci := 11) (⟨"NameNotesModel", "bad", "(I)Z"⟩, prog_14_method_23_code, 2, (Option.some Jvm.ClassFile.FieldType.boolean), 1, true, 1) rfl (by decide +kernel) rfl rfl (by decide) (fun _ => ⟨_, _, rfl⟩) (fm_m_bad hinj), (List.forall_mem_cons.mpr ⟨fw_row nn_PM20_ok (x := 178) (k := 0) (mn := 225) (np := 2) (ob := true) (ci := 11) (⟨"NameNotesModel", "isNumber", "(II)Z"⟩, prog_14_method_24_code, 3, (Option.some Jvm.ClassFile.FieldType.boolean), 2, true, 1) rfl (by decide +kernel) rfl rfl (by decide) (fun _ => ⟨_, _, rfl⟩) (fm_m_isNumber hinj), (List.forall_mem_cons.mpr ⟨fw_row nn_PM20_ok (x := 182) (k := 0) (mn := 212) (np := 0) (ob := true) (ci := 11) (⟨"NameNotesModel", "go", "()V"⟩, prog_14_method_17_code, 5, (Option.none : Option Jvm.ClassFile.FieldType), 0, true, 4) rfl (by decide +kernel) rfl rfl (by decide) (fun _ => ⟨_, _, rfl⟩) (fm_m_go hinj), (List.forall_mem_cons.mpr ⟨fw_row nn_PM20_ok (x := 207) (k := 0) (mn := 222) (np := 1) (ob := true) (ci := 11) (⟨"NameNotesModel", "readNew", "(I)Z"⟩, prog_14_method_30_code, 3, (Option.some Jvm.ClassFile.FieldType.boolean), 1, true, 1) rfl (by decide +kernel) rfl rfl (by decide) (fun _ => ⟨_, _, rfl⟩) (fm_m_readNew hinj), (List.forall_mem_cons.mpr ⟨fw_row nn_PM20_ok (x := 210) (k := 0) (mn := 227) (np := 2) (ob := true) (ci := 11) (⟨"NameNotesModel", "readNumber", "(II)Z"⟩, prog_14_method_25_code, 3, (Option.some Jvm.ClassFile.FieldType.boolean), 2, true, 1) rfl (by decide +kernel) rfl rfl (by decide) (fun _ => ⟨_, _, rfl⟩) (fm_m_readNumber hinj), (fun _ h => absurd h List.not_mem_nil)⟩)⟩)⟩)⟩)⟩) (fun as σ K h => by
  obtain ⟨A, e, p, rfl, ⟨hm, hi, hr⟩, hk, h0, h1⟩ := h
  have mk := mg_kind hm.1
  have t0 : (fw_c 0).toNat = 0 := by rw [fw_c0]; rfl
  have u0 : 0 ≤ fw_c 0 ∧ fw_c 0 < ((232 : Nat) : Int) := by rw [fw_c0]; decide
  have z9 : fw_c 9 = 9 := fw_c_id (by decide) (by decide)
  have h11 := hr.1.1
  have c11 : fw_c (A 49 11) = A 49 11 := fw_c_id (by omega) (by omega)
  unfold pr_tune at h0 h1
  refine ⟨rfl, fun G hG => fs_m_readTune_0 hG ⟨u0, ?_⟩⟩
  rw [t0, h11.1, c11, z9]
  refine ⟨fun q => ?_, fun q => ?_⟩
  · rw [if_neg (show ¬ 9 ≤ A 49 11 by omega)] at h0 h1
    refine mt_go hm (fun σ1 M1 S1 => fs_m_readTune_23 hG ?_)
    have hr1 := rs_M hr (fw_okM_tr (fw_okM_refl _ _) M1 (by decide))
    obtain ⟨x, hx⟩ : ∃ x : Nat, A 49 11 = (x : Int) := ⟨(A 49 11).toNat, by omega⟩
    have hx9 : x < 9 := by omega
    rw [hx] at h0 h1 ⊢
    rw [Int.toNat_natCast] at h0 h1
    refine ⟨x, A, e, tn e p, rfl, by omega, S1, hr1.1, fun n0 σ' M2 h10 => ?_, fun n0 k2 ok σ2 M2 S2 => ?_⟩
    · rw [if_pos n0] at h0
      exact fs_m_readTune_28 hG ⟨fun z => absurd fw_c0 z, fun _ => ⟨fw_01, h0 n0 σ' (fw_okM_tr (fw_okM_tr (fw_okM_refl _ _) M1 (by decide)) M2 (by decide)) h10⟩⟩
    · rw [if_neg (fun y => y n0)] at h0 h1
      dsimp only at h0 h1
      have bw := rf_ok_in 7 _ ok
      rw [rf_C7] at bw
      have dw : fw_d (pr_wd e (tn e p)) = pr_wd e (tn e p) := fw_d_id (by omega) (by omega)
      generalize pr_wd e (tn e p) = w at h0 h1 ok dw M2
      have ea : fw_c (5 + 19 * (x : Int)) = ((5 + 19 * x : Nat) : Int) := by rw [fw_c_id (by omega) (by omega)]; omega
      have N2 : ab_okM md_M σ σ2 := fw_okM_tr (fw_okM_upa (fw_okM_tr (fw_okM_refl _ _) M1 (by decide)) (by decide)) M2 (by decide)
      have N1 : ab_okM ((93, 13) :: go_M) σ σ1 := fw_okM_tr (fw_okM_refl _ _) M1 (by decide)
      have e96 : σ2 96 = σ 96 := (fw_okM_c M2 (by decide)).trans ((ab_ups_row (by decide)).trans (fw_okM_c N1 (by decide)))
      have e103 : σ2 103 = σ 103 := (fw_okM_c M2 (by decide)).trans ((ab_ups_row (by decide)).trans (fw_okM_c N1 (by decide)))
      have e25 : σ2 93 25 = σ 93 25 := (M2 93 25 (by decide)).trans ((ab_ups_ne (fun z => absurd z.1 (by decide))).trans (N1 93 25 (by decide)))
      have e26 : σ2 93 26 = σ 93 26 := (M2 93 26 (by decide)).trans ((ab_ups_ne (fun z => absurd z.1 (by decide))).trans (N1 93 26 (by decide)))
      have e100 : σ2 100 = ab_ups σ1 100 x (rf_w 7 w) 100 := fw_okM_c M2 (by decide)
      have o100 : σ1 100 = σ 100 := fw_okM_c N1 (by decide)
      refine fs_m_readTune_28 hG ⟨fun _ => ?_, fun z => absurd (fw_c1.symm.trans z) (by decide)⟩
      rw [ea, Int.toNat_natCast, fw_c0]
      refine ⟨⟨Int.natCast_nonneg _, by omega⟩, trivial, fs_m_readTune_47 hG ?_⟩
      rw [ea, Int.toNat_natCast, ab_ups_eq]
      refine ⟨⟨Int.natCast_nonneg _, by omega⟩, fun _ => ?_, fun z => absurd fw_c0 z⟩
      have B : ∀ k j : Nat, k ≠ 57 → k ≠ 52 → (k = 49 → j ≠ 11) → ab_ups (ab_ups (ab_ups A 57 x w) 52 x 0) 49 11 ((x : Int) + 1) k j = A k j := fun k j q1 q2 q3 => by rw [ab_ups_ne (fun z => q3 z.1 z.2), ab_ups_ne (fun z => q2 z.1), ab_ups_ne (fun z => q1 z.1)]
      have B57 : ∀ j : Nat, j ≠ x → ab_ups (ab_ups (ab_ups A 57 x w) 52 x 0) 49 11 ((x : Int) + 1) 57 j = A 57 j := fun j q => by rw [ab_ups_ne (fun z => absurd z.1 (by decide)), ab_ups_ne (fun z => absurd z.1 (by decide)), ab_ups_ne (fun z => q z.2)]
      have B57x : ab_ups (ab_ups (ab_ups A 57 x w) 52 x 0) 49 11 ((x : Int) + 1) 57 x = w := by rw [ab_ups_ne (fun z => absurd z.1 (by decide)), ab_ups_ne (fun z => absurd z.1 (by decide)), ab_ups_eq]
      have B52 : ∀ j : Nat, j ≠ x → ab_ups (ab_ups (ab_ups A 57 x w) 52 x 0) 49 11 ((x : Int) + 1) 52 j = A 52 j := fun j q => by rw [ab_ups_ne (fun z => absurd z.1 (by decide)), ab_ups_ne (fun z => q z.2), ab_ups_ne (fun z => absurd z.1 (by decide))]
      have B52x : ab_ups (ab_ups (ab_ups A 57 x w) 52 x 0) 49 11 ((x : Int) + 1) 52 x = 0 := by rw [ab_ups_ne (fun z => absurd z.1 (by decide)), ab_ups_eq]
      have B11 : ab_ups (ab_ups (ab_ups A 57 x w) 52 x 0) 49 11 ((x : Int) + 1) 49 11 = (x : Int) + 1 := ab_ups_eq
      have hrr := And.intro (rn_n_of hr.1) (rs_n_of hr.2)
      rw [hx] at hrr
      have hRT : RT (ab_ups σ2 96 (5 + 19 * x) 0) (ab_ups (ab_ups (ab_ups A 57 x w) 52 x 0) 49 11 ((x : Int) + 1)) x e (tn e (tn e p)) := by
        refine ⟨mt_ups S2 (Or.inl ⟨by decide, by decide⟩), ?_, B11, ?_, ?_, ?_, ?_, fun i hi2 => ?_⟩
        · refine ⟨by rw [B11]; omega, hi.2.1, hi.2.2.1, fun j hj => ?_, hi.2.2.2.2.1, hi.2.2.2.2.2.1, fun j hj => ?_, hi.2.2.2.2.2.2.2⟩
          · by_cases c : j = x
            · rw [c, B57x]; exact dw
            · rw [B57 j c]; exact hi.2.2.2.1 j hj
          · by_cases c : j = x
            · rw [c, B52x]; decide
            · rw [B52 j c]; exact hi.2.2.2.2.2.2.1 j hj
        · rw [B 49 12 (by decide) (by decide) (fun _ => by decide)]
          refine rm_cong (u := 5 + 19 * x) (v := 24 + 19 * x) (w := x) (by omega) hi.2.1 hi.2.2.1 hi.2.2.2.2.2.2.1 (by omega) (by omega) (by omega) (by omega) (fun j hj => ?_) (fun j hj => ?_) ?_ ?_ ?_ (fun k j q1 q2 q3 q4 => ?_) hrr
          · rw [ab_ups_ne (fun z => by omega), e96]
          · rw [ab_ups_ne (fun z => absurd z.1 (by decide)), e100, ab_ups_ne (fun z => hj z.2), o100]
          · rw [ab_ups_row (by decide), e103]
          · rw [ab_ups_ne (fun z => absurd z.1 (by decide)), e25]
          · rw [ab_ups_ne (fun z => absurd z.1 (by decide)), e26]
          · by_cases c57 : k = 57
            · subst c57
              exact B57 j (by have := q3 (Or.inr rfl); omega)
            by_cases c52 : k = 52
            · subst c52
              exact B52 j (by have := q3 (Or.inl rfl); omega)
            exact B k j c57 c52 (fun z => (q1 z).1)
        · rw [B57x]; exact ok
        · rw [B57x, ab_ups_ne (fun z => absurd z.1 (by decide)), e100, ab_ups_eq]
        · rw [B52x, ab_ups_eq]
        · rw [B52x] at hi2
          exact absurd hi2 (by omega)
      have hM3 : ab_okM md_M σ (ab_ups σ2 96 (5 + 19 * x) 0) := fw_okM_upa N2 (by decide)
      generalize ab_ups (ab_ups (ab_ups A 57 x w) 52 x 0) 49 11 ((x : Int) + 1) = A1 at h0 h1 hRT B52x
      refine tb_body hG hx9 hM3 hRT (fun n1 => ?_) (fun n1 σ' M' R' i' => ?_)
      · rw [if_pos n1] at h0
        exact h0 n1
      · rw [if_neg (fun y => y n1)] at h0 h1
        refine tm_loop hG hx9 9 σ' _ _ (by omega) (by omega) M' R' h0 (fun n2 σ3 M3 R3 => h1 n2 _ (fw_okM_upa M3 (by decide)) (RT_end hx9 R3))
  · rw [if_pos (show 9 ≤ A 49 11 by omega)] at h0
    refine ⟨4, rfl, by decide, mk.2.2.2.2, fun σ' hM h10 _ => fs_m_readTune_18 hG ⟨fw_01, h0 (by show (4 : Int) ≠ 0; decide) σ' (fw_okM_tr (fw_okM_refl _ _) hM (by decide)) ?_⟩⟩
    rw [h10, if_neg (show ¬ σ 93 7 = 1 by have := mk.1.mpr hk; omega)])
end
end
section
/-! the reference's lines: a clue -/
def cb_n (s : Int) : Nat := (s % 2 + s / 2 % 2 + s / 4 % 2 + s / 8 % 2 + s / 16 % 2 + s / 32 % 2 + s / 64 % 2 + s / 128 % 2 + s / 256 % 2).toNat
theorem cb_le (s : Int) : cb_n s ≤ 9 := by
  unfold cb_n
  omega
theorem cb_0 : cb_n 0 = 0 := by decide
theorem cb_st0 : ∀ s : Nat, s < 256 → ∀ x : Nat, x < 9 → (pr_hs (s : Int) (x : Int) = false → cb_n (pr_or (s : Int) (x : Int)) = cb_n (s : Int) + 1) ∧ 0 ≤ pr_or (s : Int) (x : Int) ∧ pr_or (s : Int) (x : Int) < 512 := by decide +kernel
theorem cb_st1 : ∀ s : Nat, s < 256 → ∀ x : Nat, x < 9 → (pr_hs ((s + 256 : Nat) : Int) (x : Int) = false → cb_n (pr_or ((s + 256 : Nat) : Int) (x : Int)) = cb_n ((s + 256 : Nat) : Int) + 1) ∧ 0 ≤ pr_or ((s + 256 : Nat) : Int) (x : Int) ∧ pr_or ((s + 256 : Nat) : Int) (x : Int) < 512 := by decide +kernel
theorem cb_st {s x : Int} (h1 : 0 ≤ s) (h2 : s < 512) (x1 : 0 ≤ x) (x2 : x < 9) : (pr_hs s x = false → cb_n (pr_or s x) = cb_n s + 1) ∧ 0 ≤ pr_or s x ∧ pr_or s x < 512 := by
  have ex : ((x.toNat : Nat) : Int) = x := by omega
  by_cases c : s < 256
  · have h := cb_st0 s.toNat (by omega) x.toNat (by omega)
    rw [ex, show ((s.toNat : Nat) : Int) = s by omega] at h
    exact h
  · have h := cb_st1 (s - 256).toNat (by omega) x.toNat (by omega)
    rw [ex, show (((s - 256).toNat + 256 : Nat) : Int) = s by omega] at h
    exact h
/-- the reference is at a clue's tunes -/
def RC (σ A : ab_SG) (x : Nat) (e : tk_E) (p : Nat) : Prop := mt_is σ e p ∧ RI A ∧ A 49 12 = (x : Int) + 1 ∧ (rn_n (A 49 11) (x : Int) σ A ∧ rs_n (A 49 11) (x : Int) σ A) ∧ rf_ok 7 (A 58 x) ∧ σ 100 (9 + x) = rf_w 7 (A 58 x) ∧ σ 96 (176 + x) = A 54 x ∧ 0 ≤ A 54 x ∧ A 54 x < 512
theorem RC_end {σ A : ab_SG} {x : Nat} {e : tk_E} {p : Nat} (hx : x < 6) (h : RC σ A x e p) : RM (ab_ups σ 96 1 ((x : Int) + 1)) A e p := by
  obtain ⟨hm, hi, ex, ⟨⟨c0, c1, c2, r57, r58, r59⟩, r1, r2, r3, r4, r5, r6, r7, r8, r9⟩, ok, hnm, hb, -⟩ := h
  have hi1 := hi.1
  have hi3 := hi.2.2.1
  have s96 : ∀ j : Nat, j ≠ 1 → ab_ups σ 96 1 ((x : Int) + 1) 96 j = σ 96 j := fun j hj => ab_ups_ne (fun z => hj z.2)
  have s100 : ab_ups σ 96 1 ((x : Int) + 1) 100 = σ 100 := ab_ups_row (by decide)
  refine ⟨mt_ups hm (Or.inl ⟨by decide, by decide⟩), hi, rn_n_is hi ⟨?_, ?_, ?_, rn_k_M r57 s100, ?_, rn_k_M r59 s100⟩, ?_, fun y hy => ?_, fun c hc => ?_, fun j hj => ?_, fun j hj => ?_, r6, fun j hj => ?_, ?_, ?_⟩
  · rw [s96 0 (by decide)]; exact c0
  · rw [ab_ups_eq, ex]
  · rw [s96 2 (by decide)]; exact c2
  · intro j hj
    rw [ex] at hj
    rw [s100]
    by_cases c : j = x
    · rw [c]; exact ⟨ok, hnm⟩
    · exact r58 j (by omega)
  · rw [s96 3 (by decide)]; exact r1
  · refine ⟨?_, fun i hi2 => ?_⟩
    · rw [s96 _ (by omega)]; exact (r2 y hy).1
    · rw [s96 _ (by omega), s96 _ (by omega)]; exact (r2 y hy).2 i hi2
  · rw [ex] at hc
    rw [s96 _ (by omega)]
    by_cases q : c = x
    · rw [q]; exact hb
    · exact r3 c (by omega)
  · rw [s96 _ (by omega)]; exact r4 j hj
  · rw [s96 _ (by omega)]; exact r5 j hj
  · rw [ab_ups_ne (fun z => absurd z.1 (by decide))]; exact r7 j hj
  · rw [ab_ups_ne (fun z => absurd z.1 (by decide))]; exact r8
  · rw [ab_ups_ne (fun z => absurd z.1 (by decide))]; exact r9
def sp_m_readClue : fw_SP := fun as σ K => ∃ (A : ab_SG) (e : tk_E) (p : Nat), as = [(2, 93, 0)] ∧ RM σ A e p ∧ (tk e p).1 = 2 ∧ md_post σ (pr_clue A e p) e K
abbrev fk_m_readClue : List fw_CR := [(168, 1, true, 11, 0, sp_m_bad), (182, 0, true, 11, 1, sp_m_go), (207, 1, true, 11, 3, sp_m_readNew), (213, 2, true, 11, 3, sp_m_isOne), (216, 2, false, 0, 0, sp_m_has)]
abbrev st_m_readClue : fw_K → fw_KR → fw_K := fw_st vwCl nn_sh nn_kd fw_kv fw_wc (nn_KI20.map (fun x => x.1)) (nn_KJ20.map (fun x => x.1)) (nn_PF20.map (fun x => x.1)) (nn_PS20.map (fun x => x.1)) fk_m_readClue 4 nn_dt228 2 1
theorem fs_m_readClue_0 {G : fw_K} {R : fw_KR} (hG : fw_cls st_m_readClue R G) {σ : ab_SG} (h : (0 ≤ fw_c 1 ∧ fw_c 1 < ((232 : Nat) : Int)) ∧ ((fw_c (σ 96 (fw_c 1).toNat) ≠ fw_c 6 → sp_m_go [(2, 93, 0)] σ (fun rv σ2 => G 23 [some (2, 93, 0), some (0, 0, σ 96 (fw_c 1).toNat)] (rv.toList ++ []) σ2)) ∧ (fw_c (σ 96 (fw_c 1).toNat) = fw_c 6 → sp_m_bad [(2, 93, 0), (0, 0, 4)] σ (fun rv σ2 => G 18 [some (2, 93, 0), some (0, 0, σ 96 (fw_c 1).toNat)] (rv.toList ++ []) σ2)))) : G 0 [some (2, 93, 0), none] [] σ := fw_on hG [18, 23, 31, 47, 68, 79, 101, 109, 133] 200 h
theorem fs_m_readClue_23 {G : fw_K} {R : fw_KR} (hG : fw_cls st_m_readClue R G) {a1 : Int} {σ : ab_SG} (h : sp_m_readNew [(2, 93, 0), (0, 0, 9 + a1)] σ (fun rv σ2 => G 31 [some (2, 93, 0), some (0, 0, a1)] (rv.toList ++ []) σ2)) : G 23 [some (2, 93, 0), some (0, 0, a1)] [] σ := fw_on hG [18, 23, 31, 47, 68, 79, 101, 109, 133] 200 h
theorem fs_m_readClue_18 {G : fw_K} {R : fw_KR} (hG : fw_cls st_m_readClue R G) {a1 b0 : Int} {σ : ab_SG} (h : (0 ≤ fw_c b0 ∧ fw_c b0 ≤ 1) ∧ R (some (0, 0, b0)) σ) : G 18 [some (2, 93, 0), some (0, 0, a1)] [(0, 0, b0)] σ := fw_on hG [18, 23, 31, 47, 68, 79, 101, 109, 133] 200 h
theorem fs_m_readClue_31 {G : fw_K} {R : fw_KR} (hG : fw_cls st_m_readClue R G) {a1 b0 : Int} {σ : ab_SG} (h : (fw_c b0 ≠ 0 → (0 ≤ fw_c (176 + a1) ∧ fw_c (176 + a1) < ((232 : Nat) : Int)) ∧ True ∧ (G 47 [some (2, 93, 0), some (0, 0, a1)] [] (ab_ups σ 96 (fw_c (176 + a1)).toNat (fw_c 0)))) ∧ (fw_c b0 = 0 → (0 ≤ fw_c 0 ∧ fw_c 0 ≤ 1) ∧ R (some (0, 0, 0)) σ)) : G 31 [some (2, 93, 0), some (0, 0, a1)] [(0, 0, b0)] σ := fw_on hG [18, 23, 31, 47, 68, 79, 101, 109, 133] 200 h
theorem fs_m_readClue_47 {G : fw_K} {R : fw_KR} (hG : fw_cls st_m_readClue R G) {a1 : Int} {σ : ab_SG} (h : (0 ≤ fw_c (176 + a1) ∧ fw_c (176 + a1) < ((232 : Nat) : Int)) ∧ ((fw_c (σ 96 (fw_c (176 + a1)).toNat) = 0 → G 68 [some (2, 93, 0), some (0, 0, a1)] [] σ) ∧ (fw_c (σ 96 (fw_c (176 + a1)).toNat) ≠ 0 → (fw_c (σ 93 7) ≠ fw_c 2 → (0 ≤ fw_c 1 ∧ fw_c 1 < ((232 : Nat) : Int)) ∧ ((0 ≤ fw_c 1 ∧ fw_c 1 < ((232 : Nat) : Int)) ∧ True ∧ ((0 ≤ fw_c 1 ∧ fw_c 1 ≤ 1) ∧ R (some (0, 0, 1)) (ab_ups σ 96 (fw_c 1).toNat (fw_c ((σ 96 (fw_c 1).toNat) + 1)))))) ∧ (fw_c (σ 93 7) = fw_c 2 → G 68 [some (2, 93, 0), some (0, 0, a1)] [] σ)))) : G 47 [some (2, 93, 0), some (0, 0, a1)] [] σ := fw_on hG [18, 23, 31, 47, 68, 79, 101, 109, 133] 200 h
theorem fs_m_readClue_68 {G : fw_K} {R : fw_KR} (hG : fw_cls st_m_readClue R G) {a1 : Int} {σ : ab_SG} (h : (0 ≤ fw_c 0 ∧ fw_c 0 < ((232 : Nat) : Int)) ∧ (sp_m_isOne [(2, 93, 0), (0, 0, 0), (0, 0, σ 96 (fw_c 0).toNat)] σ (fun rv σ2 => G 79 [some (2, 93, 0), some (0, 0, a1)] (rv.toList ++ []) σ2))) : G 68 [some (2, 93, 0), some (0, 0, a1)] [] σ := fw_on hG [18, 23, 31, 47, 68, 79, 101, 109, 133] 200 h
theorem fs_m_readClue_79 {G : fw_K} {R : fw_KR} (hG : fw_cls st_m_readClue R G) {a1 b0 : Int} {σ : ab_SG} (h : (fw_c b0 ≠ 0 → (0 ≤ fw_c (176 + a1) ∧ fw_c (176 + a1) < ((232 : Nat) : Int)) ∧ (sp_m_has [(0, 0, σ 96 (fw_c (176 + a1)).toNat), (0, 0, σ 93 13)] σ (fun rv σ2 => G 101 [some (2, 93, 0), some (0, 0, a1)] (rv.toList ++ []) σ2))) ∧ (fw_c b0 = 0 → (0 ≤ fw_c 0 ∧ fw_c 0 ≤ 1) ∧ R (some (0, 0, 0)) σ)) : G 79 [some (2, 93, 0), some (0, 0, a1)] [(0, 0, b0)] σ := fw_on hG [18, 23, 31, 47, 68, 79, 101, 109, 133] 200 h
theorem fs_m_readClue_101 {G : fw_K} {R : fw_KR} (hG : fw_cls st_m_readClue R G) {a1 b0 : Int} {σ : ab_SG} (h : (fw_c b0 = 0 → (0 ≤ fw_c (176 + a1) ∧ fw_c (176 + a1) < ((232 : Nat) : Int)) ∧ ((0 ≤ fw_c (176 + a1) ∧ fw_c (176 + a1) < ((232 : Nat) : Int)) ∧ True ∧ (sp_m_go [(2, 93, 0)] (ab_ups σ 96 (fw_c (176 + a1)).toNat (fw_c (fw_op 9 (σ 96 (fw_c (176 + a1)).toNat) (fw_op 5 1 (σ 93 13))))) (fun rv σ2 => G 133 [some (2, 93, 0), some (0, 0, a1)] (rv.toList ++ []) σ2)))) ∧ (fw_c b0 ≠ 0 → sp_m_bad [(2, 93, 0), (0, 0, 3)] σ (fun rv σ2 => G 109 [some (2, 93, 0), some (0, 0, a1)] (rv.toList ++ []) σ2))) : G 101 [some (2, 93, 0), some (0, 0, a1)] [(0, 0, b0)] σ := fw_on hG [18, 23, 31, 47, 68, 79, 101, 109, 133] 200 h
theorem fs_m_readClue_133 {G : fw_K} {R : fw_KR} (hG : fw_cls st_m_readClue R G) {a1 : Int} {σ : ab_SG} (h : G 47 [some (2, 93, 0), some (0, 0, a1)] [] σ) : G 133 [some (2, 93, 0), some (0, 0, a1)] [] σ := fw_on hG [18, 23, 31, 47, 68, 79, 101, 109, 133] 200 h
theorem fs_m_readClue_109 {G : fw_K} {R : fw_KR} (hG : fw_cls st_m_readClue R G) {a1 b0 : Int} {σ : ab_SG} (h : (0 ≤ fw_c b0 ∧ fw_c b0 ≤ 1) ∧ R (some (0, 0, b0)) σ) : G 109 [some (2, 93, 0), some (0, 0, a1)] [(0, 0, b0)] σ := fw_on hG [18, 23, 31, 47, 68, 79, 101, 109, 133] 200 h
theorem cl_body {G : fw_K} {K : fw_KR} (hG : fw_cls st_m_readClue K G) {x : Nat} (hx : x < 6) {σ0 σ A : ab_SG} {e : tk_E} {p : Nat} (hM : ab_okM md_M σ0 σ) (h : RC σ A x e p) (h0 : (pr_left A e x p).1 ≠ 0 → md_no σ0 (pr_left A e x p).1 K)
    (h1 : (pr_left A e x p).1 = 0 → ∀ σ' : ab_SG, ab_okM md_M σ0 σ' → RC σ' (pr_left A e x p).2.1 x e (pr_left A e x p).2.2 → cb_n ((pr_left A e x p).2.1 54 x) = cb_n (A 54 x) + 1 → G 47 [some (2, 93, 0), some (0, 0, (x : Int))] [] σ') :
    G 68 [some (2, 93, 0), some (0, 0, (x : Int))] [] σ := by
  obtain ⟨hm, hi, ex, hrr, ok, hnm, hb, hs1, hs2⟩ := h
  have mk := mg_kind hm.1
  have hi1 := hi.1
  have t0 : (fw_c 0).toNat = 0 := by rw [fw_c0]; rfl
  have u0 : 0 ≤ fw_c 0 ∧ fw_c 0 < ((232 : Nat) : Int) := by rw [fw_c0]; decide
  have ea : fw_c (176 + (x : Int)) = ((176 + x : Nat) : Int) := by rw [fw_c_id (by omega) (by omega)]; omega
  unfold pr_left at h0 h1
  rw [Int.toNat_natCast] at h0 h1
  refine fs_m_readClue_68 hG ⟨u0, ?_⟩
  rw [t0, hrr.1.1]
  refine ⟨0, 57, A 49 11, A, e, p, rfl, ⟨hi1.1, hi1.2, by omega⟩, hm, hrr.1.2.2.2.1, fun q σ' M2 h10 => ?_, fun q q0 q1 => ?_⟩
  · rw [if_pos q] at h0
    exact fs_m_readClue_79 hG ⟨fun z => absurd fw_c0 z, fun _ => ⟨fw_01, h0 q σ' (fw_okM_tr hM M2 (by decide)) h10⟩⟩
  rw [if_neg (fun y => y q)] at h0 h1
  have kq := pr_sk_k q
  generalize pr_ix A e 57 (A 49 11) p = u at h0 h1 q0 q1 ⊢
  have S1 : mt_is (ab_ups σ 93 13 u) e p := mt_ups hm (Or.inr ⟨rfl, by decide⟩)
  have M1 : ab_okM md_M σ0 (ab_ups σ 93 13 u) := fw_okM_ups hM (by decide)
  have v13 : ab_ups σ 93 13 u 93 13 = u := ab_ups_eq
  have k7 : ab_ups σ 93 13 u 93 7 = σ 93 7 := ab_ups_ne (by decide)
  have k25 : ab_ups σ 93 13 u 93 25 = σ 93 25 := ab_ups_ne (by decide)
  have k26 : ab_ups σ 93 13 u 93 26 = σ 93 26 := ab_ups_ne (by decide)
  have o96 : ab_ups σ 93 13 u 96 = σ 96 := ab_ups_row (by decide)
  have o100 : ab_ups σ 93 13 u 100 = σ 100 := ab_ups_row (by decide)
  have o103 : ab_ups σ 93 13 u 103 = σ 103 := ab_ups_row (by decide)
  generalize ab_ups σ 93 13 u = σ1 at S1 M1 v13 k7 k25 k26 o96 o100 o103 ⊢
  have b1 : σ1 96 (176 + x) = A 54 x := by rw [o96, hb]
  refine fs_m_readClue_79 hG ⟨fun _ => ?_, fun z => absurd (fw_c1.symm.trans z) (by decide)⟩
  rw [ea, Int.toNat_natCast, b1, v13]
  refine ⟨⟨Int.natCast_nonneg _, by omega⟩, A 54 x, u, rfl, fs_m_readClue_101 hG ⟨fun z => ?_, fun z => ?_⟩⟩
  · have hf : pr_hs (A 54 x) u = false := bl_f (fw_bo_eq z)
    rw [hf, if_neg (show ¬ (false = true) by decide)] at h0 h1
    have hcb := cb_st hs1 hs2 q0 (by omega)
    rw [ea, Int.toNat_natCast, b1, v13]
    refine ⟨⟨Int.natCast_nonneg _, by omega⟩, ⟨Int.natCast_nonneg _, by omega⟩, trivial, ?_⟩
    show sp_m_go [(2, 93, 0)] (ab_ups σ1 96 (176 + x) (pr_or (A 54 x) u)) _
    have hc1 := hcb.1 hf
    have h1 := h1 rfl
    dsimp only at h1
    generalize pr_or (A 54 x) u = w at h1 hcb hc1 ⊢
    refine mt_go (mt_ups S1 (Or.inl ⟨by decide, by decide⟩)) (fun σ2 M2 S2 => fs_m_readClue_133 hG ?_)
    have M4 : ab_okM md_M σ0 σ2 := fw_okM_tr (fw_okM_upa M1 (by decide)) M2 (by decide)
    have e96 : σ2 96 = ab_ups σ1 96 (176 + x) w 96 := fw_okM_c M2 (by decide)
    have e100 : σ2 100 = σ 100 := (fw_okM_c M2 (by decide)).trans ((ab_ups_row (by decide)).trans o100)
    have e103 : σ2 103 = σ 103 := (fw_okM_c M2 (by decide)).trans ((ab_ups_row (by decide)).trans o103)
    have e25 : σ2 93 25 = σ 93 25 := (M2 93 25 (by decide)).trans ((ab_ups_ne (fun z => absurd z.1 (by decide))).trans k25)
    have e26 : σ2 93 26 = σ 93 26 := (M2 93 26 (by decide)).trans ((ab_ups_ne (fun z => absurd z.1 (by decide))).trans k26)
    have B : ∀ k j : Nat, k ≠ 54 → ab_ups A 54 x w k j = A k j := fun k j q1 => ab_ups_ne (fun z => q1 z.1)
    have B54 : ∀ j : Nat, j ≠ x → ab_ups A 54 x w 54 j = A 54 j := fun j q => ab_ups_ne (fun z => q z.2)
    have B54x : ab_ups A 54 x w 54 x = w := ab_ups_eq
    have j11 : ab_ups A 54 x w 49 11 = A 49 11 := B 49 11 (by decide)
    refine h1 σ2 M4 ⟨S2, hi, ex, ?_, ok, ?_, ?_, ?_, ?_⟩ ?_
    · refine rm_cong (u := 176 + x) (v := 177 + x) (w := 9 + x) hi.1 (by omega) hi.2.2.1 hi.2.2.2.2.2.2.1 (by omega) (by omega) (by omega) (by omega) (fun j hj => ?_) (fun j _ => by rw [e100]) e103 e25 e26 (fun k j p1 p2 p3 p4 => ?_) hrr
      · rw [e96, ab_ups_ne (fun z => by omega), o96]
      · by_cases c54 : k = 54
        · subst c54
          exact B54 j (by have := p4 (Or.inl rfl); omega)
        exact B k j c54
    · rw [B 58 x (by decide), e100]; exact hnm
    · rw [B54x, e96, ab_ups_eq]
    · rw [B54x]; exact hcb.2.1
    · rw [B54x]; exact hcb.2.2
    · rw [B54x]; exact hc1
  · have hp : pr_hs (A 54 x) u = true := fw_bo_ne z
    rw [hp, if_pos rfl] at h0
    refine ⟨3, rfl, by decide, by rw [k7]; exact mk.2.2.2.2, fun σ' M2 h10 _ => fs_m_readClue_109 hG ⟨fw_01, h0 (by show (3 : Int) ≠ 0; decide) σ' (fw_okM_tr M1 M2 (by decide)) ?_⟩⟩
    rw [h10, k7, if_neg (show ¬ σ 93 7 = 1 by have := mk.1.mpr kq; omega)]
theorem cm_loop {G : fw_K} {K : fw_KR} (hG : fw_cls st_m_readClue K G) {x : Nat} (hx : x < 6) {σ0 : ab_SG} {e : tk_E} : ∀ (f : Nat) (σ A : ab_SG) (p : Nat), cb_n (A 54 x) + f = 10 → 1 ≤ cb_n (A 54 x) → ab_okM md_M σ0 σ → RC σ A x e p → ((pr_lefts e x f A p).1 ≠ 0 → md_no σ0 (pr_lefts e x f A p).1 K) →
    ((pr_lefts e x f A p).1 = 0 → ∀ σ' : ab_SG, ab_okM md_M σ0 σ' → RC σ' (pr_lefts e x f A p).2.1 x e (pr_lefts e x f A p).2.2 → K (some (0, 0, 1)) (ab_ups σ' 96 1 ((x : Int) + 1))) → G 47 [some (2, 93, 0), some (0, 0, (x : Int))] [] σ := by
  have t1 : (fw_c 1).toNat = 1 := by rw [fw_c1]; rfl
  have u1 : 0 ≤ fw_c 1 ∧ fw_c 1 < ((232 : Nat) : Int) := by rw [fw_c1]; decide
  have z2 : fw_c 2 = 2 := fw_c_id (by decide) (by decide)
  have ea : fw_c (176 + (x : Int)) = ((176 + x : Nat) : Int) := by rw [fw_c_id (by omega) (by omega)]; omega
  have ex1 : fw_c ((x : Int) + 1) = (x : Int) + 1 := fw_c_id (by omega) (by omega)
  intro f
  induction f with
  | zero =>
    intro σ A p hf _ _ _ _ _
    have := cb_le (A 54 x)
    exact absurd hf (by omega)
  | succ f ih =>
    intro σ A p hf hA hM h h0 h1
    have mk := mg_kind h.1.1
    have hs1 : 0 ≤ A 54 x := h.2.2.2.2.2.2.2.1
    have hs2 : A 54 x < 512 := h.2.2.2.2.2.2.2.2
    have hb : σ 96 (176 + x) = A 54 x := h.2.2.2.2.2.2.1
    have c1 : σ 96 1 = (x : Int) := h.2.2.2.1.1.2.1
    have ec : fw_c (A 54 x) = A 54 x := fw_c_id (by omega) (by omega)
    have e7 : fw_c (σ 93 7) = σ 93 7 := fw_c_id (by omega) (by omega)
    have hne : A 54 x ≠ 0 := fun z => by rw [z, cb_0] at hA; exact absurd hA (by decide)
    unfold pr_lefts at h0 h1
    refine fs_m_readClue_47 hG ?_
    rw [ea, Int.toNat_natCast, hb, ec, e7, z2]
    refine ⟨⟨Int.natCast_nonneg _, by omega⟩, fun q => absurd q hne, fun _ => ⟨fun q => ?_, fun q => ?_⟩⟩
    · rw [if_pos (fun y => q (mk.1.mpr y))] at h1
      rw [t1, c1, ex1]
      exact ⟨u1, u1, trivial, fw_11, h1 rfl σ hM h⟩
    · rw [if_neg (fun y => y (mk.1.mp q))] at h0 h1
      refine cl_body hG hx hM h (fun n0 => ?_) (fun n0 σ' M' R' i' => ?_)
      · rw [if_pos n0] at h0
        exact h0 n0
      · rw [if_neg (fun y => y n0)] at h0 h1
        exact ih σ' _ _ (by omega) (by omega) M' R' h0 h1
section
variable {l : Launch} {cy : Nat → ClassId} {ad wr cr : Nat → Nat} {D : va_G}
theorem fm_m_readClue (hinj : nn_inj ad) : fw_H l cy ad wr cr D 228 4 sp_m_readClue := fw_mk hinj (⟨"NameNotesModel", "readClue", "()Z"⟩, prog_14_method_33_code, 2, (Option.some Jvm.ClassFile.FieldType.boolean), 0, true, 1) rfl rfl nn_KI20_ok nn_KJ20_ok nn_PF20_ok nn_PS20_ok (by decide +kernel) rfl rfl (List.forall_mem_cons.mpr ⟨fw_row nn_PM20_ok (x := 168) (k := 0) (mn := 221) (np := 1) (ob := true) (ci := 11) (⟨"NameNotesModel", "bad", "(I)Z"⟩, prog_14_method_23_code, 2, (Option.some Jvm.ClassFile.FieldType.boolean), 1, true, 1) rfl (by decide +kernel) rfl rfl (by decide) (fun _ => ⟨_, _, rfl⟩) (fm_m_bad hinj), (List.forall_mem_cons.mpr ⟨fw_row nn_PM20_ok (x := 182) (k := 0) (mn := 212) (np := 0) (ob := true) (ci := 11) (⟨"NameNotesModel", "go", "()V"⟩, prog_14_method_17_code, 5, (Option.none : Option Jvm.ClassFile.FieldType), 0, true, 4) rfl (by decide +kernel) rfl rfl (by decide) (fun _ => ⟨_, _, rfl⟩) (fm_m_go hinj), (List.forall_mem_cons.mpr ⟨fw_row nn_PM20_ok (x := 207) (k := 0) (mn := 222) (np := 1) (ob := true) (ci := 11) (⟨"NameNotesModel", "readNew", "(I)Z"⟩, prog_14_method_30_code, 3, (Option.some Jvm.ClassFile.FieldType.boolean), 1, true, 1) rfl (by decide +kernel) rfl rfl (by decide) (fun _ => ⟨_, _, rfl⟩) (fm_m_readNew hinj), (List.forall_mem_cons.mpr ⟨fw_row nn_PM20_ok (x := 213) (k := 0) (mn := 229) (np := 2) (ob := true) (ci := 11) (⟨"NameNotesModel", "isOne", "(II)Z"⟩, prog_14_method_31_code, 3, (Option.some Jvm.ClassFile.FieldType.boolean), 2, true, 1) rfl (by decide +kernel) rfl rfl (by decide) (fun _ => ⟨_, _, rfl⟩) (fm_m_isOne hinj), (List.forall_mem_cons.mpr ⟨fw_row nn_PM20_ok (x := 216) (k := 0) (mn := 230) (np := 2) (ob := false) (ci := 0) (⟨"NameNotesModel", "has", "(II)Z"⟩, prog_14_method_9_code, 2, (Option.some Jvm.ClassFile.FieldType.boolean), 2, false, 1) rfl (by decide +kernel) rfl rfl (by decide) (fun q => by cases q) (fm_m_has hinj), (fun _ h => absurd h List.not_mem_nil)⟩)⟩)⟩)⟩)⟩) (fun as σ K h => by
  obtain ⟨A, e, p, rfl, ⟨hm, hi, hr⟩, hk, h0, h1⟩ := h
  have mk := mg_kind hm.1
  have t1 : (fw_c 1).toNat = 1 := by rw [fw_c1]; rfl
  have u1 : 0 ≤ fw_c 1 ∧ fw_c 1 < ((232 : Nat) : Int) := by rw [fw_c1]; decide
  have z6 : fw_c 6 = 6 := fw_c_id (by decide) (by decide)
  have h12 := hr.1.2.1
  have c12 : fw_c (A 49 12) = A 49 12 := fw_c_id (by omega) (by omega)
  unfold pr_clue at h0 h1
  refine ⟨rfl, fun G hG => fs_m_readClue_0 hG ⟨u1, ?_⟩⟩
  rw [t1, h12.1, c12, z6]
  refine ⟨fun q => ?_, fun q => ?_⟩
  · rw [if_neg (show ¬ 6 ≤ A 49 12 by omega)] at h0 h1
    refine mt_go hm (fun σ1 M1 S1 => fs_m_readClue_23 hG ?_)
    have hr1 := rs_M hr (fw_okM_tr (fw_okM_refl _ _) M1 (by decide))
    obtain ⟨x, hx⟩ : ∃ x : Nat, A 49 12 = (x : Int) := ⟨(A 49 12).toNat, by omega⟩
    have hx9 : x < 6 := by omega
    rw [hx] at h0 h1 ⊢
    rw [Int.toNat_natCast] at h0 h1
    refine ⟨9 + x, A, e, tn e p, by rw [show (((9 + x : Nat) : Int)) = 9 + (x : Int) by omega], by omega, S1, hr1.1, fun n0 σ' M2 h10 => ?_, fun n0 k2 ok σ2 M2 S2 => ?_⟩
    · rw [if_pos n0] at h0
      exact fs_m_readClue_31 hG ⟨fun z => absurd fw_c0 z, fun _ => ⟨fw_01, h0 n0 σ' (fw_okM_tr (fw_okM_tr (fw_okM_refl _ _) M1 (by decide)) M2 (by decide)) h10⟩⟩
    · rw [if_neg (fun y => y n0)] at h0 h1
      dsimp only at h0 h1
      have bw := rf_ok_in 7 _ ok
      rw [rf_C7] at bw
      have dw : fw_d (pr_wd e (tn e p)) = pr_wd e (tn e p) := fw_d_id (by omega) (by omega)
      generalize pr_wd e (tn e p) = w at h0 h1 ok dw M2
      have ea : fw_c (176 + (x : Int)) = ((176 + x : Nat) : Int) := by rw [fw_c_id (by omega) (by omega)]; omega
      have N2 : ab_okM md_M σ σ2 := fw_okM_tr (fw_okM_upa (fw_okM_tr (fw_okM_refl _ _) M1 (by decide)) (by decide)) M2 (by decide)
      have N1 : ab_okM ((93, 13) :: go_M) σ σ1 := fw_okM_tr (fw_okM_refl _ _) M1 (by decide)
      have e96 : σ2 96 = σ 96 := (fw_okM_c M2 (by decide)).trans ((ab_ups_row (by decide)).trans (fw_okM_c N1 (by decide)))
      have e103 : σ2 103 = σ 103 := (fw_okM_c M2 (by decide)).trans ((ab_ups_row (by decide)).trans (fw_okM_c N1 (by decide)))
      have e25 : σ2 93 25 = σ 93 25 := (M2 93 25 (by decide)).trans ((ab_ups_ne (fun z => absurd z.1 (by decide))).trans (N1 93 25 (by decide)))
      have e26 : σ2 93 26 = σ 93 26 := (M2 93 26 (by decide)).trans ((ab_ups_ne (fun z => absurd z.1 (by decide))).trans (N1 93 26 (by decide)))
      have e100 : σ2 100 = ab_ups σ1 100 (9 + x) (rf_w 7 w) 100 := fw_okM_c M2 (by decide)
      have o100 : σ1 100 = σ 100 := fw_okM_c N1 (by decide)
      refine fs_m_readClue_31 hG ⟨fun _ => ?_, fun z => absurd (fw_c1.symm.trans z) (by decide)⟩
      rw [ea, Int.toNat_natCast, fw_c0]
      refine ⟨⟨Int.natCast_nonneg _, by omega⟩, trivial, fs_m_readClue_47 hG ?_⟩
      rw [ea, Int.toNat_natCast, ab_ups_eq]
      refine ⟨⟨Int.natCast_nonneg _, by omega⟩, fun _ => ?_, fun z => absurd fw_c0 z⟩
      have B : ∀ k j : Nat, k ≠ 58 → k ≠ 54 → (k = 49 → j ≠ 12) → ab_ups (ab_ups (ab_ups A 58 x w) 54 x 0) 49 12 ((x : Int) + 1) k j = A k j := fun k j q1 q2 q3 => by rw [ab_ups_ne (fun z => q3 z.1 z.2), ab_ups_ne (fun z => q2 z.1), ab_ups_ne (fun z => q1 z.1)]
      have B58 : ∀ j : Nat, j ≠ x → ab_ups (ab_ups (ab_ups A 58 x w) 54 x 0) 49 12 ((x : Int) + 1) 58 j = A 58 j := fun j q => by rw [ab_ups_ne (fun z => absurd z.1 (by decide)), ab_ups_ne (fun z => absurd z.1 (by decide)), ab_ups_ne (fun z => q z.2)]
      have B58x : ab_ups (ab_ups (ab_ups A 58 x w) 54 x 0) 49 12 ((x : Int) + 1) 58 x = w := by rw [ab_ups_ne (fun z => absurd z.1 (by decide)), ab_ups_ne (fun z => absurd z.1 (by decide)), ab_ups_eq]
      have B54 : ∀ j : Nat, j ≠ x → ab_ups (ab_ups (ab_ups A 58 x w) 54 x 0) 49 12 ((x : Int) + 1) 54 j = A 54 j := fun j q => by rw [ab_ups_ne (fun z => absurd z.1 (by decide)), ab_ups_ne (fun z => q z.2), ab_ups_ne (fun z => absurd z.1 (by decide))]
      have B54x : ab_ups (ab_ups (ab_ups A 58 x w) 54 x 0) 49 12 ((x : Int) + 1) 54 x = 0 := by rw [ab_ups_ne (fun z => absurd z.1 (by decide)), ab_ups_eq]
      have B12 : ab_ups (ab_ups (ab_ups A 58 x w) 54 x 0) 49 12 ((x : Int) + 1) 49 12 = (x : Int) + 1 := ab_ups_eq
      have hrr := And.intro (rn_n_of hr.1) (rs_n_of hr.2)
      rw [hx] at hrr
      have hRC : RC (ab_ups σ2 96 (176 + x) 0) (ab_ups (ab_ups (ab_ups A 58 x w) 54 x 0) 49 12 ((x : Int) + 1)) x e (tn e (tn e p)) := by
        refine ⟨mt_ups S2 (Or.inl ⟨by decide, by decide⟩), ?_, B12, ?_, ?_, ?_, ?_, ?_, ?_⟩
        · refine ⟨hi.1, by rw [B12]; omega, hi.2.2.1, hi.2.2.2.1, fun j hj => ?_, hi.2.2.2.2.2.1, hi.2.2.2.2.2.2.1, hi.2.2.2.2.2.2.2⟩
          by_cases c : j = x
          · rw [c, B58x]; exact dw
          · rw [B58 j c]; exact hi.2.2.2.2.1 j hj
        · rw [B 49 11 (by decide) (by decide) (fun _ => by decide)]
          refine rm_cong (u := 176 + x) (v := 177 + x) (w := 9 + x) hi.1 (by omega) hi.2.2.1 hi.2.2.2.2.2.2.1 (by have := hi.1; omega) (by omega) (by omega) (by have := hi.1; omega) (fun j hj => ?_) (fun j hj => ?_) ?_ ?_ ?_ (fun k j q1 q2 q3 q4 => ?_) hrr
          · rw [ab_ups_ne (fun z => by omega), e96]
          · rw [ab_ups_ne (fun z => absurd z.1 (by decide)), e100, ab_ups_ne (fun z => hj z.2), o100]
          · rw [ab_ups_row (by decide), e103]
          · rw [ab_ups_ne (fun z => absurd z.1 (by decide)), e25]
          · rw [ab_ups_ne (fun z => absurd z.1 (by decide)), e26]
          · by_cases c58 : k = 58
            · subst c58
              exact B58 j (by have := q4 (Or.inr rfl); omega)
            by_cases c54 : k = 54
            · subst c54
              exact B54 j (by have := q4 (Or.inl rfl); omega)
            exact B k j c58 c54 (fun z => (q1 z).2)
        · rw [B58x]; exact ok
        · rw [B58x, ab_ups_ne (fun z => absurd z.1 (by decide)), e100, ab_ups_eq]
        · rw [B54x, ab_ups_eq]
        · rw [B54x]; decide
        · rw [B54x]; decide
      have hM3 : ab_okM md_M σ (ab_ups σ2 96 (176 + x) 0) := fw_okM_upa N2 (by decide)
      generalize ab_ups (ab_ups (ab_ups A 58 x w) 54 x 0) 49 12 ((x : Int) + 1) = A1 at h0 h1 hRC B54x
      have cb0 : cb_n (A1 54 x) = 0 := by rw [B54x, cb_0]
      refine cl_body hG hx9 hM3 hRC (fun n1 => ?_) (fun n1 σ' M' R' i' => ?_)
      · rw [if_pos n1] at h0
        exact h0 n1
      · rw [if_neg (fun y => y n1)] at h0 h1
        refine cm_loop hG hx9 9 σ' _ _ (by omega) (by omega) M' R' h0 (fun n2 σ3 M3 R3 => h1 n2 _ (fw_okM_upa M3 (by decide)) (RC_end hx9 R3))
  · rw [if_pos (show 6 ≤ A 49 12 by omega)] at h0
    refine ⟨4, rfl, by decide, mk.2.2.2.2, fun σ' hM h10 _ => fs_m_readClue_18 hG ⟨fw_01, h0 (by show (4 : Int) ≠ 0; decide) σ' (fw_okM_tr (fw_okM_refl _ _) hM (by decide)) ?_⟩⟩
    rw [h10, if_neg (show ¬ σ 93 7 = 1 by have := mk.1.mpr hk; omega)])
end
end
section
/-! the reference's lines: each -/
def pr_fin (e : tk_E) (r : pr_R) : pr_R := if r.1 ≠ 0 then r else if (tk e r.2.2).1 ≠ 59 then (1, r.2.1, r.2.2) else (0, r.2.1, tn e r.2.2)
theorem pr_lns_fin (A : ab_SG) (e : tk_E) (p : Nat) : pr_lns A e p = pr_fin e (pr_line A e p) := rfl
theorem tw_k {e : tk_E} {p : Nat} (h : 0 ≤ tw e p) : (tk e p).1 = 2 := by
  unfold tw at h
  by_cases c : (tk e p).1 = 2
  · exact c
  · rw [if_neg c] at h
    exact absurd h (by decide)
/-! where a line ends -/
theorem pr_note_p {A : ab_SG} {e : tk_E} {x : Int} {p : Nat} (h : p ≤ e.2.1) (q : (pr_note A e x p).1 = 0) : p ≤ (pr_note A e x p).2.2 ∧ (pr_note A e x p).2.2 ≤ e.2.1 := by
  have g1 := tn_le h
  have g2 := tn_le g1.2
  unfold pr_note at q ⊢
  by_cases c1 : pr_nm e p 0 24 ≠ 0
  · rw [if_pos c1] at q; exact absurd q c1
  rw [if_neg c1] at q ⊢
  by_cases c2 : 9 ≤ A 52 x.toNat
  · rw [if_pos c2] at q; exact absurd q (show ¬ (4 : Int) = 0 by decide)
  rw [if_neg c2] at q ⊢
  by_cases c3 : pr_nm e (tn e p) 1 9 ≠ 0
  · rw [if_pos c3] at q; exact absurd q c3
  rw [if_neg c3]
  exact ⟨Nat.le_trans g1.1 g2.1, g2.2⟩
theorem pr_notes_p {e : tk_E} {x : Int} : ∀ (f : Nat) (A : ab_SG) (p : Nat), p ≤ e.2.1 → (pr_notes e x f A p).1 = 0 → p ≤ (pr_notes e x f A p).2.2 ∧ (pr_notes e x f A p).2.2 ≤ e.2.1 := by
  intro f
  induction f with
  | zero => intro A p h _; exact ⟨Nat.le_refl _, h⟩
  | succ f ih =>
    intro A p h q
    unfold pr_notes at q ⊢
    by_cases c1 : (tk e p).1 ≠ 3
    · rw [if_pos c1]; exact ⟨Nat.le_refl _, h⟩
    rw [if_neg c1] at q ⊢
    by_cases c2 : (pr_note A e x p).1 ≠ 0
    · rw [if_pos c2] at q; exact absurd q c2
    rw [if_neg c2] at q ⊢
    have g := pr_note_p h (Classical.not_not.mp c2)
    have g2 := ih _ _ g.2 q
    exact ⟨Nat.le_trans g.1 g2.1, g2.2⟩
theorem pr_left_p {A : ab_SG} {e : tk_E} {x : Int} {p : Nat} (h : p ≤ e.2.1) (q : (pr_left A e x p).1 = 0) : p ≤ (pr_left A e x p).2.2 ∧ (pr_left A e x p).2.2 ≤ e.2.1 := by
  have g1 := tn_le h
  unfold pr_left at q ⊢
  by_cases c1 : pr_sk A e 57 (A 49 11) p ≠ 0
  · rw [if_pos c1] at q; exact absurd q c1
  rw [if_neg c1] at q ⊢
  by_cases c2 : pr_hs (A 54 x.toNat) (pr_ix A e 57 (A 49 11) p) = true
  · rw [if_pos c2] at q; exact absurd q (show ¬ (3 : Int) = 0 by decide)
  rw [if_neg c2]
  exact g1
theorem pr_lefts_p {e : tk_E} {x : Int} : ∀ (f : Nat) (A : ab_SG) (p : Nat), p ≤ e.2.1 → (pr_lefts e x f A p).1 = 0 → p ≤ (pr_lefts e x f A p).2.2 ∧ (pr_lefts e x f A p).2.2 ≤ e.2.1 := by
  intro f
  induction f with
  | zero => intro A p h _; exact ⟨Nat.le_refl _, h⟩
  | succ f ih =>
    intro A p h q
    unfold pr_lefts at q ⊢
    by_cases c1 : (tk e p).1 ≠ 2
    · rw [if_pos c1]; exact ⟨Nat.le_refl _, h⟩
    rw [if_neg c1] at q ⊢
    by_cases c2 : (pr_left A e x p).1 ≠ 0
    · rw [if_pos c2] at q; exact absurd q c2
    rw [if_neg c2] at q ⊢
    have g := pr_left_p h (Classical.not_not.mp c2)
    have g2 := ih _ _ g.2 q
    exact ⟨Nat.le_trans g.1 g2.1, g2.2⟩
theorem pr_tune_p {A : ab_SG} {e : tk_E} {p : Nat} (h : p ≤ e.2.1) (q : (pr_tune A e p).1 = 0) : tn e p ≤ (pr_tune A e p).2.2 ∧ (pr_tune A e p).2.2 ≤ e.2.1 := by
  have g1 := tn_le h
  have g2 := tn_le g1.2
  unfold pr_tune at q ⊢
  by_cases c1 : 9 ≤ A 49 11
  · rw [if_pos c1] at q; exact absurd q (show ¬ (4 : Int) = 0 by decide)
  rw [if_neg c1] at q ⊢
  by_cases c2 : pr_new A e (tn e p) ≠ 0
  · rw [if_pos c2] at q; exact absurd q c2
  rw [if_neg c2] at q ⊢
  dsimp only at q ⊢
  generalize ab_ups (ab_ups (ab_ups A 57 (A 49 11).toNat (pr_wd e (tn e p))) 52 (A 49 11).toNat 0) 49 11 (A 49 11 + 1) = A1 at q ⊢
  by_cases c3 : (pr_note A1 e (A 49 11) (tn e (tn e p))).1 ≠ 0
  · rw [if_pos c3] at q; exact absurd q c3
  rw [if_neg c3] at q ⊢
  have g3 := pr_note_p g2.2 (Classical.not_not.mp c3)
  have g4 := pr_notes_p 9 _ _ g3.2 q
  exact ⟨Nat.le_trans g2.1 (Nat.le_trans g3.1 g4.1), g4.2⟩
theorem pr_clue_p {A : ab_SG} {e : tk_E} {p : Nat} (h : p ≤ e.2.1) (q : (pr_clue A e p).1 = 0) : tn e p ≤ (pr_clue A e p).2.2 ∧ (pr_clue A e p).2.2 ≤ e.2.1 := by
  have g1 := tn_le h
  have g2 := tn_le g1.2
  unfold pr_clue at q ⊢
  by_cases c1 : 6 ≤ A 49 12
  · rw [if_pos c1] at q; exact absurd q (show ¬ (4 : Int) = 0 by decide)
  rw [if_neg c1] at q ⊢
  by_cases c2 : pr_new A e (tn e p) ≠ 0
  · rw [if_pos c2] at q; exact absurd q c2
  rw [if_neg c2] at q ⊢
  dsimp only at q ⊢
  generalize ab_ups (ab_ups (ab_ups A 58 (A 49 12).toNat (pr_wd e (tn e p))) 54 (A 49 12).toNat 0) 49 12 (A 49 12 + 1) = A1 at q ⊢
  by_cases c3 : (pr_left A1 e (A 49 12) (tn e (tn e p))).1 ≠ 0
  · rw [if_pos c3] at q; exact absurd q c3
  rw [if_neg c3] at q ⊢
  have g3 := pr_left_p g2.2 (Classical.not_not.mp c3)
  have g4 := pr_lefts_p 9 _ _ g3.2 q
  exact ⟨Nat.le_trans g2.1 (Nat.le_trans g3.1 g4.1), g4.2⟩
theorem pr_person_p {A : ab_SG} {e : tk_E} {p : Nat} (h : p ≤ e.2.1) (q : (pr_person A e p).1 = 0) : tn e p ≤ (pr_person A e p).2.2 ∧ (pr_person A e p).2.2 ≤ e.2.1 := by
  have g1 := tn_le h
  have g2 := tn_le g1.2
  unfold pr_person at q ⊢
  by_cases c1 : 5 ≤ A 49 13
  · rw [if_pos c1] at q; exact absurd q (show ¬ (4 : Int) = 0 by decide)
  rw [if_neg c1] at q ⊢
  by_cases c2 : pr_new A e (tn e p) ≠ 0
  · rw [if_pos c2] at q; exact absurd q c2
  rw [if_neg c2]
  exact g2
theorem pr_knows_p {A : ab_SG} {e : tk_E} {p : Nat} (h : p ≤ e.2.1) (q : (pr_knows A e p).1 = 0) : tn e p ≤ (pr_knows A e p).2.2 ∧ (pr_knows A e p).2.2 ≤ e.2.1 := by
  have g1 := tn_le h
  have g2 := tn_le g1.2
  have g3 := tn_le g2.2
  have g4 := tn_le g3.2
  unfold pr_knows at q ⊢
  by_cases c1 : pr_sk A e 59 (A 49 13) (tn e p) ≠ 0
  · rw [if_pos c1] at q; exact absurd q c1
  rw [if_neg c1] at q ⊢
  by_cases c2 : pr_sk A e 57 (A 49 11) (tn e (tn e p)) ≠ 0
  · rw [if_pos c2] at q; exact absurd q c2
  rw [if_neg c2] at q ⊢
  by_cases c3 : pr_hs (A 64 (pr_ix A e 59 (A 49 13) (tn e p)).toNat) (pr_ix A e 57 (A 49 11) (tn e (tn e p))) = true
  · rw [if_pos c3] at q; exact absurd q (show ¬ (3 : Int) = 0 by decide)
  rw [if_neg c3] at q ⊢
  by_cases c4 : pr_nm e (tn e (tn e (tn e p))) 0 9 ≠ 0
  · rw [if_pos c4] at q; exact absurd q c4
  rw [if_neg c4]
  exact ⟨Nat.le_trans g2.1 (Nat.le_trans g3.1 g4.1), g4.2⟩
theorem pr_dare_p {A : ab_SG} {e : tk_E} {p : Nat} (h : p ≤ e.2.1) (q : (pr_dare A e p).1 = 0) : tn e p ≤ (pr_dare A e p).2.2 ∧ (pr_dare A e p).2.2 ≤ e.2.1 := by
  have g1 := tn_le h
  have g2 := tn_le g1.2
  have g3 := tn_le g2.2
  unfold pr_dare at q ⊢
  by_cases c1 : pr_sk A e 59 (A 49 13) (tn e p) ≠ 0
  · rw [if_pos c1] at q; exact absurd q c1
  rw [if_neg c1] at q ⊢
  by_cases c3 : pr_hs (A 48 3) (pr_ix A e 59 (A 49 13) (tn e p)) = true
  · rw [if_pos c3] at q; exact absurd q (show ¬ (3 : Int) = 0 by decide)
  rw [if_neg c3] at q ⊢
  by_cases c4 : pr_nm e (tn e (tn e p)) 0 9 ≠ 0
  · rw [if_pos c4] at q; exact absurd q c4
  rw [if_neg c4]
  exact ⟨Nat.le_trans g2.1 g3.1, g3.2⟩
theorem pr_from_p {A : ab_SG} {e : tk_E} {p : Nat} (h : p ≤ e.2.1) (q : (pr_from A e p).1 = 0) : tn e p ≤ (pr_from A e p).2.2 ∧ (pr_from A e p).2.2 ≤ e.2.1 := by
  have g1 := tn_le h
  have g2 := tn_le g1.2
  unfold pr_from at q ⊢
  by_cases c1 : A 48 4 ≠ 0
  · rw [if_pos c1] at q; exact absurd q (show ¬ (3 : Int) = 0 by decide)
  rw [if_neg c1] at q ⊢
  by_cases c4 : pr_nm e (tn e p) 1 9 ≠ 0
  · rw [if_pos c4] at q; exact absurd q c4
  rw [if_neg c4]
  exact g2
theorem pr_line_p {A : ab_SG} {e : tk_E} {p : Nat} (h : p ≤ e.2.1) (q : (pr_line A e p).1 = 0) : 0 ≤ tw e p ∧ tn e p ≤ (pr_line A e p).2.2 ∧ (pr_line A e p).2.2 ≤ e.2.1 := by
  unfold pr_line at q ⊢
  by_cases c0 : tw e p = 0
  · rw [if_pos c0] at q ⊢; exact ⟨by omega, pr_tune_p h q⟩
  rw [if_neg c0] at q ⊢
  by_cases c1 : tw e p = 1
  · rw [if_pos c1] at q ⊢; exact ⟨by omega, pr_clue_p h q⟩
  rw [if_neg c1] at q ⊢
  by_cases c2 : tw e p = 2
  · rw [if_pos c2] at q ⊢; exact ⟨by omega, pr_person_p h q⟩
  rw [if_neg c2] at q ⊢
  by_cases c3 : tw e p = 3
  · rw [if_pos c3] at q ⊢; exact ⟨by omega, pr_knows_p h q⟩
  rw [if_neg c3] at q ⊢
  by_cases c4 : tw e p = 4
  · rw [if_pos c4] at q ⊢; exact ⟨by omega, pr_dare_p h q⟩
  rw [if_neg c4] at q ⊢
  by_cases c5 : tw e p = 5
  · rw [if_pos c5] at q ⊢; exact ⟨by omega, pr_from_p h q⟩
  rw [if_neg c5] at q
  exact absurd q (show ¬ (1 : Int) = 0 by decide)
/-- a line has two bytes at least -/
theorem pr_lns_p {A : ab_SG} {e : tk_E} {p : Nat} (h : p ≤ e.2.1) (q : (pr_lns A e p).1 = 0) : p + 2 ≤ (pr_lns A e p).2.2 ∧ (pr_lns A e p).2.2 ≤ e.2.1 := by
  unfold pr_lns at q ⊢
  by_cases c0 : (pr_line A e p).1 ≠ 0
  · rw [if_pos c0] at q; exact absurd q c0
  rw [if_neg c0] at q ⊢
  have g := pr_line_p h (Classical.not_not.mp c0)
  by_cases c1 : (tk e (pr_line A e p).2.2).1 ≠ 59
  · rw [if_pos c1] at q; exact absurd q (show ¬ (1 : Int) = 0 by decide)
  rw [if_neg c1]
  have k1 := tn_lt h (by rw [tw_k g.1]; decide)
  have k2 := tn_lt g.2.2 (by rw [Classical.not_not.mp c1]; decide)
  have g2 := tn_le g.2.2
  exact ⟨by show p + 2 ≤ tn e (pr_line A e p).2.2; omega, g2.2⟩
def sp_m_readLine : fw_SP := fun as σ K => ∃ (A : ab_SG) (e : tk_E) (p : Nat), as = [(2, 93, 0)] ∧ RM σ A e p ∧ md_post σ (pr_lns A e p) e K
abbrev fk_m_readLine : List fw_CR := [(168, 1, true, 11, 0, sp_m_bad), (225, 1, true, 11, 2, sp_m_isWord), (228, 0, true, 11, 4, sp_m_readTune), (231, 0, true, 11, 4, sp_m_readClue), (234, 0, true, 11, 4, sp_m_readPerson), (237, 0, true, 11, 4, sp_m_readKnows), (240, 0, true, 11, 4, sp_m_readDare), (243, 0, true, 11, 4, sp_m_readFrom), (246, 0, true, 11, 2, sp_m_readEnd)]
abbrev st_m_readLine : fw_K → fw_KR → fw_K := fw_st vwCl nn_sh nn_kd fw_kv fw_wc (nn_KI20.map (fun x => x.1)) (nn_KJ20.map (fun x => x.1)) (nn_PF20.map (fun x => x.1)) (nn_PS20.map (fun x => x.1)) fk_m_readLine 5 nn_dt216 2 1
theorem fs_m_readLine_0 {G : fw_K} {R : fw_KR} (hG : fw_cls st_m_readLine R G) {σ : ab_SG} (h : sp_m_isWord [(2, 93, 0), (0, 0, 0)] σ (fun rv σ2 => G 5 [some (2, 93, 0), none] (rv.toList ++ []) σ2)) : G 0 [some (2, 93, 0), none] [] σ := fw_on hG [5, 12, 21, 28, 37, 44, 53, 60, 69, 76, 85, 92, 100, 101, 109] 200 h
theorem fs_m_readLine_5 {G : fw_K} {R : fw_KR} (hG : fw_cls st_m_readLine R G) {b0 : Int} {σ : ab_SG} (h : (fw_c b0 = 0 → sp_m_isWord [(2, 93, 0), (0, 0, 1)] σ (fun rv σ2 => G 21 [some (2, 93, 0), none] (rv.toList ++ []) σ2)) ∧ (fw_c b0 ≠ 0 → sp_m_readTune [(2, 93, 0)] σ (fun rv σ2 => G 12 [some (2, 93, 0), none] (rv.toList ++ []) σ2))) : G 5 [some (2, 93, 0), none] [(0, 0, b0)] σ := fw_on hG [5, 12, 21, 28, 37, 44, 53, 60, 69, 76, 85, 92, 100, 101, 109] 200 h
theorem fs_m_readLine_21 {G : fw_K} {R : fw_KR} (hG : fw_cls st_m_readLine R G) {b0 : Int} {σ : ab_SG} (h : (fw_c b0 = 0 → sp_m_isWord [(2, 93, 0), (0, 0, 2)] σ (fun rv σ2 => G 37 [some (2, 93, 0), none] (rv.toList ++ []) σ2)) ∧ (fw_c b0 ≠ 0 → sp_m_readClue [(2, 93, 0)] σ (fun rv σ2 => G 28 [some (2, 93, 0), none] (rv.toList ++ []) σ2))) : G 21 [some (2, 93, 0), none] [(0, 0, b0)] σ := fw_on hG [5, 12, 21, 28, 37, 44, 53, 60, 69, 76, 85, 92, 100, 101, 109] 200 h
theorem fs_m_readLine_12 {G : fw_K} {R : fw_KR} (hG : fw_cls st_m_readLine R G) {b0 : Int} {σ : ab_SG} (h : G 101 [some (2, 93, 0), some (0, 0, b0)] [] σ) : G 12 [some (2, 93, 0), none] [(0, 0, b0)] σ := fw_on hG [5, 12, 21, 28, 37, 44, 53, 60, 69, 76, 85, 92, 100, 101, 109] 200 h
theorem fs_m_readLine_37 {G : fw_K} {R : fw_KR} (hG : fw_cls st_m_readLine R G) {b0 : Int} {σ : ab_SG} (h : (fw_c b0 = 0 → sp_m_isWord [(2, 93, 0), (0, 0, 3)] σ (fun rv σ2 => G 53 [some (2, 93, 0), none] (rv.toList ++ []) σ2)) ∧ (fw_c b0 ≠ 0 → sp_m_readPerson [(2, 93, 0)] σ (fun rv σ2 => G 44 [some (2, 93, 0), none] (rv.toList ++ []) σ2))) : G 37 [some (2, 93, 0), none] [(0, 0, b0)] σ := fw_on hG [5, 12, 21, 28, 37, 44, 53, 60, 69, 76, 85, 92, 100, 101, 109] 200 h
theorem fs_m_readLine_28 {G : fw_K} {R : fw_KR} (hG : fw_cls st_m_readLine R G) {b0 : Int} {σ : ab_SG} (h : G 101 [some (2, 93, 0), some (0, 0, b0)] [] σ) : G 28 [some (2, 93, 0), none] [(0, 0, b0)] σ := fw_on hG [5, 12, 21, 28, 37, 44, 53, 60, 69, 76, 85, 92, 100, 101, 109] 200 h
theorem fs_m_readLine_101 {G : fw_K} {R : fw_KR} (hG : fw_cls st_m_readLine R G) {a1 : Int} {σ : ab_SG} (h : (fw_c a1 = 0 → (0 ≤ fw_c 0 ∧ fw_c 0 ≤ 1) ∧ R (some (0, 0, 0)) σ) ∧ (fw_c a1 ≠ 0 → sp_m_readEnd [(2, 93, 0)] σ (fun rv σ2 => G 109 [some (2, 93, 0), some (0, 0, a1)] (rv.toList ++ []) σ2))) : G 101 [some (2, 93, 0), some (0, 0, a1)] [] σ := fw_on hG [5, 12, 21, 28, 37, 44, 53, 60, 69, 76, 85, 92, 100, 101, 109] 200 h
theorem fs_m_readLine_53 {G : fw_K} {R : fw_KR} (hG : fw_cls st_m_readLine R G) {b0 : Int} {σ : ab_SG} (h : (fw_c b0 = 0 → sp_m_isWord [(2, 93, 0), (0, 0, 4)] σ (fun rv σ2 => G 69 [some (2, 93, 0), none] (rv.toList ++ []) σ2)) ∧ (fw_c b0 ≠ 0 → sp_m_readKnows [(2, 93, 0)] σ (fun rv σ2 => G 60 [some (2, 93, 0), none] (rv.toList ++ []) σ2))) : G 53 [some (2, 93, 0), none] [(0, 0, b0)] σ := fw_on hG [5, 12, 21, 28, 37, 44, 53, 60, 69, 76, 85, 92, 100, 101, 109] 200 h
theorem fs_m_readLine_44 {G : fw_K} {R : fw_KR} (hG : fw_cls st_m_readLine R G) {b0 : Int} {σ : ab_SG} (h : G 101 [some (2, 93, 0), some (0, 0, b0)] [] σ) : G 44 [some (2, 93, 0), none] [(0, 0, b0)] σ := fw_on hG [5, 12, 21, 28, 37, 44, 53, 60, 69, 76, 85, 92, 100, 101, 109] 200 h
theorem fs_m_readLine_109 {G : fw_K} {R : fw_KR} (hG : fw_cls st_m_readLine R G) {a1 b0 : Int} {σ : ab_SG} (h : (fw_c b0 = 0 → (0 ≤ fw_c 0 ∧ fw_c 0 ≤ 1) ∧ R (some (0, 0, 0)) σ) ∧ (fw_c b0 ≠ 0 → (0 ≤ fw_c 1 ∧ fw_c 1 ≤ 1) ∧ R (some (0, 0, 1)) σ)) : G 109 [some (2, 93, 0), some (0, 0, a1)] [(0, 0, b0)] σ := fw_on hG [5, 12, 21, 28, 37, 44, 53, 60, 69, 76, 85, 92, 100, 101, 109] 200 h
theorem fs_m_readLine_69 {G : fw_K} {R : fw_KR} (hG : fw_cls st_m_readLine R G) {b0 : Int} {σ : ab_SG} (h : (fw_c b0 = 0 → sp_m_isWord [(2, 93, 0), (0, 0, 5)] σ (fun rv σ2 => G 85 [some (2, 93, 0), none] (rv.toList ++ []) σ2)) ∧ (fw_c b0 ≠ 0 → sp_m_readDare [(2, 93, 0)] σ (fun rv σ2 => G 76 [some (2, 93, 0), none] (rv.toList ++ []) σ2))) : G 69 [some (2, 93, 0), none] [(0, 0, b0)] σ := fw_on hG [5, 12, 21, 28, 37, 44, 53, 60, 69, 76, 85, 92, 100, 101, 109] 200 h
theorem fs_m_readLine_60 {G : fw_K} {R : fw_KR} (hG : fw_cls st_m_readLine R G) {b0 : Int} {σ : ab_SG} (h : G 101 [some (2, 93, 0), some (0, 0, b0)] [] σ) : G 60 [some (2, 93, 0), none] [(0, 0, b0)] σ := fw_on hG [5, 12, 21, 28, 37, 44, 53, 60, 69, 76, 85, 92, 100, 101, 109] 200 h
theorem fs_m_readLine_85 {G : fw_K} {R : fw_KR} (hG : fw_cls st_m_readLine R G) {b0 : Int} {σ : ab_SG} (h : (fw_c b0 = 0 → sp_m_bad [(2, 93, 0), (0, 0, 1)] σ (fun rv σ2 => G 100 [some (2, 93, 0), none] (rv.toList ++ []) σ2)) ∧ (fw_c b0 ≠ 0 → sp_m_readFrom [(2, 93, 0)] σ (fun rv σ2 => G 92 [some (2, 93, 0), none] (rv.toList ++ []) σ2))) : G 85 [some (2, 93, 0), none] [(0, 0, b0)] σ := fw_on hG [5, 12, 21, 28, 37, 44, 53, 60, 69, 76, 85, 92, 100, 101, 109] 200 h
theorem fs_m_readLine_76 {G : fw_K} {R : fw_KR} (hG : fw_cls st_m_readLine R G) {b0 : Int} {σ : ab_SG} (h : G 101 [some (2, 93, 0), some (0, 0, b0)] [] σ) : G 76 [some (2, 93, 0), none] [(0, 0, b0)] σ := fw_on hG [5, 12, 21, 28, 37, 44, 53, 60, 69, 76, 85, 92, 100, 101, 109] 200 h
theorem fs_m_readLine_100 {G : fw_K} {R : fw_KR} (hG : fw_cls st_m_readLine R G) {b0 : Int} {σ : ab_SG} (h : G 101 [some (2, 93, 0), some (0, 0, b0)] [] σ) : G 100 [some (2, 93, 0), none] [(0, 0, b0)] σ := fw_on hG [5, 12, 21, 28, 37, 44, 53, 60, 69, 76, 85, 92, 100, 101, 109] 200 h
theorem fs_m_readLine_92 {G : fw_K} {R : fw_KR} (hG : fw_cls st_m_readLine R G) {b0 : Int} {σ : ab_SG} (h : G 100 [some (2, 93, 0), none] [(0, 0, b0)] σ) : G 92 [some (2, 93, 0), none] [(0, 0, b0)] σ := fw_on hG [5, 12, 21, 28, 37, 44, 53, 60, 69, 76, 85, 92, 100, 101, 109] 200 h
theorem rl_post {G : fw_K} {K K' : fw_KR} (hG : fw_cls st_m_readLine K G) (hK : ∀ (b : Int) (σ' : ab_SG), G 101 [some (2, 93, 0), some (0, 0, b)] [] σ' → K' (some (0, 0, b)) σ') {σ : ab_SG} {e : tk_E} {r : pr_R} (hp : md_post σ (pr_fin e r) e K) : md_post σ r e K' := by
  obtain ⟨h0, h1⟩ := hp
  unfold pr_fin at h0 h1
  refine ⟨fun q σ' M h10 => hK _ _ ?_, fun q σ' M R => hK _ _ ?_⟩
  · rw [if_pos q] at h0
    exact fs_m_readLine_101 hG ⟨fun _ => ⟨fw_01, h0 q σ' M h10⟩, fun z => absurd fw_c0 z⟩
  · rw [if_neg (fun y => y q)] at h0 h1
    refine fs_m_readLine_101 hG ⟨fun z => absurd (fw_c1.symm.trans z) (by decide), fun _ => ⟨e, r.2.2, rfl, R.1, fun q2 σ2 M2 h10 => ?_, fun q2 σ2 M2 S2 => ?_⟩⟩
    · rw [if_pos q2] at h0
      exact fs_m_readLine_109 hG ⟨fun _ => ⟨fw_01, h0 (show ¬ (1 : Int) = 0 by decide) σ2 (fw_okM_tr M M2 (by decide)) h10⟩, fun z => absurd fw_c0 z⟩
    · rw [if_neg (fun y => y q2)] at h1
      have hr := rs_M ⟨R.2.2.1, R.2.2.2⟩ (fw_okM_tr (fw_okM_refl _ _) M2 (by decide))
      exact fs_m_readLine_109 hG ⟨fun z => absurd (fw_c1.symm.trans z) (by decide), fun _ => ⟨fw_11, h1 rfl σ2 (fw_okM_tr M M2 (by decide)) ⟨S2, R.2.1, hr.1, hr.2⟩⟩⟩
section
variable {l : Launch} {cy : Nat → ClassId} {ad wr cr : Nat → Nat} {D : va_G}
theorem fm_m_readLine (hinj : nn_inj ad) : fw_H l cy ad wr cr D 216 5 sp_m_readLine := fw_mk hinj (⟨"NameNotesModel", "readLine", "()Z"⟩, prog_14_method_38_code, 2, (Option.some Jvm.ClassFile.FieldType.boolean), 0, true, 1) rfl rfl nn_KI20_ok nn_KJ20_ok nn_PF20_ok nn_PS20_ok (by decide +kernel) rfl rfl (List.forall_mem_cons.mpr ⟨fw_row nn_PM20_ok (x := 168) (k := 0) (mn := 221) (np := 1) (ob := true) (ci := 11) (⟨"NameNotesModel", "bad", "(I)Z"⟩, prog_14_method_23_code, 2, (Option.some Jvm.ClassFile.FieldType.boolean), 1, true, 1) rfl (by decide +kernel) rfl rfl (by decide) (fun _ => ⟨_, _, rfl⟩) (fm_m_bad hinj), (List.forall_mem_cons.mpr ⟨fw_row nn_PM20_ok (x := 225) (k := 0) (mn := 217) (np := 1) (ob := true) (ci := 11) (⟨"NameNotesModel", "isWord", "(I)Z"⟩, prog_14_method_20_code, 2, (Option.some Jvm.ClassFile.FieldType.boolean), 1, true, 1) rfl (by decide +kernel) rfl rfl (by decide) (fun _ => ⟨_, _, rfl⟩) (fm_m_isWord hinj), (List.forall_mem_cons.mpr ⟨fw_row nn_PM20_ok (x := 228) (k := 0) (mn := 220) (np := 0) (ob := true) (ci := 11) (⟨"NameNotesModel", "readTune", "()Z"⟩, prog_14_method_32_code, 3, (Option.some Jvm.ClassFile.FieldType.boolean), 0, true, 1) rfl (by decide +kernel) rfl rfl (by decide) (fun _ => ⟨_, _, rfl⟩) (fm_m_readTune hinj), (List.forall_mem_cons.mpr ⟨fw_row nn_PM20_ok (x := 231) (k := 0) (mn := 228) (np := 0) (ob := true) (ci := 11) (⟨"NameNotesModel", "readClue", "()Z"⟩, prog_14_method_33_code, 2, (Option.some Jvm.ClassFile.FieldType.boolean), 0, true, 1) rfl (by decide +kernel) rfl rfl (by decide) (fun _ => ⟨_, _, rfl⟩) (fm_m_readClue hinj), (List.forall_mem_cons.mpr ⟨fw_row nn_PM20_ok (x := 234) (k := 0) (mn := 231) (np := 0) (ob := true) (ci := 11) (⟨"NameNotesModel", "readPerson", "()Z"⟩, prog_14_method_34_code, 2, (Option.some Jvm.ClassFile.FieldType.boolean), 0, true, 1) rfl (by decide +kernel) rfl rfl (by decide) (fun _ => ⟨_, _, rfl⟩) (fm_m_readPerson hinj), (List.forall_mem_cons.mpr ⟨fw_row nn_PM20_ok (x := 237) (k := 0) (mn := 232) (np := 0) (ob := true) (ci := 11) (⟨"NameNotesModel", "readKnows", "()Z"⟩, prog_14_method_35_code, 3, (Option.some Jvm.ClassFile.FieldType.boolean), 0, true, 1) rfl (by decide +kernel) rfl rfl (by decide) (fun _ => ⟨_, _, rfl⟩) (fm_m_readKnows hinj), (List.forall_mem_cons.mpr ⟨fw_row nn_PM20_ok (x := 240) (k := 0) (mn := 233) (np := 0) (ob := true) (ci := 11) (⟨"NameNotesModel", "readDare", "()Z"⟩, prog_14_method_36_code, 2, (Option.some Jvm.ClassFile.FieldType.boolean), 0, true, 1) rfl (by decide +kernel) rfl rfl (by decide) (fun _ => ⟨_, _, rfl⟩) (fm_m_readDare hinj), (List.forall_mem_cons.mpr ⟨fw_row nn_PM20_ok (x := 243) (k := 0) (mn := 234) (np := 0) (ob := true) (ci := 11) (⟨"NameNotesModel", "readFrom", "()Z"⟩, prog_14_method_37_code, 1, (Option.some Jvm.ClassFile.FieldType.boolean), 0, true, 1) rfl (by decide +kernel) rfl rfl (by decide) (fun _ => ⟨_, _, rfl⟩) (fm_m_readFrom hinj), (List.forall_mem_cons.mpr ⟨fw_row nn_PM20_ok (x := 246) (k := 0) (mn := 235) (np := 0) (ob := true) (ci := 11) (⟨"NameNotesModel", "readEnd", "()Z"⟩, prog_14_method_26_code, 1, (Option.some Jvm.ClassFile.FieldType.boolean), 0, true, 1) rfl (by decide +kernel) rfl rfl (by decide) (fun _ => ⟨_, _, rfl⟩) (fm_m_readEnd hinj), (fun _ h => absurd h List.not_mem_nil)⟩)⟩)⟩)⟩)⟩)⟩)⟩)⟩)⟩) (fun as σ K h => by
  obtain ⟨A, e, p, rfl, hR, hp⟩ := h
  have hm := hR.1
  have mk := mg_kind hm.1
  rw [pr_lns_fin] at hp
  unfold pr_line at hp
  refine ⟨rfl, fun G hG => fs_m_readLine_0 hG ⟨0, e, p, rfl, by decide, hm.1, fs_m_readLine_5 hG ⟨fun q0 => ?_, fun q0 => ?_⟩⟩⟩
  · have n0 : ¬ tw e p = 0 := fw_bo_eq q0
    rw [if_neg n0] at hp
    refine ⟨1, e, p, rfl, by decide, hm.1, fs_m_readLine_21 hG ⟨fun q1 => ?_, fun q1 => ?_⟩⟩
    · have n1 : ¬ tw e p = 1 := fw_bo_eq q1
      rw [if_neg n1] at hp
      refine ⟨2, e, p, rfl, by decide, hm.1, fs_m_readLine_37 hG ⟨fun q2 => ?_, fun q2 => ?_⟩⟩
      · have n2 : ¬ tw e p = 2 := fw_bo_eq q2
        rw [if_neg n2] at hp
        refine ⟨3, e, p, rfl, by decide, hm.1, fs_m_readLine_53 hG ⟨fun q3 => ?_, fun q3 => ?_⟩⟩
        · have n3 : ¬ tw e p = 3 := fw_bo_eq q3
          rw [if_neg n3] at hp
          refine ⟨4, e, p, rfl, by decide, hm.1, fs_m_readLine_69 hG ⟨fun q4 => ?_, fun q4 => ?_⟩⟩
          · have n4 : ¬ tw e p = 4 := fw_bo_eq q4
            rw [if_neg n4] at hp
            refine ⟨5, e, p, rfl, by decide, hm.1, fs_m_readLine_85 hG ⟨fun q5 => ?_, fun q5 => ?_⟩⟩
            · have n5 : ¬ tw e p = 5 := fw_bo_eq q5
              rw [if_neg n5] at hp
              have hp2 := rl_post (K' := fun rv σ2 => G 100 [some (2, 93, 0), none] (rv.toList ++ []) σ2) hG (fun b σ' g => fs_m_readLine_100 hG g) hp
              refine ⟨1, rfl, by decide, mk.2.2.2.2, fun σ' hM h10 _ => hp2.1 (show ¬ (1 : Int) = 0 by decide) σ' (fw_okM_tr (fw_okM_refl _ _) hM (by decide)) ?_⟩
              rw [h10]
              split <;> rfl
            · have n5 : tw e p = 5 := fw_bo_ne q5
              rw [if_pos n5] at hp
              exact ⟨A, e, p, rfl, hR, tw_k (by omega), rl_post hG (fun b σ' g => fs_m_readLine_92 hG (fs_m_readLine_100 hG g)) hp⟩
          · have n4 : tw e p = 4 := fw_bo_ne q4
            rw [if_pos n4] at hp
            exact ⟨A, e, p, rfl, hR, rl_post hG (fun b σ' g => fs_m_readLine_76 hG g) hp⟩
        · have n3 : tw e p = 3 := fw_bo_ne q3
          rw [if_pos n3] at hp
          exact ⟨A, e, p, rfl, hR, rl_post hG (fun b σ' g => fs_m_readLine_60 hG g) hp⟩
      · have n2 : tw e p = 2 := fw_bo_ne q2
        rw [if_pos n2] at hp
        exact ⟨A, e, p, rfl, hR, tw_k (by omega), rl_post hG (fun b σ' g => fs_m_readLine_44 hG g) hp⟩
    · have n1 : tw e p = 1 := fw_bo_ne q1
      rw [if_pos n1] at hp
      exact ⟨A, e, p, rfl, hR, tw_k (by omega), rl_post hG (fun b σ' g => fs_m_readLine_28 hG g) hp⟩
  · have n0 : tw e p = 0 := fw_bo_ne q0
    rw [if_pos n0] at hp
    exact ⟨A, e, p, rfl, hR, tw_k (by omega), rl_post hG (fun b σ' g => fs_m_readLine_12 hG g) hp⟩)
end
end
section
/-! the reference's studio: its text taken, read, kept -/
def ly_ok (σ : ab_SG) : Prop := σ 93 22 = 0 ∨ σ 93 22 = 1
def ly_is (σ σ' : ab_SG) : Prop := σ' 93 22 = 1 ∧ (σ 93 22 = 0 → σ' 95 3 = 9) ∧ (σ 93 22 ≠ 0 → σ' 95 3 = σ 95 3)
def sp_m_lay : fw_SP := fun as σ K => as = [(2, 93, 0)] ∧ ly_ok σ ∧ ∀ σ' : ab_SG, ab_okM [(93, 22), (95, 3)] σ σ' → ly_is σ σ' → K none σ'
def sp_m_take : fw_SP := fun as σ K => as = [(2, 93, 0)] ∧ K (some (0, 0, σ 93 2)) (ab_ups σ 93 2 0)
def tq_is (σ : ab_SG) (t : Nat → Int) : Prop := ∀ j : Nat, (j : Int) < σ 93 2 → σ 94 j = t j ∧ 0 ≤ t j ∧ t j ≤ 255
def bg_M : ab_ML := (93, 0) :: (93, 2) :: (93, 3) :: (93, 4) :: (93, 10) :: (93, 22) :: (95, 3) :: go_M
def sp_m_begin : fw_SP := fun as σ K => ∃ (x : Int) (t : Nat → Int), as = [(2, 93, 0), (0, 0, x)] ∧ (0 ≤ x ∧ x ≤ 940) ∧ (0 ≤ σ 93 2 ∧ σ 93 2 ≤ 940) ∧ tq_is σ t ∧ ly_ok σ ∧
  ∀ σ' : ab_SG, ab_okM bg_M σ σ' → mt_is σ' (t, (σ 93 2).toNat, x) 0 → ly_is σ σ' → σ' 93 2 = 0 → σ' 93 0 = 0 → K none σ'
/-- numbers N and names W tell the studio A -/
def sr_is (N W : Nat → Int) (A : ab_SG) : Prop := N 0 = A 49 11 ∧ N 1 = A 49 12 ∧ N 2 = A 49 13 ∧ N 3 = A 49 14 ∧
  (∀ x : Nat, (x : Int) < A 49 11 → N (5 + 19 * x) = A 52 x ∧ ∀ i : Nat, (i : Int) < A 52 x → N (6 + 19 * x + 2 * i) = A 50 (x * 9 + i) ∧ N (7 + 19 * x + 2 * i) = A 51 (x * 9 + i)) ∧
  (∀ c : Nat, (c : Int) < A 49 12 → N (176 + c) = A 54 c) ∧ (∀ j : Nat, j < 45 → N (182 + j) = A 55 j) ∧ (∀ j : Nat, (j : Int) < A 49 13 → N (227 + j) = A 56 j) ∧
  (∀ j : Nat, (j : Int) < A 49 11 → rf_ok 7 (A 57 j) ∧ W j = rf_w 7 (A 57 j)) ∧ (∀ j : Nat, (j : Int) < A 49 12 → rf_ok 7 (A 58 j) ∧ W (9 + j) = rf_w 7 (A 58 j)) ∧ (∀ j : Nat, (j : Int) < A 49 13 → rf_ok 7 (A 59 j) ∧ W (15 + j) = rf_w 7 (A 59 j))
theorem sr_of {σ A : ab_SG} {e : tk_E} {p : Nat} (h : RM σ A e p) : sr_is (σ 96) (σ 100) A := by
  obtain ⟨-, -, hn, r1, r2, r3, r4, r5, -⟩ := h
  refine ⟨hn.1.1, hn.2.1.1, hn.2.2.1.1, r1, r2, r3, r4, r5, fun j hj => ?_, hn.2.2.2.2.1, hn.2.2.2.2.2⟩
  have g := hn.2.2.2.1 j hj
  rw [Nat.zero_add] at g
  exact g
theorem sr_cong {N N' W W' : Nat → Int} {A : ab_SG} (hi : RI A) (hN : ∀ j : Nat, j < 232 → j ≠ 4 → N' j = N j) (hW : ∀ j : Nat, j < 20 → W' j = W j) (h : sr_is N W A) : sr_is N' W' A := by
  obtain ⟨c0, c1, c2, r1, r2, r3, r4, r5, r6, r7, r8⟩ := h
  have i1 := hi.1
  have i2 := hi.2.1
  have i3 := hi.2.2.1
  refine ⟨(hN 0 (by decide) (by decide)).trans c0, (hN 1 (by decide) (by decide)).trans c1, (hN 2 (by decide) (by decide)).trans c2, (hN 3 (by decide) (by decide)).trans r1, fun x hx => ?_, fun c hc => ?_, fun j hj => ?_, fun j hj => ?_, fun j hj => ?_, fun j hj => ?_, fun j hj => ?_⟩
  · refine ⟨(hN _ (by omega) (by omega)).trans (r2 x hx).1, fun i hi2 => ?_⟩
    have hs := hi.2.2.2.2.2.2.1 x (by omega)
    exact ⟨(hN _ (by omega) (by omega)).trans ((r2 x hx).2 i hi2).1, (hN _ (by omega) (by omega)).trans ((r2 x hx).2 i hi2).2⟩
  · exact (hN _ (by omega) (by omega)).trans (r3 c hc)
  · exact (hN _ (by omega) (by omega)).trans (r4 j hj)
  · exact (hN _ (by omega) (by omega)).trans (r5 j hj)
  · exact ⟨(r6 j hj).1, (hW _ (by omega)).trans (r6 j hj).2⟩
  · exact ⟨(r7 j hj).1, (hW _ (by omega)).trans (r7 j hj).2⟩
  · exact ⟨(r8 j hj).1, (hW _ (by omega)).trans (r8 j hj).2⟩
theorem sr_can {N W : Nat → Int} {A : ab_SG} (hi : RI A) (hb : nb_is A) (h : sr_is N W A) : sr_is (fun j => fw_c (N j)) (fun j => fw_d (W j)) A := by
  have c : ∀ v : Int, 0 ≤ v → v ≤ 1000 → fw_c v = v := fun v h1 h2 => fw_c_id (by omega) (by omega)
  have d : ∀ w : Int, fw_d (rf_w 7 w) = rf_w 7 w := fun w => by
    have b1 := rf_w_in 7 w
    have hB := rf_B7
    exact fw_d_id (by omega) (by omega)
  obtain ⟨c0, c1, c2, r1, r2, r3, r4, r5, r6, r7, r8⟩ := h
  have i1 := hi.1
  have i2 := hi.2.1
  have i3 := hi.2.2.1
  have p9 := (p2_le 9 (Nat.le_refl _)).1
  refine ⟨?_, ?_, ?_, ?_, fun x hx => ⟨?_, fun i hi2 => ⟨?_, ?_⟩⟩, fun x hx => ?_, fun j hj => ?_, fun j hj => ?_, fun j hj => ⟨(r6 j hj).1, ?_⟩, fun j hj => ⟨(r7 j hj).1, ?_⟩, fun j hj => ⟨(r8 j hj).1, ?_⟩⟩
  · show fw_c (N 0) = _
    rw [c0]; exact c _ (by omega) (by omega)
  · show fw_c (N 1) = _
    rw [c1]; exact c _ (by omega) (by omega)
  · show fw_c (N 2) = _
    rw [c2]; exact c _ (by omega) (by omega)
  · show fw_c (N 3) = _
    have := hb.2.2.2.2
    rw [r1]; exact c _ (by omega) (by omega)
  · show fw_c (N (5 + 19 * x)) = _
    have := hi.2.2.2.2.2.2.1 x (by omega)
    rw [(r2 x hx).1]; exact c _ (by omega) (by omega)
  · show fw_c (N (6 + 19 * x + 2 * i)) = _
    have := (hb.1 x hx).2 i hi2
    rw [((r2 x hx).2 i hi2).1]; exact c _ (by omega) (by omega)
  · show fw_c (N (7 + 19 * x + 2 * i)) = _
    have := (hb.1 x hx).2 i hi2
    rw [((r2 x hx).2 i hi2).2]; exact c _ (by omega) (by omega)
  · show fw_c (N (176 + x)) = _
    have h1 := hb.2.1 x hx
    have h2 := p2_mono (n := 9) (m := A 49 11) (by omega) (by omega) (by omega)
    have h3 : p2_n 9 = 512 := by decide
    rw [r3 x hx]; exact c _ (by omega) (by omega)
  · show fw_c (N (182 + j)) = _
    have := hb.2.2.1 j hj
    rw [r4 j hj]; exact c _ (by omega) (by omega)
  · show fw_c (N (227 + j)) = _
    have := hb.2.2.2.1 j (by omega)
    rw [r5 j hj]; exact c _ (by omega) (by omega)
  · show fw_d (W j) = _
    rw [(r6 j hj).2, d]
  · show fw_d (W (9 + j)) = _
    rw [(r7 j hj).2, d]
  · show fw_d (W (15 + j)) = _
    rw [(r8 j hj).2, d]
def mf_M : ab_ML := (93, 0) :: (93, 2) :: (93, 3) :: (93, 4) :: (93, 22) :: (95, 3) :: md_M
def ms_M : ab_ML := (93, 23) :: (93, 24) :: (95, 1000000) :: (99, 1000000) :: mf_M
def ms_ok (σ σ' A : ab_SG) : Prop := ab_okM ms_M σ σ' ∧ σ' 93 10 = 0 ∧ σ' 93 2 = 0 ∧ σ' 93 22 = 1 ∧ σ' 93 24 = 0 ∧ RI A ∧ nb_is A ∧ sr_is (σ' 95) (σ' 99) A ∧ (∀ j : Nat, 232 ≤ j → j < 474 → σ' 95 j = 0) ∧ σ' 93 23 = fw_c (σ 93 23 + 1) ∧ σ' 95 4 = fw_c (σ 93 23 + 1)
def sp_m_studio : fw_SP := fun as σ K => ∃ (t : Nat → Int) (A : ab_SG), as = [(2, 93, 0)] ∧ (0 ≤ σ 93 2 ∧ σ 93 2 ≤ 940) ∧ tq_is σ t ∧ ly_ok σ ∧ rl_is A ∧ rl_ok A ∧
  ((pr_read A t (σ 93 2).toNat).1.1 ≠ 0 → ∀ (v : Int) (σ' : ab_SG), ab_okM mf_M σ σ' → σ' 93 10 = (pr_read A t (σ 93 2).toNat).1.1 → σ' 93 2 = 0 → ly_is σ σ' → K (some (0, 0, v)) σ') ∧
  ((pr_read A t (σ 93 2).toNat).1.1 = 0 → ∀ σ' : ab_SG, ms_ok σ σ' (pr_read A t (σ 93 2).toNat).1.2.1 → K (some (0, 0, (pr_read A t (σ 93 2).toNat).2)) σ')
abbrev fk_m_take : List fw_CR := []
abbrev st_m_take : fw_K → fw_KR → fw_K := fw_st vwCl nn_sh nn_kd fw_kv fw_wc (nn_KI20.map (fun x => x.1)) (nn_KJ20.map (fun x => x.1)) (nn_PF20.map (fun x => x.1)) (nn_PS20.map (fun x => x.1)) fk_m_take 0 nn_dt211 2 0
theorem fs_m_take_0 {G : fw_K} {R : fw_KR} (hG : fw_cls st_m_take R G) {σ : ab_SG} (h : R (some (0, 0, σ 93 2)) (ab_ups σ 93 2 (fw_c 0))) : G 0 [some (2, 93, 0), none] [] σ := fw_on hG [] 200 h
abbrev fk_m_lay : List fw_CR := []
abbrev st_m_lay : fw_K → fw_KR → fw_K := fw_st vwCl nn_sh nn_kd fw_kv fw_wc (nn_KI20.map (fun x => x.1)) (nn_KJ20.map (fun x => x.1)) (nn_PF20.map (fun x => x.1)) (nn_PS20.map (fun x => x.1)) fk_m_lay 0 nn_dt210 1 4
theorem fs_m_lay_0 {G : fw_K} {R : fw_KR} (hG : fw_cls st_m_lay R G) {σ : ab_SG} (h : (fw_c (σ 93 22) = 0 → (0 ≤ fw_c 1 ∧ fw_c 1 ≤ 1) ∧ ((0 ≤ fw_c 3 ∧ fw_c 3 < ((474 : Nat) : Int)) ∧ True ∧ (R none (ab_ups (ab_ups σ 93 22 (fw_c 1)) 95 (fw_c 3).toNat (fw_c 9))))) ∧ (fw_c (σ 93 22) ≠ 0 → R none σ)) : G 0 [some (2, 93, 0)] [] σ := fw_on hG [] 200 h
abbrev fk_m_begin : List fw_CR := [(182, 0, true, 11, 1, sp_m_go), (188, 0, true, 11, 0, sp_m_lay), (191, 0, true, 11, 0, sp_m_take)]
abbrev st_m_begin : fw_K → fw_KR → fw_K := fw_st vwCl nn_sh nn_kd fw_kv fw_wc (nn_KI20.map (fun x => x.1)) (nn_KJ20.map (fun x => x.1)) (nn_PF20.map (fun x => x.1)) (nn_PS20.map (fun x => x.1)) fk_m_begin 2 nn_dt209 2 4
theorem fs_m_begin_0 {G : fw_K} {R : fw_KR} (hG : fw_cls st_m_begin R G) {x : Int} {σ : ab_SG} (h : sp_m_lay [(2, 93, 0)] (ab_ups σ 93 0 (fw_c 0)) (fun rv σ2 => G 9 [some (2, 93, 0), some (0, 0, x)] (rv.toList ++ []) σ2)) : G 0 [some (2, 93, 0), some (0, 0, x)] [] σ := fw_on hG [9, 14, 36] 200 h
theorem fs_m_begin_9 {G : fw_K} {R : fw_KR} (hG : fw_cls st_m_begin R G) {a1 : Int} {σ : ab_SG} (h : sp_m_take [(2, 93, 0)] σ (fun rv σ2 => G 14 [some (2, 93, 0), some (0, 0, a1)] (rv.toList ++ [(2, 93, 0)]) σ2)) : G 9 [some (2, 93, 0), some (0, 0, a1)] [] σ := fw_on hG [9, 14, 36] 200 h
theorem fs_m_begin_14 {G : fw_K} {R : fw_KR} (hG : fw_cls st_m_begin R G) {a1 b0 : Int} {σ : ab_SG} (h : sp_m_go [(2, 93, 0)] (ab_ups (ab_ups (ab_ups (ab_ups σ 93 3 (fw_c b0)) 93 4 (fw_c a1)) 93 10 (fw_c 0)) 93 5 (fw_c 0)) (fun rv σ2 => G 36 [some (2, 93, 0), some (0, 0, a1)] (rv.toList ++ []) σ2)) : G 14 [some (2, 93, 0), some (0, 0, a1)] [(0, 0, b0), (2, 93, 0)] σ := fw_on hG [9, 14, 36] 200 h
theorem fs_m_begin_36 {G : fw_K} {R : fw_KR} (hG : fw_cls st_m_begin R G) {a1 : Int} {σ : ab_SG} (h : R none σ) : G 36 [some (2, 93, 0), some (0, 0, a1)] [] σ := fw_on hG [9, 14, 36] 200 h
abbrev fk_m_studio : List fw_CR := [(249, 1, true, 11, 2, sp_m_begin), (252, 0, true, 11, 5, sp_m_readLine)]
abbrev st_m_studio : fw_K → fw_KR → fw_K := fw_st vwCl nn_sh nn_kd fw_kv fw_wc (nn_KI20.map (fun x => x.1)) (nn_KJ20.map (fun x => x.1)) (nn_PF20.map (fun x => x.1)) (nn_PS20.map (fun x => x.1)) fk_m_studio 6 nn_dt208 3 0
theorem fs_m_studio_0 {G : fw_K} {R : fw_KR} (hG : fw_cls st_m_studio R G) {σ : ab_SG} (h : sp_m_begin [(2, 93, 0), (0, 0, 900)] σ (fun rv σ2 => G 7 [some (2, 93, 0), none, none] (rv.toList ++ []) σ2)) : G 0 [some (2, 93, 0), none, none] [] σ := fw_on hG [7, 9, 49, 69, 80, 118, 147, 156] 200 h
theorem fs_m_studio_7 {G : fw_K} {R : fw_KR} (hG : fw_cls st_m_studio R G) {σ : ab_SG} (h : G 9 [some (2, 93, 0), some (0, 0, 0), none] [] σ) : G 7 [some (2, 93, 0), none, none] [] σ := fw_on hG [7, 9, 49, 69, 80, 118, 147, 156] 200 h
theorem fs_m_studio_9 {G : fw_K} {R : fw_KR} (hG : fw_cls st_m_studio R G) {a1 : Int} {σ : ab_SG} (h : (fw_c 232 ≤ fw_c a1 → (0 ≤ fw_c 3 ∧ fw_c 3 < ((232 : Nat) : Int)) ∧ True ∧ (G 49 [some (2, 93, 0), some (0, 0, 0), none] [] (ab_ups (ab_ups (ab_ups σ 96 (fw_c 3).toNat (fw_c 9)) 93 25 (fw_c 0)) 93 26 (fw_c 0)))) ∧ (fw_c a1 < fw_c 232 → (0 ≤ fw_c a1 ∧ fw_c a1 < ((232 : Nat) : Int)) ∧ True ∧ (G 9 [some (2, 93, 0), some (0, 0, a1 + 1), none] [] (ab_ups σ 96 (fw_c a1).toNat (fw_c 0))))) : G 9 [some (2, 93, 0), some (0, 0, a1), none] [] σ := fw_on hG [7, 9, 49, 69, 80, 118, 147, 156] 200 h
theorem fs_m_studio_49 {G : fw_K} {R : fw_KR} (hG : fw_cls st_m_studio R G) {a1 : Int} {σ : ab_SG} (h : (fw_c 5 ≤ fw_c a1 → G 69 [some (2, 93, 0), some (0, 0, 0), none] [] σ) ∧ (fw_c a1 < fw_c 5 → (0 ≤ fw_c a1 ∧ fw_c a1 < ((5 : Nat) : Int)) ∧ True ∧ (G 49 [some (2, 93, 0), some (0, 0, a1 + 1), none] [] (ab_ups σ 103 (fw_c a1).toNat (fw_c 0))))) : G 49 [some (2, 93, 0), some (0, 0, a1), none] [] σ := fw_on hG [7, 9, 49, 69, 80, 118, 147, 156] 200 h
theorem fs_m_studio_69 {G : fw_K} {R : fw_KR} (hG : fw_cls st_m_studio R G) {a1 : Int} {σ : ab_SG} (h : (fw_c (σ 93 7) = 0 → (0 ≤ fw_c 4 ∧ fw_c 4 < ((232 : Nat) : Int)) ∧ True ∧ (G 118 [some (2, 93, 0), some (0, 0, a1), some (0, 0, 0)] [] (ab_ups (ab_ups σ 93 23 (fw_c ((σ 93 23) + 1))) 96 (fw_c 4).toNat (fw_c (fw_c ((σ 93 23) + 1)))))) ∧ (fw_c (σ 93 7) ≠ 0 → sp_m_readLine [(2, 93, 0)] σ (fun rv σ2 => G 80 [some (2, 93, 0), some (0, 0, a1), none] (rv.toList ++ []) σ2))) : G 69 [some (2, 93, 0), some (0, 0, a1), none] [] σ := fw_on hG [7, 9, 49, 69, 80, 118, 147, 156] 200 h
theorem fs_m_studio_118 {G : fw_K} {R : fw_KR} (hG : fw_cls st_m_studio R G) {a1 a2 : Int} {σ : ab_SG} (h : (fw_c 474 ≤ fw_c a2 → G 156 [some (2, 93, 0), some (0, 0, a1), some (0, 0, 0)] [] σ) ∧ (fw_c a2 < fw_c 474 → (fw_c 232 ≤ fw_c a2 → G 147 [some (2, 93, 0), some (0, 0, a1), some (0, 0, a2)] [(0, 0, 0), (0, 0, a2), (2, 95, 0)] σ) ∧ (fw_c a2 < fw_c 232 → (0 ≤ fw_c a2 ∧ fw_c a2 < ((232 : Nat) : Int)) ∧ (G 147 [some (2, 93, 0), some (0, 0, a1), some (0, 0, a2)] [(0, 0, σ 96 (fw_c a2).toNat), (0, 0, a2), (2, 95, 0)] σ)))) : G 118 [some (2, 93, 0), some (0, 0, a1), some (0, 0, a2)] [] σ := fw_on hG [7, 9, 49, 69, 80, 118, 147, 156] 200 h
theorem fs_m_studio_80 {G : fw_K} {R : fw_KR} (hG : fw_cls st_m_studio R G) {a1 b0 : Int} {σ : ab_SG} (h : (fw_c b0 ≠ 0 → G 69 [some (2, 93, 0), some (0, 0, a1 + 1), none] [] σ) ∧ (fw_c b0 = 0 → R (some (0, 0, (-1) - (σ 93 11))) σ)) : G 80 [some (2, 93, 0), some (0, 0, a1), none] [(0, 0, b0)] σ := fw_on hG [7, 9, 49, 69, 80, 118, 147, 156] 200 h
theorem fs_m_studio_156 {G : fw_K} {R : fw_KR} (hG : fw_cls st_m_studio R G) {a1 a2 : Int} {σ : ab_SG} (h : (fw_c 20 ≤ fw_c a2 → R (some (0, 0, a1)) (ab_ups σ 93 24 (fw_c 0))) ∧ (fw_c a2 < fw_c 20 → (0 ≤ fw_c a2 ∧ fw_c a2 < ((20 : Nat) : Int)) ∧ ((0 ≤ fw_c a2 ∧ fw_c a2 < ((20 : Nat) : Int)) ∧ True ∧ (G 156 [some (2, 93, 0), some (0, 0, a1), some (0, 0, a2 + 1)] [] (ab_ups σ 99 (fw_c a2).toNat (fw_d (σ 100 (fw_c a2).toNat))))))) : G 156 [some (2, 93, 0), some (0, 0, a1), some (0, 0, a2)] [] σ := fw_on hG [7, 9, 49, 69, 80, 118, 147, 156] 200 h
theorem fs_m_studio_147 {G : fw_K} {R : fw_KR} (hG : fw_cls st_m_studio R G) {a1 a2 b0 b1 : Int} {σ : ab_SG} (h : (0 ≤ fw_c b1 ∧ fw_c b1 < ((474 : Nat) : Int)) ∧ True ∧ (G 118 [some (2, 93, 0), some (0, 0, a1), some (0, 0, a2 + 1)] [] (ab_ups σ 95 (fw_c b1).toNat (fw_c b0)))) : G 147 [some (2, 93, 0), some (0, 0, a1), some (0, 0, a2)] [(0, 0, b0), (0, 0, b1), (2, 95, 0)] σ := fw_on hG [7, 9, 49, 69, 80, 118, 147, 156] 200 h
theorem st_l9 {G : fw_K} {K : fw_KR} (hG : fw_cls st_m_studio K G) {σ0 : ab_SG} (hk : ∀ σ' : ab_SG, ab_okM [(96, 1000000)] σ0 σ' → (∀ j : Nat, j < 232 → σ' 96 j = 0) → G 9 [some (2, 93, 0), some (0, 0, 232), none] [] σ') :
    ∀ (f i : Nat) (σ : ab_SG), i + f = 232 → ab_okM [(96, 1000000)] σ0 σ → (∀ j : Nat, j < i → σ 96 j = 0) → G 9 [some (2, 93, 0), some (0, 0, (i : Int)), none] [] σ := by
  intro f
  induction f with
  | zero =>
    intro i σ hi hM h
    have e : i = 232 := by omega
    subst e
    exact hk σ hM h
  | succ f ih =>
    intro i σ hi hM h
    have ei : fw_c (i : Int) = i := fw_c_id (by omega) (by omega)
    have e2 : fw_c 232 = 232 := fw_c_id (by decide) (by decide)
    refine fs_m_studio_9 hG ?_
    rw [ei, e2, fw_c0, Int.toNat_natCast]
    refine ⟨fun q => absurd q (by omega), fun _ => ⟨⟨Int.natCast_nonneg _, by omega⟩, trivial, ih (i + 1) _ (by omega) (fw_okM_upa hM (by decide)) (fun j hj => ?_)⟩⟩
    by_cases c : j = i
    · rw [c, ab_ups_eq]
    · rw [ab_ups_ne (fun z => c z.2)]; exact h j (by omega)
theorem st_l49 {G : fw_K} {K : fw_KR} (hG : fw_cls st_m_studio K G) {σ0 : ab_SG} (hk : ∀ σ' : ab_SG, ab_okM [(103, 1000000)] σ0 σ' → (∀ j : Nat, j < 5 → σ' 103 j = 0) → G 69 [some (2, 93, 0), some (0, 0, 0), none] [] σ') :
    ∀ (f i : Nat) (σ : ab_SG), i + f = 5 → ab_okM [(103, 1000000)] σ0 σ → (∀ j : Nat, j < i → σ 103 j = 0) → G 49 [some (2, 93, 0), some (0, 0, (i : Int)), none] [] σ := by
  intro f
  induction f with
  | zero =>
    intro i σ hi hM h
    have e : i = 5 := by omega
    subst e
    exact fs_m_studio_49 hG ⟨fun _ => hk σ hM h, fun q => absurd q (by rw [show ((5 : Nat) : Int) = 5 from rfl]; exact Int.lt_irrefl _)⟩
  | succ f ih =>
    intro i σ hi hM h
    have ei : fw_c (i : Int) = i := fw_c_id (by omega) (by omega)
    have e2 : fw_c 5 = 5 := fw_c_id (by decide) (by decide)
    refine fs_m_studio_49 hG ?_
    rw [ei, e2, fw_c0, Int.toNat_natCast]
    refine ⟨fun q => absurd q (by omega), fun _ => ⟨⟨Int.natCast_nonneg _, by omega⟩, trivial, ih (i + 1) _ (by omega) (fw_okM_upa hM (by decide)) (fun j hj => ?_)⟩⟩
    by_cases c : j = i
    · rw [c, ab_ups_eq]
    · rw [ab_ups_ne (fun z => c z.2)]; exact h j (by omega)
theorem st_l156 {G : fw_K} {K : fw_KR} (hG : fw_cls st_m_studio K G) {n : Int} {σ0 : ab_SG} (hk : ∀ σ' : ab_SG, ab_okM [(99, 1000000)] σ0 σ' → (∀ j : Nat, j < 20 → σ' 99 j = fw_d (σ0 100 j)) → K (some (0, 0, n)) (ab_ups σ' 93 24 0)) :
    ∀ (f i : Nat) (σ : ab_SG), i + f = 20 → ab_okM [(99, 1000000)] σ0 σ → (∀ j : Nat, j < i → σ 99 j = fw_d (σ0 100 j)) → G 156 [some (2, 93, 0), some (0, 0, n), some (0, 0, (i : Int))] [] σ := by
  intro f
  induction f with
  | zero =>
    intro i σ hi hM h
    have e : i = 20 := by omega
    subst e
    refine fs_m_studio_156 hG ⟨fun _ => ?_, fun q => absurd q (by rw [show ((20 : Nat) : Int) = 20 from rfl]; exact Int.lt_irrefl _)⟩
    rw [fw_c0]
    exact hk σ hM h
  | succ f ih =>
    intro i σ hi hM h
    have ei : fw_c (i : Int) = i := fw_c_id (by omega) (by omega)
    have e2 : fw_c 20 = 20 := fw_c_id (by decide) (by decide)
    have e3 : σ 100 = σ0 100 := fw_okM_c hM (by decide)
    refine fs_m_studio_156 hG ?_
    rw [ei, e2, Int.toNat_natCast, e3]
    refine ⟨fun q => absurd q (by omega), fun _ => ⟨⟨Int.natCast_nonneg _, by omega⟩, ⟨Int.natCast_nonneg _, by omega⟩, trivial, ih (i + 1) _ (by omega) (fw_okM_upa hM (by decide)) (fun j hj => ?_)⟩⟩
    by_cases c : j = i
    · rw [c, ab_ups_eq]
    · rw [ab_ups_ne (fun z => c z.2)]; exact h j (by omega)
theorem st_l118 {G : fw_K} {K : fw_KR} (hG : fw_cls st_m_studio K G) {n : Int} {σ0 : ab_SG} (hk : ∀ σ' : ab_SG, ab_okM [(95, 1000000)] σ0 σ' → (∀ j : Nat, j < 232 → σ' 95 j = fw_c (σ0 96 j)) → (∀ j : Nat, 232 ≤ j → j < 474 → σ' 95 j = 0) → G 156 [some (2, 93, 0), some (0, 0, n), some (0, 0, 0)] [] σ') :
    ∀ (f i : Nat) (σ : ab_SG), i + f = 474 → ab_okM [(95, 1000000)] σ0 σ → (∀ j : Nat, j < i → j < 232 → σ 95 j = fw_c (σ0 96 j)) → (∀ j : Nat, j < i → 232 ≤ j → σ 95 j = 0) → G 118 [some (2, 93, 0), some (0, 0, n), some (0, 0, (i : Int))] [] σ := by
  intro f
  induction f with
  | zero =>
    intro i σ hi hM h h2
    have e : i = 474 := by omega
    subst e
    exact fs_m_studio_118 hG ⟨fun _ => hk σ hM (fun j hj => h j (by omega) hj) (fun j hj hj2 => h2 j hj2 hj), fun q => absurd q (by rw [show ((474 : Nat) : Int) = 474 from rfl]; exact Int.lt_irrefl _)⟩
  | succ f ih =>
    intro i σ hi hM h h2
    have ei : fw_c (i : Int) = i := fw_c_id (by omega) (by omega)
    have e2 : fw_c 474 = 474 := fw_c_id (by decide) (by decide)
    have e5 : fw_c 232 = 232 := fw_c_id (by decide) (by decide)
    have e3 : σ 96 = σ0 96 := fw_okM_c hM (by decide)
    refine fs_m_studio_118 hG ?_
    rw [ei, e2, e5, Int.toNat_natCast, e3]
    refine ⟨fun q => absurd q (by omega), fun _ => ⟨fun q => fs_m_studio_147 hG ?_, fun q => ⟨⟨Int.natCast_nonneg _, by omega⟩, fs_m_studio_147 hG ?_⟩⟩⟩
    · rw [ei, fw_c0, Int.toNat_natCast]
      refine ⟨⟨Int.natCast_nonneg _, by omega⟩, trivial, ih (i + 1) _ (by omega) (fw_okM_upa hM (by decide)) (fun j hj hj2 => ?_) (fun j hj hj2 => ?_)⟩
      · rw [ab_ups_ne (fun z => by omega)]; exact h j (by omega) hj2
      · by_cases c : j = i
        · rw [c, ab_ups_eq]
        · rw [ab_ups_ne (fun z => c z.2)]; exact h2 j (by omega) hj2
    · rw [ei, Int.toNat_natCast]
      refine ⟨⟨Int.natCast_nonneg _, by omega⟩, trivial, ih (i + 1) _ (by omega) (fw_okM_upa hM (by decide)) (fun j hj hj2 => ?_) (fun j hj hj2 => ?_)⟩
      · by_cases c : j = i
        · rw [c, ab_ups_eq]
        · rw [ab_ups_ne (fun z => c z.2)]; exact h j (by omega) hj2
      · rw [ab_ups_ne (fun z => by omega)]; exact h2 j (by omega) hj2
/-- all lines -/
theorem st_l69 {G : fw_K} {K : fw_KR} (hG : fw_cls st_m_studio K G) {σ0 : ab_SG} {e : tk_E} (he : e.2.1 ≤ 940) : ∀ (f : Nat) (n : Int) (σ A : ab_SG) (p : Nat), 1800 ≤ p + 2 * f → ab_okM md_M σ0 σ → RM σ A e p → nb_is A →
    ((pr_all e f n A p).1.1 ≠ 0 → ∀ (v : Int) (σ' : ab_SG), ab_okM md_M σ0 σ' → σ' 93 10 = (pr_all e f n A p).1.1 → K (some (0, 0, v)) σ') →
    ((pr_all e f n A p).1.1 = 0 → ∀ (p' : Nat) (σ' : ab_SG), ab_okM md_M σ0 σ' → RM σ' (pr_all e f n A p).1.2.1 e p' → nb_is (pr_all e f n A p).1.2.1 → G 118 [some (2, 93, 0), some (0, 0, (pr_all e f n A p).2), some (0, 0, 0)] [] (ab_ups (ab_ups σ' 93 23 (fw_c (σ' 93 23 + 1))) 96 4 (fw_c (σ' 93 23 + 1)))) → G 69 [some (2, 93, 0), some (0, 0, n), none] [] σ := by
  intro f
  induction f with
  | zero =>
    intro n σ A p hp _ h _ _ _
    have := h.1.2.2.2.2.1
    exact absurd hp (by omega)
  | succ f ih =>
    intro n σ A p hp hM h hb h0 h1
    have mk := mg_kind h.1.1
    have e7 : fw_c (σ 93 7) = σ 93 7 := fw_c_id (by omega) (by omega)
    have t4 : (fw_c 4).toNat = 4 := by rw [fw_c_id (by decide) (by decide)]; rfl
    have u4 : 0 ≤ fw_c 4 ∧ fw_c 4 < ((232 : Nat) : Int) := by rw [fw_c_id (by decide) (by decide)]; decide
    unfold pr_all at h0 h1
    refine fs_m_studio_69 hG ?_
    rw [e7]
    refine ⟨fun q => ?_, fun q => ?_⟩
    · rw [if_pos (mk.2.2.2.1.mp q)] at h1
      rw [t4, fw_c_c]
      exact ⟨u4, trivial, h1 rfl p σ hM h hb⟩
    · rw [if_neg (fun y => q (mk.2.2.2.1.mpr y))] at h0 h1
      refine ⟨A, e, p, rfl, h, fun n0 σ' M h10 => ?_, fun n0 σ' M R => ?_⟩
      · rw [if_pos n0] at h0
        exact fs_m_studio_80 hG ⟨fun z => absurd fw_c0 z, fun _ => h0 n0 _ σ' (fw_okM_tr hM M (by decide)) h10⟩
      · rw [if_neg (fun y => y n0)] at h0 h1
        have g := pr_lns_p h.1.2.2.2.2.1 n0
        refine fs_m_studio_80 hG ⟨fun _ => ih (n + 1) σ' _ _ (by omega) (fw_okM_tr hM M (by decide)) R (pr_lns_nb h.2.1 hb n0) h0 h1, fun z => absurd (fw_c1.symm.trans z) (by decide)⟩
section
variable {l : Launch} {cy : Nat → ClassId} {ad wr cr : Nat → Nat} {D : va_G}
theorem fm_m_take (hinj : nn_inj ad) : fw_H l cy ad wr cr D 211 0 sp_m_take := fw_mk hinj (⟨"NameNotesModel", "take", "()I"⟩, prog_14_method_7_code, 2, (Option.some Jvm.ClassFile.FieldType.int), 0, true, 0) rfl rfl nn_KI20_ok nn_KJ20_ok nn_PF20_ok nn_PS20_ok (by decide +kernel) rfl rfl (fun _ h => absurd h List.not_mem_nil) (fun as σ K h => by
  obtain ⟨rfl, h⟩ := h
  refine ⟨rfl, fun G hG => fs_m_take_0 hG ?_⟩
  rw [fw_c0]
  exact h)
theorem fm_m_lay (hinj : nn_inj ad) : fw_H l cy ad wr cr D 210 0 sp_m_lay := fw_mk hinj (⟨"NameNotesModel", "lay", "()V"⟩, prog_14_method_28_code, 1, (Option.none : Option Jvm.ClassFile.FieldType), 0, true, 4) rfl rfl nn_KI20_ok nn_KJ20_ok nn_PF20_ok nn_PS20_ok (by decide +kernel) rfl rfl (fun _ h => absurd h List.not_mem_nil) (fun as σ K h => by
  obtain ⟨rfl, ho, h⟩ := h
  have t3 : (fw_c 3).toNat = 3 := by rw [fw_c_id (by decide) (by decide)]; rfl
  have u3 : 0 ≤ fw_c 3 ∧ fw_c 3 < ((474 : Nat) : Int) := by rw [fw_c_id (by decide) (by decide)]; decide
  have z9 : fw_c 9 = 9 := fw_c_id (by decide) (by decide)
  refine ⟨rfl, fun G hG => fs_m_lay_0 hG ?_⟩
  rw [t3, z9]
  rcases ho with ho | ho
  · rw [ho, fw_c0, fw_c1]
    refine ⟨fun _ => ⟨by decide, u3, trivial, h _ (fw_okM_ups (fw_okM_ups (fw_okM_refl _ _) (by decide)) (by decide)) ⟨?_, fun _ => ab_ups_eq, fun z => absurd ho z⟩⟩, fun z => absurd rfl z⟩
    rw [ab_ups_ne (by decide), ab_ups_eq]
  · rw [ho, fw_c1]
    exact ⟨fun z => absurd z (by decide), fun _ => h σ (fw_okM_refl _ _) ⟨ho, fun z => absurd (ho.symm.trans z) (by decide), fun _ => rfl⟩⟩)
theorem fm_m_begin (hinj : nn_inj ad) : fw_H l cy ad wr cr D 209 2 sp_m_begin := fw_mk hinj (⟨"NameNotesModel", "begin", "(I)V"⟩, prog_14_method_27_code, 2, (Option.none : Option Jvm.ClassFile.FieldType), 1, true, 4) rfl rfl nn_KI20_ok nn_KJ20_ok nn_PF20_ok nn_PS20_ok (by decide +kernel) rfl rfl (List.forall_mem_cons.mpr ⟨fw_row nn_PM20_ok (x := 182) (k := 0) (mn := 212) (np := 0) (ob := true) (ci := 11) (⟨"NameNotesModel", "go", "()V"⟩, prog_14_method_17_code, 5, (Option.none : Option Jvm.ClassFile.FieldType), 0, true, 4) rfl (by decide +kernel) rfl rfl (by decide) (fun _ => ⟨_, _, rfl⟩) (fm_m_go hinj), (List.forall_mem_cons.mpr ⟨fw_row nn_PM20_ok (x := 188) (k := 0) (mn := 210) (np := 0) (ob := true) (ci := 11) (⟨"NameNotesModel", "lay", "()V"⟩, prog_14_method_28_code, 1, (Option.none : Option Jvm.ClassFile.FieldType), 0, true, 4) rfl (by decide +kernel) rfl rfl (by decide) (fun _ => ⟨_, _, rfl⟩) (fm_m_lay hinj), (List.forall_mem_cons.mpr ⟨fw_row nn_PM20_ok (x := 191) (k := 0) (mn := 211) (np := 0) (ob := true) (ci := 11) (⟨"NameNotesModel", "take", "()I"⟩, prog_14_method_7_code, 2, (Option.some Jvm.ClassFile.FieldType.int), 0, true, 0) rfl (by decide +kernel) rfl rfl (by decide) (fun _ => ⟨_, _, rfl⟩) (fm_m_take hinj), (fun _ h => absurd h List.not_mem_nil)⟩)⟩)⟩) (fun as σ K h => by
  obtain ⟨x, t, rfl, hx, h2, ht, ho, h⟩ := h
  have ex : fw_c x = x := fw_c_id (by omega) (by omega)
  have e2 : fw_c (σ 93 2) = σ 93 2 := fw_c_id (by omega) (by omega)
  refine ⟨rfl, fun G hG => fs_m_begin_0 hG ⟨rfl, ho, fun σ1 M1 L1 => fs_m_begin_9 hG ⟨rfl, ?_⟩⟩⟩
  have N1 : ab_okM bg_M σ σ1 := fw_okM_tr (fw_okM_ups (fw_okM_refl _ _) (by decide)) M1 (by decide)
  have b2 : σ1 93 2 = σ 93 2 := (M1 93 2 (by decide)).trans (ab_ups_ne (by decide))
  have b0 : σ1 93 0 = 0 := (M1 93 0 (by decide)).trans (ab_ups_eq.trans fw_c0)
  have e94 : σ1 94 = σ 94 := (fw_okM_c M1 (by decide)).trans (ab_ups_row (by decide))
  have L : ly_is σ σ1 := L1
  rw [b2]
  refine fs_m_begin_14 hG ?_
  rw [e2, ex, fw_c0]
  have g3 : ab_ups (ab_ups (ab_ups (ab_ups (ab_ups σ1 93 2 0) 93 3 (σ 93 2)) 93 4 x) 93 10 0) 93 5 0 93 3 = σ 93 2 := by rw [ab_ups_ne (by decide), ab_ups_ne (by decide), ab_ups_ne (by decide), ab_ups_eq]
  have g4 : ab_ups (ab_ups (ab_ups (ab_ups (ab_ups σ1 93 2 0) 93 3 (σ 93 2)) 93 4 x) 93 10 0) 93 5 0 93 4 = x := by rw [ab_ups_ne (by decide), ab_ups_ne (by decide), ab_ups_eq]
  have g5 : ab_ups (ab_ups (ab_ups (ab_ups (ab_ups σ1 93 2 0) 93 3 (σ 93 2)) 93 4 x) 93 10 0) 93 5 0 93 5 = 0 := ab_ups_eq
  have g10 : ab_ups (ab_ups (ab_ups (ab_ups (ab_ups σ1 93 2 0) 93 3 (σ 93 2)) 93 4 x) 93 10 0) 93 5 0 93 10 = 0 := by rw [ab_ups_ne (by decide), ab_ups_eq]
  have g2 : ab_ups (ab_ups (ab_ups (ab_ups (ab_ups σ1 93 2 0) 93 3 (σ 93 2)) 93 4 x) 93 10 0) 93 5 0 93 2 = 0 := by rw [ab_ups_ne (by decide), ab_ups_ne (by decide), ab_ups_ne (by decide), ab_ups_ne (by decide), ab_ups_eq]
  have g0 : ab_ups (ab_ups (ab_ups (ab_ups (ab_ups σ1 93 2 0) 93 3 (σ 93 2)) 93 4 x) 93 10 0) 93 5 0 93 0 = 0 := by rw [ab_ups_ne (by decide), ab_ups_ne (by decide), ab_ups_ne (by decide), ab_ups_ne (by decide), ab_ups_ne (by decide), b0]
  have g22 : ab_ups (ab_ups (ab_ups (ab_ups (ab_ups σ1 93 2 0) 93 3 (σ 93 2)) 93 4 x) 93 10 0) 93 5 0 93 22 = 1 := by rw [ab_ups_ne (by decide), ab_ups_ne (by decide), ab_ups_ne (by decide), ab_ups_ne (by decide), ab_ups_ne (by decide), L.1]
  have g95 : ab_ups (ab_ups (ab_ups (ab_ups (ab_ups σ1 93 2 0) 93 3 (σ 93 2)) 93 4 x) 93 10 0) 93 5 0 95 = σ1 95 := by rw [ab_ups_row (by decide), ab_ups_row (by decide), ab_ups_row (by decide), ab_ups_row (by decide), ab_ups_row (by decide)]
  have g94 : ab_ups (ab_ups (ab_ups (ab_ups (ab_ups σ1 93 2 0) 93 3 (σ 93 2)) 93 4 x) 93 10 0) 93 5 0 94 = σ 94 := by rw [ab_ups_row (by decide), ab_ups_row (by decide), ab_ups_row (by decide), ab_ups_row (by decide), ab_ups_row (by decide), e94]
  have N2 : ab_okM bg_M σ (ab_ups (ab_ups (ab_ups (ab_ups (ab_ups σ1 93 2 0) 93 3 (σ 93 2)) 93 4 x) 93 10 0) 93 5 0) := fw_okM_ups (fw_okM_ups (fw_okM_ups (fw_okM_ups (fw_okM_ups N1 (by decide)) (by decide)) (by decide)) (by decide)) (by decide)
  generalize ab_ups (ab_ups (ab_ups (ab_ups (ab_ups σ1 93 2 0) 93 3 (σ 93 2)) 93 4 x) 93 10 0) 93 5 0 = σ2 at g3 g4 g5 g10 g2 g0 g22 g95 g94 N2 ⊢
  have tp : mg_tp σ2 t := fun j hj => by
    rw [g3] at hj
    rw [g94]
    exact ht j hj
  refine ⟨t, rfl, by omega, tp, fun σ3 M3 S3 => fs_m_begin_36 hG ?_⟩
  have k3 : σ3 93 3 = σ 93 2 := (M3 93 3 (by decide)).trans g3
  have k4 : σ3 93 4 = x := (M3 93 4 (by decide)).trans g4
  rw [g3, g4, g5] at S3
  refine h σ3 (fw_okM_tr N2 M3 (by decide)) ⟨S3, mg_tp_M tp M3 (by decide) (M3 93 3 (by decide)), ?_, k4, Nat.zero_le _, (M3 93 10 (by decide)).trans g10, ?_⟩ ⟨(M3 93 22 (by decide)).trans g22, fun z => ?_, fun z => ?_⟩ ((M3 93 2 (by decide)).trans g2) ((M3 93 0 (by decide)).trans g0)
  · rw [k3]; show σ 93 2 = (((σ 93 2).toNat : Nat) : Int); omega
  · rw [k3, k4]; omega
  · rw [show σ3 95 = σ2 95 from fw_okM_c M3 (by decide), g95]; exact L.2.1 z
  · rw [show σ3 95 = σ2 95 from fw_okM_c M3 (by decide), g95]; exact L.2.2 z)
theorem fm_m_studio (hinj : nn_inj ad) : fw_H l cy ad wr cr D 208 6 sp_m_studio := fw_mk hinj (⟨"NameNotesModel", "studio", "()I"⟩, prog_14_method_39_code, 3, (Option.some Jvm.ClassFile.FieldType.int), 0, true, 0) rfl rfl nn_KI20_ok nn_KJ20_ok nn_PF20_ok nn_PS20_ok (by decide +kernel) rfl rfl (List.forall_mem_cons.mpr ⟨fw_row nn_PM20_ok (x := 249) (k := 0) (mn := 209) (np := 1) (ob := true) (ci := 11) (⟨"NameNotesModel", "begin", "(I)V"⟩, prog_14_method_27_code, 2, (Option.none : Option Jvm.ClassFile.FieldType), 1, true, 4) rfl (by decide +kernel) rfl rfl (by decide) (fun _ => ⟨_, _, rfl⟩) (fm_m_begin hinj), (List.forall_mem_cons.mpr ⟨fw_row nn_PM20_ok (x := 252) (k := 0) (mn := 216) (np := 0) (ob := true) (ci := 11) (⟨"NameNotesModel", "readLine", "()Z"⟩, prog_14_method_38_code, 2, (Option.some Jvm.ClassFile.FieldType.boolean), 0, true, 1) rfl (by decide +kernel) rfl rfl (by decide) (fun _ => ⟨_, _, rfl⟩) (fm_m_readLine hinj), (fun _ h => absurd h List.not_mem_nil)⟩)⟩) (fun as σ K h => by
  obtain ⟨t, A, rfl, h2, ht, ho, hA, hA2, h0, h1⟩ := h
  unfold pr_read at h0 h1
  have e5 : fw_c 232 = 232 := fw_c_id (by decide) (by decide)
  have z9 : fw_c 9 = 9 := fw_c_id (by decide) (by decide)
  have t3 : (fw_c 3).toNat = 3 := by rw [fw_c_id (by decide) (by decide)]; rfl
  have u3 : 0 ≤ fw_c 3 ∧ fw_c 3 < ((232 : Nat) : Int) := by rw [fw_c_id (by decide) (by decide)]; decide
  have hn : (σ 93 2).toNat ≤ 940 := by omega
  generalize hN : (σ 93 2).toNat = n at h0 h1 hn
  refine ⟨rfl, fun G hG => fs_m_studio_0 hG ⟨900, t, rfl, by decide, h2, ht, ho, fun σ1 M1 S1 L1 b2 b0 => fs_m_studio_7 hG ?_⟩⟩
  rw [hN] at S1
  refine st_l9 hG (fun σ2 M2 Z2 => fs_m_studio_9 hG ⟨fun _ => ?_, fun q => absurd q (Int.lt_irrefl _)⟩) 232 0 σ1 rfl (fw_okM_refl _ _) (fun j hj => absurd hj (Nat.not_lt_zero _))
  rw [t3, z9, fw_c0]
  refine ⟨u3, trivial, ?_⟩
  have N3 : ab_okM ((93, 25) :: (93, 26) :: [(96, 1000000)]) σ1 (ab_ups (ab_ups (ab_ups σ2 96 3 9) 93 25 0) 93 26 0) := fw_okM_ups (fw_okM_ups (fw_okM_upa (fw_okM_tr (fw_okM_refl _ _) M2 (by decide)) (by decide)) (by decide)) (by decide)
  have S3 : mt_is (ab_ups (ab_ups (ab_ups σ2 96 3 9) 93 25 0) 93 26 0) (t, n, 900) 0 := by
    have q2 : mt_is σ2 (t, n, 900) 0 := by
      have e93 : σ2 93 = σ1 93 := fw_okM_c M2 (by decide)
      have e94 : σ2 94 = σ1 94 := fw_okM_c M2 (by decide)
      unfold mt_is mg_is mg_tp at S1 ⊢
      rw [e93, e94]
      exact S1
    exact mt_ups (mt_ups (mt_ups q2 (Or.inl ⟨by decide, by decide⟩)) (Or.inr ⟨rfl, by decide⟩)) (Or.inr ⟨rfl, by decide⟩)
  have z96 : ∀ j : Nat, j < 232 → j ≠ 3 → ab_ups (ab_ups (ab_ups σ2 96 3 9) 93 25 0) 93 26 0 96 j = 0 := fun j hj hj3 => by
    rw [ab_ups_ne (fun z => absurd z.1 (by decide)), ab_ups_ne (fun z => absurd z.1 (by decide)), ab_ups_ne (fun z => hj3 z.2)]; exact Z2 j hj
  have z963 : ab_ups (ab_ups (ab_ups σ2 96 3 9) 93 25 0) 93 26 0 96 3 = 9 := by rw [ab_ups_ne (by decide), ab_ups_ne (by decide), ab_ups_eq]
  have z25 : ab_ups (ab_ups (ab_ups σ2 96 3 9) 93 25 0) 93 26 0 93 25 = 0 := by rw [ab_ups_ne (by decide), ab_ups_eq]
  have z26 : ab_ups (ab_ups (ab_ups σ2 96 3 9) 93 25 0) 93 26 0 93 26 = 0 := ab_ups_eq
  generalize ab_ups (ab_ups (ab_ups σ2 96 3 9) 93 25 0) 93 26 0 = σ3 at N3 S3 z96 z963 z25 z26 ⊢
  refine st_l49 hG (fun σ4 M4 Z4 => ?_) 5 0 σ3 rfl (fw_okM_refl _ _) (fun j hj => absurd hj (Nat.not_lt_zero _))
  have S4 : mt_is σ4 (t, n, 900) 0 := by
    have e93 : σ4 93 = σ3 93 := fw_okM_c M4 (by decide)
    have e94 : σ4 94 = σ3 94 := fw_okM_c M4 (by decide)
    unfold mt_is mg_is mg_tp at S3 ⊢
    rw [e93, e94]
    exact S3
  have e96 : σ4 96 = σ3 96 := fw_okM_c M4 (by decide)
  have e93 : σ4 93 = σ3 93 := fw_okM_c M4 (by decide)
  have hnb := rl_nb hA
  obtain ⟨⟨a11, a12, a13, a14, a55, a56, -, -⟩, a64, a3, a4, -⟩ := hA
  have hI : RI A := ⟨by rw [a11]; decide, by rw [a12]; decide, by rw [a13]; decide, hA2.1, hA2.2.1, hA2.2.2.1, hA2.2.2.2, by rw [a4]; decide⟩
  have R4 : RM σ4 A (t, n, 900) 0 := by
    refine ⟨S4, hI, rn_n_is hI ⟨?_, ?_, ?_, fun j hj => ?_, fun j hj => ?_, fun j hj => ?_⟩, ?_, fun x hx => ?_, fun c hc => ?_, fun j hj => ?_, fun j hj => ?_, fun j hj hj2 => a56 j hj, fun j hj => ?_, ?_, ?_⟩
    · rw [e96, z96 0 (by decide) (by decide), a11]
    · rw [e96, z96 1 (by decide) (by decide), a12]
    · rw [e96, z96 2 (by decide) (by decide), a13]
    · rw [a11] at hj; exact absurd hj (by omega)
    · rw [a12] at hj; exact absurd hj (by omega)
    · rw [a13] at hj; exact absurd hj (by omega)
    · rw [e96, z963, a14]
    · rw [a11] at hx; exact absurd hx (by omega)
    · rw [a12] at hc; exact absurd hc (by omega)
    · rw [e96, z96 _ (by omega) (by omega), a55 j hj]
    · rw [a13] at hj; exact absurd hj (by omega)
    · rw [Z4 j hj, a64 j hj]
    · rw [e93, z25, a3]
    · rw [e93, z26, a4]
  have N4 : ab_okM mf_M σ σ4 := fw_okM_tr (fw_okM_tr (fw_okM_tr (fw_okM_refl _ _) M1 (by decide)) N3 (by decide)) M4 (by decide)
  have d22 : σ4 93 22 = 1 := by rw [e93, N3 93 22 (by decide)]; exact L1.1
  have d2 : σ4 93 2 = 0 := by rw [e93, N3 93 2 (by decide)]; exact b2
  have d23 : σ4 93 23 = σ 93 23 := by rw [e93, N3 93 23 (by decide)]; exact M1 93 23 (by decide)
  have d95 : σ4 95 = σ1 95 := (fw_okM_c M4 (by decide)).trans (fw_okM_c N3 (by decide))
  refine st_l69 hG (e := (t, n, 900)) hn 900 0 σ4 A 0 (by decide) (fw_okM_refl _ _) R4 hnb (fun q v σ5 M5 h10 => h0 q v σ5 (fw_okM_tr N4 M5 (by decide)) h10 ((M5 93 2 (by decide)).trans d2) ⟨(M5 93 22 (by decide)).trans d22, fun z => ?_, fun z => ?_⟩) (fun q p5 σ5 M5 R5 B5 => ?_)
  · rw [show σ5 95 = σ4 95 from fw_okM_c M5 (by decide), d95]; exact L1.2.1 z
  · rw [show σ5 95 = σ4 95 from fw_okM_c M5 (by decide), d95]; exact L1.2.2 z
  have h1 := h1 q
  generalize (pr_all (t, n, 900) 900 0 A 0).1.2.1 = A5 at h1 R5 B5
  generalize (pr_all (t, n, 900) 900 0 A 0).2 = m at h1 ⊢
  have g10 : σ5 93 10 = 0 := R5.1.2.2.2.2.2.1
  have g2 : σ5 93 2 = 0 := (M5 93 2 (by decide)).trans d2
  have g22 : σ5 93 22 = 1 := (M5 93 22 (by decide)).trans d22
  have g23 : σ5 93 23 = σ 93 23 := (M5 93 23 (by decide)).trans d23
  have N5 : ab_okM ms_M σ σ5 := fw_okM_tr (fw_okM_tr (fw_okM_refl _ _) N4 (by decide)) M5 (by decide)
  rw [g23]
  have N6 : ab_okM ms_M σ (ab_ups (ab_ups σ5 93 23 (fw_c (σ 93 23 + 1))) 96 4 (fw_c (σ 93 23 + 1))) := fw_okM_upa (fw_okM_ups N5 (by decide)) (by decide)
  have hsr : sr_is (ab_ups (ab_ups σ5 93 23 (fw_c (σ 93 23 + 1))) 96 4 (fw_c (σ 93 23 + 1)) 96) (ab_ups (ab_ups σ5 93 23 (fw_c (σ 93 23 + 1))) 96 4 (fw_c (σ 93 23 + 1)) 100) A5 := by
    refine sr_cong R5.2.1 (fun j _ hj4 => ?_) (fun j _ => ?_) (sr_of R5)
    · rw [ab_ups_ne (fun z => hj4 z.2), ab_ups_ne (fun z => absurd z.1 (by decide))]
    · rw [ab_ups_ne (fun z => absurd z.1 (by decide)), ab_ups_ne (fun z => absurd z.1 (by decide))]
  have w10 : ab_ups (ab_ups σ5 93 23 (fw_c (σ 93 23 + 1))) 96 4 (fw_c (σ 93 23 + 1)) 93 10 = 0 := by rw [ab_ups_ne (by decide), ab_ups_ne (by decide), g10]
  have w2 : ab_ups (ab_ups σ5 93 23 (fw_c (σ 93 23 + 1))) 96 4 (fw_c (σ 93 23 + 1)) 93 2 = 0 := by rw [ab_ups_ne (by decide), ab_ups_ne (by decide), g2]
  have w22 : ab_ups (ab_ups σ5 93 23 (fw_c (σ 93 23 + 1))) 96 4 (fw_c (σ 93 23 + 1)) 93 22 = 1 := by rw [ab_ups_ne (by decide), ab_ups_ne (by decide), g22]
  have w23 : ab_ups (ab_ups σ5 93 23 (fw_c (σ 93 23 + 1))) 96 4 (fw_c (σ 93 23 + 1)) 93 23 = fw_c (σ 93 23 + 1) := by rw [ab_ups_ne (by decide), ab_ups_eq]
  have w964 : ab_ups (ab_ups σ5 93 23 (fw_c (σ 93 23 + 1))) 96 4 (fw_c (σ 93 23 + 1)) 96 4 = fw_c (σ 93 23 + 1) := ab_ups_eq
  generalize ab_ups (ab_ups σ5 93 23 (fw_c (σ 93 23 + 1))) 96 4 (fw_c (σ 93 23 + 1)) = σ6 at N6 hsr w10 w2 w22 w23 w964 ⊢
  refine st_l118 hG (σ0 := σ6) (fun σ7 M7 c7 z7 => st_l156 hG (σ0 := σ7) (fun σ8 M8 c8 => h1 _ ?_) 20 0 σ7 rfl (fw_okM_refl _ _) (fun j hj => absurd hj (Nat.not_lt_zero _))) 474 0 σ6 rfl (fw_okM_refl _ _) (fun j hj => absurd hj (Nat.not_lt_zero _)) (fun j hj => absurd hj (Nat.not_lt_zero _))
  have o93 : ∀ j : Nat, j ≠ 24 → ab_ups σ8 93 24 0 93 j = σ6 93 j := fun j hj => by rw [ab_ups_ne (fun z => hj z.2), show σ8 93 = σ7 93 from fw_okM_c M8 (by decide), show σ7 93 = σ6 93 from fw_okM_c M7 (by decide)]
  have o95 : ab_ups σ8 93 24 0 95 = σ7 95 := (ab_ups_row (by decide)).trans (fw_okM_c M8 (by decide))
  have o99 : ab_ups σ8 93 24 0 99 = σ8 99 := ab_ups_row (by decide)
  have o100 : σ7 100 = σ6 100 := fw_okM_c M7 (by decide)
  refine ⟨fw_okM_ups (fw_okM_tr (fw_okM_tr N6 M7 (by decide)) M8 (by decide)) (by decide), (o93 10 (by decide)).trans w10, (o93 2 (by decide)).trans w2, (o93 22 (by decide)).trans w22, ab_ups_eq, R5.2.1, B5, ?_, fun j hj hj2 => ?_, (o93 23 (by decide)).trans w23, ?_⟩
  · rw [o95, o99]
    refine sr_cong R5.2.1 (fun j hj _ => c7 j hj) (fun j hj => ?_) (sr_can R5.2.1 B5 hsr)
    rw [c8 j hj, o100]
  · rw [o95]; exact z7 j hj hj2
  · rw [o95, c7 4 (by decide), w964, fw_c_c])
end
end
section
/-! the tapes: bytes come, are taken away; how many there are of each -/
theorem by_eq (x : BitVec 32) (k : Nat) (hk : k ≤ 24) : (((x.sshiftRight k).signExtend 8).signExtend 32) &&& 255#32 = (x >>> k) &&& 255#32 := by
  apply BitVec.eq_of_getLsbD_eq
  intro i hi
  rw [BitVec.getLsbD_and, BitVec.getLsbD_and]
  by_cases h8 : i < 8
  · have h1 : k + i < 32 := by omega
    have h2 : ¬ 32 ≤ i := by omega
    have e1 : (((x.sshiftRight k).signExtend 8).signExtend 32).getLsbD i = x.getLsbD (k + i) := by
      simp only [BitVec.getLsbD_signExtend, BitVec.getLsbD_sshiftRight, hi, h8, h1, h2, decide_true, decide_false, Bool.not_false, Bool.true_and, ↓reduceIte]
    rw [e1, BitVec.getLsbD_ushiftRight]
  · have h0 : ∀ j : Nat, j < 32 → ¬ j < 8 → (255#32).getLsbD j = false := by decide
    rw [h0 i hi h8, Bool.and_false, Bool.and_false]
theorem by_in (x : BitVec 32) : 0 ≤ (x &&& 255#32).toInt ∧ (x &&& 255#32).toInt ≤ 255 := by
  have h : (x &&& 255#32).toNat ≤ 255 := by
    rw [BitVec.toNat_and]
    exact Nat.le_trans Nat.and_le_right (by decide)
  have e : (x &&& 255#32).toInt = ((x &&& 255#32).toNat : Int) := BitVec.toInt_eq_toNat_of_lt (by omega)
  rw [e]
  omega
theorem by_24 (V : Int32) : ((V >>> (Int32.ofInt 24 &&& 31)).toInt8).toInt32 &&& Int32.ofInt 255 = (V.toUInt32 >>> ((Int32.ofInt 24).toUInt32 &&& Int32.toUInt32 31)).toInt32 &&& Int32.ofInt 255 := Int32.toBitVec_inj.mp (by_eq V.toBitVec 24 (by decide))
theorem by_16 (V : Int32) : ((V >>> (Int32.ofInt 16 &&& 31)).toInt8).toInt32 &&& Int32.ofInt 255 = (V.toUInt32 >>> ((Int32.ofInt 16).toUInt32 &&& Int32.toUInt32 31)).toInt32 &&& Int32.ofInt 255 := Int32.toBitVec_inj.mp (by_eq V.toBitVec 16 (by decide))
theorem by_8 (V : Int32) : ((V >>> (Int32.ofInt 8 &&& 31)).toInt8).toInt32 &&& Int32.ofInt 255 = (V.toUInt32 >>> ((Int32.ofInt 8).toUInt32 &&& Int32.toUInt32 31)).toInt32 &&& Int32.ofInt 255 := Int32.toBitVec_inj.mp (by_eq V.toBitVec 8 (by decide))
theorem by_0 (V : Int32) : ((V >>> (Int32.ofInt 0 &&& 31)).toInt8).toInt32 &&& Int32.ofInt 255 = (V.toUInt32 >>> ((Int32.ofInt 0).toUInt32 &&& Int32.toUInt32 31)).toInt32 &&& Int32.ofInt 255 := Int32.toBitVec_inj.mp (by_eq V.toBitVec 0 (by decide))
def ap_b (v : Int) (k : Nat) : Int := fw_b (fw_b (fw_op 6 v (24 - 8 * (k : Int))))
def ap_m (v : Int) (k : Nat) : Int := fw_c (fw_op 8 (fw_op 7 v (24 - 8 * (k : Int))) 255)
theorem ap_one (v s : Int) (h : ((Int32.ofInt v >>> (Int32.ofInt s &&& 31)).toInt8).toInt32 &&& Int32.ofInt 255 = ((Int32.ofInt v).toUInt32 >>> ((Int32.ofInt s).toUInt32 &&& Int32.toUInt32 31)).toInt32 &&& Int32.ofInt 255) :
    fw_op 8 (fw_b (fw_b (fw_op 6 v s))) 255 = fw_c (fw_op 8 (fw_op 7 v s) 255) ∧ 0 ≤ fw_c (fw_op 8 (fw_op 7 v s) 255) ∧ fw_c (fw_op 8 (fw_op 7 v s) 255) ≤ 255 := by
  have e1 : fw_b (fw_op 6 v s) = ((Int32.ofInt v >>> (Int32.ofInt s &&& 31)).toInt8).toInt32.toInt := by
    show ((Int8.ofInt (Int32.ofInt v >>> (Int32.ofInt s &&& 31)).toInt).toInt32).toInt = _
    rw [← Int32.toInt8_ofInt, Int32.ofInt_toInt]
  have e2 : ∀ b : Int8, fw_b (b.toInt32.toInt) = b.toInt32.toInt := fun b => by
    show ((Int8.ofInt b.toInt32.toInt).toInt32).toInt = _
    rw [← Int32.toInt8_ofInt, Int32.ofInt_toInt, Int8.toInt8_toInt32]
  have e3 : ∀ z : Int32, fw_op 8 z.toInt 255 = (z &&& Int32.ofInt 255).toInt := fun z => by
    show (Int32.ofInt z.toInt &&& Int32.ofInt 255).toInt = _
    rw [Int32.ofInt_toInt]
  have e4 : fw_op 7 v s = (((Int32.ofInt v).toUInt32 >>> ((Int32.ofInt s).toUInt32 &&& Int32.toUInt32 31)).toInt32).toInt := rfl
  have e5 : ∀ z : Int32, fw_c z.toInt = z.toInt := fun z => by
    unfold fw_c
    rw [Int32.ofInt_toInt]
  rw [e1, e2, e3, e4, e3, e5, h]
  refine ⟨rfl, ?_⟩
  exact by_in (((Int32.ofInt v).toUInt32 >>> ((Int32.ofInt s).toUInt32 &&& Int32.toUInt32 31)).toInt32).toBitVec
theorem ap_eq (v : Int) : ∀ k : Nat, k < 4 → fw_op 8 (ap_b v k) 255 = ap_m v k ∧ 0 ≤ ap_m v k ∧ ap_m v k ≤ 255
  | 0, _ => ap_one v 24 (by_24 _)
  | 1, _ => ap_one v 16 (by_16 _)
  | 2, _ => ap_one v 8 (by_8 _)
  | 3, _ => ap_one v 0 (by_0 _)
  | n + 4, h => absurd h (by omega)
def ap_M : ab_ML := [(1, 1), (2, 1000000)]
def ap_is (σ σ' : ab_SG) (n m : Nat) (w : Nat → Int) : Prop := ab_okM ap_M σ σ' ∧ σ' 1 1 = ((n + m : Nat) : Int) ∧ (∀ j : Nat, j < n → σ' 2 j = σ 2 j) ∧ ∀ i : Nat, i < m → σ' 2 (n + i) = w i
def cm_M : ab_ML := [(93, 0), (93, 2), (94, 1000000)]
def cm_is (σ σ' : ab_SG) (n m : Nat) (w : Nat → Int) : Prop := ab_okM cm_M σ σ' ∧ σ' 93 2 = ((n + m : Nat) : Int) ∧ (∀ j : Nat, j < n → σ' 94 j = σ 94 j) ∧ ∀ i : Nat, i < m → σ' 94 (n + i) = w i
def sp_append : fw_SP := fun as σ K => ∃ (v : Int) (n : Nat), as = [(2, 1, 0), (0, 0, v)] ∧ σ 1 1 = (n : Int) ∧ n ≤ 936 ∧ ∀ σ' : ab_SG, ap_is σ σ' n 4 (ap_b v) → K none σ'
def sp_m_come : fw_SP := fun as σ K => ∃ (v : Int) (n : Nat), as = [(2, 93, 0), (0, 0, v)] ∧ σ 93 2 = (n : Int) ∧ n ≤ 936 ∧ ∀ σ' : ab_SG, cm_is σ σ' n 4 (ap_m v) → K none σ'
def sp_hasRoom : fw_SP := fun as σ K => as = [(2, 1, 0)] ∧ (0 ≤ σ 1 1 ∧ σ 1 1 ≤ 940) ∧ K (some (0, 0, fw_bo (σ 1 1 + 20 ≤ 940))) σ
/-- five numbers' bytes, one behind another -/
def fd_w (f : Int → Nat → Int) (a b c d e : Int) (i : Nat) : Int := f (([a, b, c, d, e] : List Int).getD (i / 4) 0) (i % 4)
def sp_feed : fw_SP := fun as σ K => ∃ (a b c d e : Int) (n : Nat), as = [(2, 0, 0), (0, 0, a), (0, 0, b), (0, 0, c), (0, 0, d), (0, 0, e)] ∧ σ 1 1 = (n : Int) ∧ n ≤ 940 ∧ (920 < n → K (some (0, 0, -1)) σ) ∧ (n ≤ 920 → ∀ σ' : ab_SG, ap_is σ σ' n 20 (fd_w ap_b a b c d e) → K (some (0, 0, (n : Int) + 20)) σ')
def sp_m_feed : fw_SP := fun as σ K => ∃ (a b c d e : Int) (n : Nat), as = [(2, 93, 0), (0, 0, a), (0, 0, b), (0, 0, c), (0, 0, d), (0, 0, e)] ∧ σ 93 2 = (n : Int) ∧ n ≤ 940 ∧ (920 < n → K (some (0, 0, -1)) (ab_ups σ 93 0 0)) ∧ (n ≤ 920 → ∀ σ' : ab_SG, cm_is σ σ' n 20 (fd_w ap_m a b c d e) → K (some (0, 0, (n : Int) + 20)) σ')
def sp_end : fw_SP := fun as σ K => ∃ n : Int, as = [(2, 0, 0), (0, 0, n)] ∧ (0 ≤ σ 1 1 ∧ σ 1 1 ≤ 940) ∧ (0 ≤ fw_c n ∧ fw_c n ≤ σ 1 1 → K (some (0, 0, 1)) (ab_ups σ 1 1 (fw_c n))) ∧ (¬ (0 ≤ fw_c n ∧ fw_c n ≤ σ 1 1) → K (some (0, 0, 0)) σ)
def sp_m_end : fw_SP := fun as σ K => ∃ n : Int, as = [(2, 93, 0), (0, 0, n)] ∧ (0 ≤ σ 93 2 ∧ σ 93 2 ≤ 940) ∧ (0 ≤ fw_c n ∧ fw_c n ≤ σ 93 2 → K (some (0, 0, 1)) (ab_ups (ab_ups σ 93 0 0) 93 2 (fw_c n))) ∧ (¬ (0 ≤ fw_c n ∧ fw_c n ≤ σ 93 2) → K (some (0, 0, 0)) (ab_ups σ 93 0 0))
def cq_v (a b c d t w : Int) : Int := if w = 0 then a else if w = 1 then b else if w = 2 then c else if w = 3 then d else if w = 4 then t else -1
def sp_count : fw_SP := fun as σ K => ∃ w : Int, as = [(2, 0, 0), (0, 0, w)] ∧ K (some (0, 0, cq_v (σ 3 11) (σ 3 12) (σ 3 13) (σ 3 14) (σ 1 1) (fw_c w))) σ
def sp_m_tunes : fw_SP := fun as σ K => as = [(2, 93, 0)] ∧ K (some (0, 0, σ 95 0)) σ
def sp_m_count : fw_SP := fun as σ K => ∃ w : Int, as = [(2, 93, 0), (0, 0, w)] ∧ ly_ok σ ∧ ∀ σ' : ab_SG, ab_okM [(93, 0), (93, 22), (95, 3)] σ σ' → ly_is σ σ' → K (some (0, 0, cq_v (σ' 95 0) (σ' 95 1) (σ' 95 2) (σ' 95 3) (σ' 93 2) (fw_c w))) σ'
theorem ap_add {σ σ1 σ2 : ab_SG} {n m k : Nat} {w w1 w2 : Nat → Int} (h1 : ap_is σ σ1 n m w1) (h2 : ap_is σ1 σ2 (n + m) k w2) (hw : ∀ i : Nat, i < m + k → w i = if i < m then w1 i else w2 (i - m)) : ap_is σ σ2 n (m + k) w := by
  obtain ⟨a1, a2, a3, a4⟩ := h1
  obtain ⟨b1, b2, b3, b4⟩ := h2
  refine ⟨fw_okM_tr a1 b1 (fun _ h => h), by rw [b2]; omega, fun j hj => (b3 j (by omega)).trans (a3 j hj), fun i hi => ?_⟩
  rw [hw i hi]
  by_cases c : i < m
  · rw [if_pos c, b3 _ (by omega)]; exact a4 i c
  · rw [if_neg c, show n + i = n + m + (i - m) by omega]; exact b4 (i - m) (by omega)
theorem cm_add {σ σ1 σ2 : ab_SG} {n m k : Nat} {w w1 w2 : Nat → Int} (h1 : cm_is σ σ1 n m w1) (h2 : cm_is σ1 σ2 (n + m) k w2) (hw : ∀ i : Nat, i < m + k → w i = if i < m then w1 i else w2 (i - m)) : cm_is σ σ2 n (m + k) w := by
  obtain ⟨a1, a2, a3, a4⟩ := h1
  obtain ⟨b1, b2, b3, b4⟩ := h2
  refine ⟨fw_okM_tr a1 b1 (fun _ h => h), by rw [b2]; omega, fun j hj => (b3 j (by omega)).trans (a3 j hj), fun i hi => ?_⟩
  rw [hw i hi]
  by_cases c : i < m
  · rw [if_pos c, b3 _ (by omega)]; exact a4 i c
  · rw [if_neg c, show n + i = n + m + (i - m) by omega]; exact b4 (i - m) (by omega)
theorem fd_ne (f : Int → Nat → Int) (a b c d e : Int) (q : Nat) (hq : q < 5) : ∀ i : Nat, i < 4 * q + 4 → fd_w f a b c d e i = if i < 4 * q then fd_w f a b c d e i else f (([a, b, c, d, e] : List Int).getD q 0) (i - 4 * q) := by
  intro i hi
  by_cases c1 : i < 4 * q
  · rw [if_pos c1]
  · rw [if_neg c1]
    unfold fd_w
    rw [show i / 4 = q by omega, show i % 4 = i - 4 * q by omega]
abbrev fk_hasRoom : List fw_CR := []
abbrev st_hasRoom : fw_K → fw_KR → fw_K := fw_st vwCl nn_sh nn_kd fw_kv fw_wc (nn_KI2.map (fun x => x.1)) (nn_KJ2.map (fun x => x.1)) (nn_PF2.map (fun x => x.1)) (nn_PS2.map (fun x => x.1)) fk_hasRoom 0 nn_dt1 1 1
theorem fs_hasRoom_0 {G : fw_K} {R : fw_KR} (hG : fw_cls st_hasRoom R G) {σ : ab_SG} (h : (fw_c 940 < fw_c ((σ 1 1) + 20) → (0 ≤ fw_c 0 ∧ fw_c 0 ≤ 1) ∧ R (some (0, 0, 0)) σ) ∧ (fw_c ((σ 1 1) + 20) ≤ fw_c 940 → (0 ≤ fw_c 1 ∧ fw_c 1 ≤ 1) ∧ R (some (0, 0, 1)) σ)) : G 0 [some (2, 1, 0)] [] σ := fw_on hG [] 200 h
abbrev fk_append : List fw_CR := []
abbrev st_append : fw_K → fw_KR → fw_K := fw_st vwCl nn_sh nn_kd fw_kv fw_wc (nn_KI2.map (fun x => x.1)) (nn_KJ2.map (fun x => x.1)) (nn_PF2.map (fun x => x.1)) (nn_PS2.map (fun x => x.1)) fk_append 0 nn_dt2 3 4
theorem fs_append_0 {G : fw_K} {R : fw_KR} (hG : fw_cls st_append R G) {v : Int} {σ : ab_SG} (h : G 3 [some (2, 1, 0), some (0, 0, v), some (0, 0, 24)] [] σ) : G 0 [some (2, 1, 0), some (0, 0, v), none] [] σ := fw_on hG [3, 49] 200 h
theorem fs_append_3 {G : fw_K} {R : fw_KR} (hG : fw_cls st_append R G) {a1 a2 : Int} {σ : ab_SG} (h : (fw_c a2 < 0 → R none σ) ∧ (0 ≤ fw_c a2 → (fw_c (σ 1 1) < 0 → G 49 [some (2, 1, 0), some (0, 0, a1), some (0, 0, a2)] [] σ) ∧ (0 ≤ fw_c (σ 1 1) → (fw_c ((940 : Nat) : Int) ≤ fw_c (σ 1 1) → G 49 [some (2, 1, 0), some (0, 0, a1), some (0, 0, a2)] [] σ) ∧ (fw_c (σ 1 1) < fw_c ((940 : Nat) : Int) → (0 ≤ fw_c (σ 1 1) ∧ fw_c (σ 1 1) < ((940 : Nat) : Int)) ∧ True ∧ (G 49 [some (2, 1, 0), some (0, 0, a1), some (0, 0, a2)] [] (ab_ups (ab_ups σ 2 (fw_c (σ 1 1)).toNat (fw_b (fw_b (fw_op 6 a1 a2)))) 1 1 (fw_c ((σ 1 1) + 1)))))))) : G 3 [some (2, 1, 0), some (0, 0, a1), some (0, 0, a2)] [] σ := fw_on hG [3, 49] 200 h
theorem fs_append_49 {G : fw_K} {R : fw_KR} (hG : fw_cls st_append R G) {a1 a2 : Int} {σ : ab_SG} (h : G 3 [some (2, 1, 0), some (0, 0, a1), some (0, 0, a2 + (-8))] [] σ) : G 49 [some (2, 1, 0), some (0, 0, a1), some (0, 0, a2)] [] σ := fw_on hG [3, 49] 200 h
abbrev fk_feed : List fw_CR := [(108, 0, true, 8, 0, sp_hasRoom), (112, 1, true, 8, 0, sp_append)]
abbrev st_feed : fw_K → fw_KR → fw_K := fw_st vwCl nn_sh nn_kd fw_kv fw_wc (nn_KI1.map (fun x => x.1)) (nn_KJ1.map (fun x => x.1)) (nn_PF1.map (fun x => x.1)) (nn_PS1.map (fun x => x.1)) fk_feed 1 nn_dt0 6 0
theorem fs_feed_0 {G : fw_K} {R : fw_KR} (hG : fw_cls st_feed R G) {a b c d e : Int} {σ : ab_SG} (h : sp_hasRoom [(2, 1, 0)] σ (fun rv σ2 => G 7 [some (2, 0, 0), some (0, 0, a), some (0, 0, b), some (0, 0, c), some (0, 0, d), some (0, 0, e)] (rv.toList ++ []) σ2)) : G 0 [some (2, 0, 0), some (0, 0, a), some (0, 0, b), some (0, 0, c), some (0, 0, d), some (0, 0, e)] [] σ := fw_on hG [7, 20, 28, 36, 45, 54] 200 h
theorem fs_feed_7 {G : fw_K} {R : fw_KR} (hG : fw_cls st_feed R G) {a1 a2 a3 a4 a5 b0 : Int} {σ : ab_SG} (h : (fw_c b0 ≠ 0 → sp_append [(2, 1, 0), (0, 0, a1)] σ (fun rv σ2 => G 20 [some (2, 0, 0), some (0, 0, a1), some (0, 0, a2), some (0, 0, a3), some (0, 0, a4), some (0, 0, a5)] (rv.toList ++ []) σ2)) ∧ (fw_c b0 = 0 → R (some (0, 0, (-1))) σ)) : G 7 [some (2, 0, 0), some (0, 0, a1), some (0, 0, a2), some (0, 0, a3), some (0, 0, a4), some (0, 0, a5)] [(0, 0, b0)] σ := fw_on hG [7, 20, 28, 36, 45, 54] 200 h
theorem fs_feed_20 {G : fw_K} {R : fw_KR} (hG : fw_cls st_feed R G) {a1 a2 a3 a4 a5 : Int} {σ : ab_SG} (h : sp_append [(2, 1, 0), (0, 0, a2)] σ (fun rv σ2 => G 28 [some (2, 0, 0), some (0, 0, a1), some (0, 0, a2), some (0, 0, a3), some (0, 0, a4), some (0, 0, a5)] (rv.toList ++ []) σ2)) : G 20 [some (2, 0, 0), some (0, 0, a1), some (0, 0, a2), some (0, 0, a3), some (0, 0, a4), some (0, 0, a5)] [] σ := fw_on hG [7, 20, 28, 36, 45, 54] 200 h
theorem fs_feed_28 {G : fw_K} {R : fw_KR} (hG : fw_cls st_feed R G) {a1 a2 a3 a4 a5 : Int} {σ : ab_SG} (h : sp_append [(2, 1, 0), (0, 0, a3)] σ (fun rv σ2 => G 36 [some (2, 0, 0), some (0, 0, a1), some (0, 0, a2), some (0, 0, a3), some (0, 0, a4), some (0, 0, a5)] (rv.toList ++ []) σ2)) : G 28 [some (2, 0, 0), some (0, 0, a1), some (0, 0, a2), some (0, 0, a3), some (0, 0, a4), some (0, 0, a5)] [] σ := fw_on hG [7, 20, 28, 36, 45, 54] 200 h
theorem fs_feed_36 {G : fw_K} {R : fw_KR} (hG : fw_cls st_feed R G) {a1 a2 a3 a4 a5 : Int} {σ : ab_SG} (h : sp_append [(2, 1, 0), (0, 0, a4)] σ (fun rv σ2 => G 45 [some (2, 0, 0), some (0, 0, a1), some (0, 0, a2), some (0, 0, a3), some (0, 0, a4), some (0, 0, a5)] (rv.toList ++ []) σ2)) : G 36 [some (2, 0, 0), some (0, 0, a1), some (0, 0, a2), some (0, 0, a3), some (0, 0, a4), some (0, 0, a5)] [] σ := fw_on hG [7, 20, 28, 36, 45, 54] 200 h
theorem fs_feed_45 {G : fw_K} {R : fw_KR} (hG : fw_cls st_feed R G) {a1 a2 a3 a4 a5 : Int} {σ : ab_SG} (h : sp_append [(2, 1, 0), (0, 0, a5)] σ (fun rv σ2 => G 54 [some (2, 0, 0), some (0, 0, a1), some (0, 0, a2), some (0, 0, a3), some (0, 0, a4), some (0, 0, a5)] (rv.toList ++ []) σ2)) : G 45 [some (2, 0, 0), some (0, 0, a1), some (0, 0, a2), some (0, 0, a3), some (0, 0, a4), some (0, 0, a5)] [] σ := fw_on hG [7, 20, 28, 36, 45, 54] 200 h
theorem fs_feed_54 {G : fw_K} {R : fw_KR} (hG : fw_cls st_feed R G) {a1 a2 a3 a4 a5 : Int} {σ : ab_SG} (h : R (some (0, 0, σ 1 1)) σ) : G 54 [some (2, 0, 0), some (0, 0, a1), some (0, 0, a2), some (0, 0, a3), some (0, 0, a4), some (0, 0, a5)] [] σ := fw_on hG [7, 20, 28, 36, 45, 54] 200 h
abbrev fk_end : List fw_CR := []
abbrev st_end : fw_K → fw_KR → fw_K := fw_st vwCl nn_sh nn_kd fw_kv fw_wc (nn_KI1.map (fun x => x.1)) (nn_KJ1.map (fun x => x.1)) (nn_PF1.map (fun x => x.1)) (nn_PS1.map (fun x => x.1)) fk_end 0 nn_dt3 2 1
theorem fs_end_0 {G : fw_K} {R : fw_KR} (hG : fw_cls st_end R G) {n : Int} {σ : ab_SG} (h : (fw_c n < 0 → (0 ≤ fw_c 0 ∧ fw_c 0 ≤ 1) ∧ R (some (0, 0, 0)) σ) ∧ (0 ≤ fw_c n → (fw_c n ≤ fw_c (σ 1 1) → (0 ≤ fw_c 1 ∧ fw_c 1 ≤ 1) ∧ R (some (0, 0, 1)) (ab_ups σ 1 1 (fw_c n))) ∧ (fw_c (σ 1 1) < fw_c n → (0 ≤ fw_c 0 ∧ fw_c 0 ≤ 1) ∧ R (some (0, 0, 0)) σ))) : G 0 [some (2, 0, 0), some (0, 0, n)] [] σ := fw_on hG [] 200 h
abbrev fk_count : List fw_CR := []
abbrev st_count : fw_K → fw_KR → fw_K := fw_st vwCl nn_sh nn_kd fw_kv fw_wc (nn_KI1.map (fun x => x.1)) (nn_KJ1.map (fun x => x.1)) (nn_PF1.map (fun x => x.1)) (nn_PS1.map (fun x => x.1)) fk_count 0 nn_dt187 2 0
theorem fs_count_0 {G : fw_K} {R : fw_KR} (hG : fw_cls st_count R G) {w : Int} {σ : ab_SG} (h : ((fw_c w < 0 → (R (some (0, 0, (-1))) σ)) ∧ (4 < fw_c w → (R (some (0, 0, (-1))) σ))) ∧ (fw_c w = 0 → (R (some (0, 0, σ 3 11)) σ)) ∧ (fw_c w = 0 + 1 → (R (some (0, 0, σ 3 12)) σ)) ∧ (fw_c w = 0 + 1 + 1 → (R (some (0, 0, σ 3 13)) σ)) ∧ (fw_c w = 0 + 1 + 1 + 1 → (R (some (0, 0, σ 3 14)) σ)) ∧ (fw_c w = 0 + 1 + 1 + 1 + 1 → (R (some (0, 0, σ 1 1)) σ)) ∧ True) : G 0 [some (2, 0, 0), some (0, 0, w)] [] σ := fw_on hG [] 200 h
abbrev fk_m_come : List fw_CR := []
abbrev st_m_come : fw_K → fw_KR → fw_K := fw_st vwCl nn_sh nn_kd fw_kv fw_wc (nn_KI20.map (fun x => x.1)) (nn_KJ20.map (fun x => x.1)) (nn_PF20.map (fun x => x.1)) (nn_PS20.map (fun x => x.1)) fk_m_come 0 nn_dt206 3 4
theorem fs_m_come_0 {G : fw_K} {R : fw_KR} (hG : fw_cls st_m_come R G) {w : Int} {σ : ab_SG} (h : G 3 [some (2, 93, 0), some (0, 0, w), some (0, 0, 24)] [] σ) : G 0 [some (2, 93, 0), some (0, 0, w), none] [] σ := fw_on hG [3] 200 h
theorem fs_m_come_3 {G : fw_K} {R : fw_KR} (hG : fw_cls st_m_come R G) {a1 a2 : Int} {σ : ab_SG} (h : (fw_c a2 < 0 → R none σ) ∧ (0 ≤ fw_c a2 → (0 ≤ fw_c (σ 93 2) ∧ fw_c (σ 93 2) < ((940 : Nat) : Int)) ∧ True ∧ (G 3 [some (2, 93, 0), some (0, 0, a1), some (0, 0, a2 + (-8))] [] (ab_ups (ab_ups σ 94 (fw_c (σ 93 2)).toNat (fw_c (fw_op 8 (fw_op 7 a1 a2) 255))) 93 2 (fw_c ((σ 93 2) + 1)))))) : G 3 [some (2, 93, 0), some (0, 0, a1), some (0, 0, a2)] [] σ := fw_on hG [3] 200 h
abbrev fk_m_feed : List fw_CR := [(106, 1, true, 11, 0, sp_m_come)]
abbrev st_m_feed : fw_K → fw_KR → fw_K := fw_st vwCl nn_sh nn_kd fw_kv fw_wc (nn_KI20.map (fun x => x.1)) (nn_KJ20.map (fun x => x.1)) (nn_PF20.map (fun x => x.1)) (nn_PS20.map (fun x => x.1)) fk_m_feed 1 nn_dt205 6 0
theorem fs_m_feed_0 {G : fw_K} {R : fw_KR} (hG : fw_cls st_m_feed R G) {a b c d e : Int} {σ : ab_SG} (h : (fw_c ((σ 93 2) + 20) ≤ fw_c 940 → sp_m_come [(2, 93, 0), (0, 0, a)] (ab_ups σ 93 0 (fw_c 0)) (fun rv σ2 => G 25 [some (2, 93, 0), some (0, 0, a), some (0, 0, b), some (0, 0, c), some (0, 0, d), some (0, 0, e)] (rv.toList ++ []) σ2)) ∧ (fw_c 940 < fw_c ((σ 93 2) + 20) → R (some (0, 0, (-1))) (ab_ups σ 93 0 (fw_c 0)))) : G 0 [some (2, 93, 0), some (0, 0, a), some (0, 0, b), some (0, 0, c), some (0, 0, d), some (0, 0, e)] [] σ := fw_on hG [25, 30, 35, 41, 47] 200 h
theorem fs_m_feed_25 {G : fw_K} {R : fw_KR} (hG : fw_cls st_m_feed R G) {a1 a2 a3 a4 a5 : Int} {σ : ab_SG} (h : sp_m_come [(2, 93, 0), (0, 0, a2)] σ (fun rv σ2 => G 30 [some (2, 93, 0), some (0, 0, a1), some (0, 0, a2), some (0, 0, a3), some (0, 0, a4), some (0, 0, a5)] (rv.toList ++ []) σ2)) : G 25 [some (2, 93, 0), some (0, 0, a1), some (0, 0, a2), some (0, 0, a3), some (0, 0, a4), some (0, 0, a5)] [] σ := fw_on hG [25, 30, 35, 41, 47] 200 h
theorem fs_m_feed_30 {G : fw_K} {R : fw_KR} (hG : fw_cls st_m_feed R G) {a1 a2 a3 a4 a5 : Int} {σ : ab_SG} (h : sp_m_come [(2, 93, 0), (0, 0, a3)] σ (fun rv σ2 => G 35 [some (2, 93, 0), some (0, 0, a1), some (0, 0, a2), some (0, 0, a3), some (0, 0, a4), some (0, 0, a5)] (rv.toList ++ []) σ2)) : G 30 [some (2, 93, 0), some (0, 0, a1), some (0, 0, a2), some (0, 0, a3), some (0, 0, a4), some (0, 0, a5)] [] σ := fw_on hG [25, 30, 35, 41, 47] 200 h
theorem fs_m_feed_35 {G : fw_K} {R : fw_KR} (hG : fw_cls st_m_feed R G) {a1 a2 a3 a4 a5 : Int} {σ : ab_SG} (h : sp_m_come [(2, 93, 0), (0, 0, a4)] σ (fun rv σ2 => G 41 [some (2, 93, 0), some (0, 0, a1), some (0, 0, a2), some (0, 0, a3), some (0, 0, a4), some (0, 0, a5)] (rv.toList ++ []) σ2)) : G 35 [some (2, 93, 0), some (0, 0, a1), some (0, 0, a2), some (0, 0, a3), some (0, 0, a4), some (0, 0, a5)] [] σ := fw_on hG [25, 30, 35, 41, 47] 200 h
theorem fs_m_feed_41 {G : fw_K} {R : fw_KR} (hG : fw_cls st_m_feed R G) {a1 a2 a3 a4 a5 : Int} {σ : ab_SG} (h : sp_m_come [(2, 93, 0), (0, 0, a5)] σ (fun rv σ2 => G 47 [some (2, 93, 0), some (0, 0, a1), some (0, 0, a2), some (0, 0, a3), some (0, 0, a4), some (0, 0, a5)] (rv.toList ++ []) σ2)) : G 41 [some (2, 93, 0), some (0, 0, a1), some (0, 0, a2), some (0, 0, a3), some (0, 0, a4), some (0, 0, a5)] [] σ := fw_on hG [25, 30, 35, 41, 47] 200 h
theorem fs_m_feed_47 {G : fw_K} {R : fw_KR} (hG : fw_cls st_m_feed R G) {a1 a2 a3 a4 a5 : Int} {σ : ab_SG} (h : R (some (0, 0, σ 93 2)) σ) : G 47 [some (2, 93, 0), some (0, 0, a1), some (0, 0, a2), some (0, 0, a3), some (0, 0, a4), some (0, 0, a5)] [] σ := fw_on hG [25, 30, 35, 41, 47] 200 h
abbrev fk_m_end : List fw_CR := []
abbrev st_m_end : fw_K → fw_KR → fw_K := fw_st vwCl nn_sh nn_kd fw_kv fw_wc (nn_KI20.map (fun x => x.1)) (nn_KJ20.map (fun x => x.1)) (nn_PF20.map (fun x => x.1)) (nn_PS20.map (fun x => x.1)) fk_m_end 0 nn_dt207 2 1
theorem fs_m_end_0 {G : fw_K} {R : fw_KR} (hG : fw_cls st_m_end R G) {n : Int} {σ : ab_SG} (h : (fw_c n < 0 → (0 ≤ fw_c 0 ∧ fw_c 0 ≤ 1) ∧ R (some (0, 0, 0)) (ab_ups σ 93 0 (fw_c 0))) ∧ (0 ≤ fw_c n → (fw_c n ≤ fw_c (σ 93 2) → (0 ≤ fw_c 1 ∧ fw_c 1 ≤ 1) ∧ R (some (0, 0, 1)) (ab_ups (ab_ups σ 93 0 (fw_c 0)) 93 2 (fw_c n))) ∧ (fw_c (σ 93 2) < fw_c n → (0 ≤ fw_c 0 ∧ fw_c 0 ≤ 1) ∧ R (some (0, 0, 0)) (ab_ups σ 93 0 (fw_c 0))))) : G 0 [some (2, 93, 0), some (0, 0, n)] [] σ := fw_on hG [] 200 h
abbrev fk_m_tunes : List fw_CR := []
abbrev st_m_tunes : fw_K → fw_KR → fw_K := fw_st vwCl nn_sh nn_kd fw_kv fw_wc (nn_KI20.map (fun x => x.1)) (nn_KJ20.map (fun x => x.1)) (nn_PF20.map (fun x => x.1)) (nn_PS20.map (fun x => x.1)) fk_m_tunes 0 nn_dt240 1 0
theorem fs_m_tunes_0 {G : fw_K} {R : fw_KR} (hG : fw_cls st_m_tunes R G) {σ : ab_SG} (h : (0 ≤ fw_c 0 ∧ fw_c 0 < ((474 : Nat) : Int)) ∧ (R (some (0, 0, σ 95 (fw_c 0).toNat)) σ)) : G 0 [some (2, 93, 0)] [] σ := fw_on hG [] 200 h
abbrev fk_m_count : List fw_CR := [(188, 0, true, 11, 0, sp_m_lay), (261, 0, true, 11, 0, sp_m_tunes)]
abbrev st_m_count : fw_K → fw_KR → fw_K := fw_st vwCl nn_sh nn_kd fw_kv fw_wc (nn_KI20.map (fun x => x.1)) (nn_KJ20.map (fun x => x.1)) (nn_PF20.map (fun x => x.1)) (nn_PS20.map (fun x => x.1)) fk_m_count 1 nn_dt354 2 0
theorem fs_m_count_0 {G : fw_K} {R : fw_KR} (hG : fw_cls st_m_count R G) {w : Int} {σ : ab_SG} (h : sp_m_lay [(2, 93, 0)] (ab_ups σ 93 0 (fw_c 0)) (fun rv σ2 => G 9 [some (2, 93, 0), some (0, 0, w)] (rv.toList ++ []) σ2)) : G 0 [some (2, 93, 0), some (0, 0, w)] [] σ := fw_on hG [9, 48] 200 h
theorem fs_m_count_9 {G : fw_K} {R : fw_KR} (hG : fw_cls st_m_count R G) {a1 : Int} {σ : ab_SG} (h : ((fw_c a1 < 0 → (R (some (0, 0, (-1))) σ)) ∧ (4 < fw_c a1 → (R (some (0, 0, (-1))) σ))) ∧ (fw_c a1 = 0 → (sp_m_tunes [(2, 93, 0)] σ (fun rv σ2 => G 48 [some (2, 93, 0), some (0, 0, a1)] (rv.toList ++ []) σ2))) ∧ (fw_c a1 = 0 + 1 → ((0 ≤ fw_c 1 ∧ fw_c 1 < ((474 : Nat) : Int)) ∧ (R (some (0, 0, σ 95 (fw_c 1).toNat)) σ))) ∧ (fw_c a1 = 0 + 1 + 1 → ((0 ≤ fw_c 2 ∧ fw_c 2 < ((474 : Nat) : Int)) ∧ (R (some (0, 0, σ 95 (fw_c 2).toNat)) σ))) ∧ (fw_c a1 = 0 + 1 + 1 + 1 → ((0 ≤ fw_c 3 ∧ fw_c 3 < ((474 : Nat) : Int)) ∧ (R (some (0, 0, σ 95 (fw_c 3).toNat)) σ))) ∧ (fw_c a1 = 0 + 1 + 1 + 1 + 1 → (R (some (0, 0, σ 93 2)) σ)) ∧ True) : G 9 [some (2, 93, 0), some (0, 0, a1)] [] σ := fw_on hG [9, 48] 200 h
theorem fs_m_count_48 {G : fw_K} {R : fw_KR} (hG : fw_cls st_m_count R G) {a1 b0 : Int} {σ : ab_SG} (h : R (some (0, 0, b0)) σ) : G 48 [some (2, 93, 0), some (0, 0, a1)] [(0, 0, b0)] σ := fw_on hG [9, 48] 200 h
section
variable {l : Launch} {cy : Nat → ClassId} {ad wr cr : Nat → Nat} {D : va_G}
theorem fm_hasRoom (hinj : nn_inj ad) : fw_H l cy ad wr cr D 1 0 sp_hasRoom := fw_mk hinj (⟨"NameNotes$Tape", "hasRoom", "()Z"⟩, prog_10_method_2_code, 1, (Option.some Jvm.ClassFile.FieldType.boolean), 0, true, 1) rfl rfl nn_KI2_ok nn_KJ2_ok nn_PF2_ok nn_PS2_ok (by decide +kernel) rfl rfl (fun _ h => absurd h List.not_mem_nil) (fun as σ K h => by
  obtain ⟨rfl, hb, h⟩ := h
  have e1 : fw_c 940 = 940 := fw_c_id (by decide) (by decide)
  have e2 : fw_c (σ 1 1 + 20) = σ 1 1 + 20 := fw_c_id (by omega) (by omega)
  refine ⟨rfl, fun G hG => fs_hasRoom_0 hG ?_⟩
  rw [e1, e2]
  refine ⟨fun q => ⟨fw_01, ?_⟩, fun q => ⟨fw_11, ?_⟩⟩
  · rw [fw_bo_f (by omega)] at h; exact h
  · rw [fw_bo_t q] at h; exact h)
theorem fm_append (hinj : nn_inj ad) : fw_H l cy ad wr cr D 2 0 sp_append := fw_mk hinj (⟨"NameNotes$Tape", "append", "(I)V"⟩, prog_10_method_3_code, 3, (Option.none : Option Jvm.ClassFile.FieldType), 1, true, 4) rfl rfl nn_KI2_ok nn_KJ2_ok nn_PF2_ok nn_PS2_ok (by decide +kernel) rfl rfl (fun _ h => absurd h List.not_mem_nil) (fun as σ K h => by
  obtain ⟨v, n, rfl, hn, hn2, h⟩ := h
  refine ⟨rfl, fun G hG => fs_append_0 hG ?_⟩
  have key : ∀ (f k : Nat) (σ1 : ab_SG), k + f = 4 → ap_is σ σ1 n k (ap_b v) → G 3 [some (2, 1, 0), some (0, 0, v), some (0, 0, 24 - 8 * (k : Int))] [] σ1 := by
    intro f
    induction f with
    | zero =>
      intro k σ1 hk q
      have ea : fw_c (24 - 8 * (k : Int)) = 24 - 8 * (k : Int) := fw_c_id (by omega) (by omega)
      have e4 : k = 4 := by omega
      refine fs_append_3 hG ?_
      rw [ea]
      refine ⟨fun _ => h σ1 (by rw [e4] at q; exact q), fun z => absurd z (by omega)⟩
    | succ f ih =>
      intro k σ1 hk q
      obtain ⟨q1, q2, q3, q4⟩ := q
      have ea : fw_c (24 - 8 * (k : Int)) = 24 - 8 * (k : Int) := fw_c_id (by omega) (by omega)
      have en : fw_c ((n + k : Nat) : Int) = ((n + k : Nat) : Int) := fw_c_id (by omega) (by omega)
      have e9 : fw_c ((940 : Nat) : Int) = 940 := fw_c_id (by decide) (by decide)
      have e1 : fw_c (((n + k : Nat) : Int) + 1) = ((n + (k + 1) : Nat) : Int) := by rw [fw_c_id (by omega) (by omega)]; omega
      refine fs_append_3 hG ?_
      rw [ea, q2, en, e9, e1, Int.toNat_natCast]
      refine ⟨fun z => absurd z (by omega), fun _ => ⟨fun z => absurd z (by omega), fun _ => ⟨fun z => absurd z (by omega), fun _ => ⟨⟨Int.natCast_nonneg _, by omega⟩, trivial, fs_append_49 hG ?_⟩⟩⟩⟩
      rw [show 24 - 8 * (k : Int) + (-8) = 24 - 8 * ((k + 1 : Nat) : Int) by omega]
      refine ih (k + 1) _ (by omega) ⟨fw_okM_ups (fw_okM_upa q1 (by decide)) (by decide), ab_ups_eq, fun j hj => ?_, fun i hi => ?_⟩
      · rw [ab_ups_ne (fun z => absurd z.1 (by decide)), ab_ups_ne (fun z => by omega)]; exact q3 j hj
      · rw [ab_ups_ne (fun z => absurd z.1 (by decide))]
        by_cases c : i = k
        · rw [c, ab_ups_eq]; rfl
        · rw [ab_ups_ne (fun z => by omega)]; exact q4 i (by omega)
  exact key 4 0 σ rfl ⟨fw_okM_refl _ _, hn, fun _ _ => rfl, fun i hi => absurd hi (Nat.not_lt_zero _)⟩)
theorem fm_m_come (hinj : nn_inj ad) : fw_H l cy ad wr cr D 206 0 sp_m_come := fw_mk hinj (⟨"NameNotesModel", "come", "(I)V"⟩, prog_14_method_4_code, 3, (Option.none : Option Jvm.ClassFile.FieldType), 1, true, 4) rfl rfl nn_KI20_ok nn_KJ20_ok nn_PF20_ok nn_PS20_ok (by decide +kernel) rfl rfl (fun _ h => absurd h List.not_mem_nil) (fun as σ K h => by
  obtain ⟨v, n, rfl, hn, hn2, h⟩ := h
  refine ⟨rfl, fun G hG => fs_m_come_0 hG ?_⟩
  have key : ∀ (f k : Nat) (σ1 : ab_SG), k + f = 4 → cm_is σ σ1 n k (ap_m v) → G 3 [some (2, 93, 0), some (0, 0, v), some (0, 0, 24 - 8 * (k : Int))] [] σ1 := by
    intro f
    induction f with
    | zero =>
      intro k σ1 hk q
      have ea : fw_c (24 - 8 * (k : Int)) = 24 - 8 * (k : Int) := fw_c_id (by omega) (by omega)
      have e4 : k = 4 := by omega
      refine fs_m_come_3 hG ?_
      rw [ea]
      refine ⟨fun _ => h σ1 (by rw [e4] at q; exact q), fun z => absurd z (by omega)⟩
    | succ f ih =>
      intro k σ1 hk q
      obtain ⟨q1, q2, q3, q4⟩ := q
      have ea : fw_c (24 - 8 * (k : Int)) = 24 - 8 * (k : Int) := fw_c_id (by omega) (by omega)
      have en : fw_c ((n + k : Nat) : Int) = ((n + k : Nat) : Int) := fw_c_id (by omega) (by omega)
      have e1 : fw_c (((n + k : Nat) : Int) + 1) = ((n + (k + 1) : Nat) : Int) := by rw [fw_c_id (by omega) (by omega)]; omega
      refine fs_m_come_3 hG ?_
      rw [ea, q2, en, e1, Int.toNat_natCast]
      refine ⟨fun z => absurd z (by omega), fun _ => ⟨⟨Int.natCast_nonneg _, by omega⟩, trivial, ?_⟩⟩
      rw [show 24 - 8 * (k : Int) + (-8) = 24 - 8 * ((k + 1 : Nat) : Int) by omega]
      refine ih (k + 1) _ (by omega) ⟨fw_okM_ups (fw_okM_upa q1 (by decide)) (by decide), ab_ups_eq, fun j hj => ?_, fun i hi => ?_⟩
      · rw [ab_ups_ne (fun z => absurd z.1 (by decide)), ab_ups_ne (fun z => by omega)]; exact q3 j hj
      · rw [ab_ups_ne (fun z => absurd z.1 (by decide))]
        by_cases c : i = k
        · rw [c, ab_ups_eq]; rfl
        · rw [ab_ups_ne (fun z => by omega)]; exact q4 i (by omega)
  exact key 4 0 σ rfl ⟨fw_okM_refl _ _, hn, fun _ _ => rfl, fun i hi => absurd hi (Nat.not_lt_zero _)⟩)
theorem fm_feed (hinj : nn_inj ad) : fw_H l cy ad wr cr D 0 1 sp_feed := fw_mk hinj (⟨"NameNotes", "feed", "(IIIII)I"⟩, prog_1_method_2_code, 6, (Option.some Jvm.ClassFile.FieldType.int), 5, true, 0) rfl rfl nn_KI1_ok nn_KJ1_ok nn_PF1_ok nn_PS1_ok (by decide +kernel) rfl rfl (List.forall_mem_cons.mpr ⟨fw_row nn_PM1_ok (x := 108) (k := 0) (mn := 1) (np := 0) (ob := true) (ci := 8) (⟨"NameNotes$Tape", "hasRoom", "()Z"⟩, prog_10_method_2_code, 1, (Option.some Jvm.ClassFile.FieldType.boolean), 0, true, 1) rfl (by decide +kernel) rfl rfl (by decide) (fun _ => ⟨_, _, rfl⟩) (fm_hasRoom hinj), (List.forall_mem_cons.mpr ⟨fw_row nn_PM1_ok (x := 112) (k := 0) (mn := 2) (np := 1) (ob := true) (ci := 8) (⟨"NameNotes$Tape", "append", "(I)V"⟩, prog_10_method_3_code, 3, (Option.none : Option Jvm.ClassFile.FieldType), 1, true, 4) rfl (by decide +kernel) rfl rfl (by decide) (fun _ => ⟨_, _, rfl⟩) (fm_append hinj), (fun _ h => absurd h List.not_mem_nil)⟩)⟩) (fun as σ K h => by
  obtain ⟨a, b, c, d, e, n, rfl, hn, hn2, h0, h1⟩ := h
  refine ⟨rfl, fun G hG => fs_feed_0 hG ⟨rfl, by omega, fs_feed_7 hG ⟨fun q => ?_, fun q => ?_⟩⟩⟩
  · have q := fw_bo_ne q
    have hn3 : n ≤ 920 := by omega
    have h1 := h1 hn3
    refine ⟨a, n, rfl, hn, by omega, fun σ1 F1 => fs_feed_20 hG ⟨b, n + 4, rfl, F1.2.1, by omega, fun σ2 F2 => fs_feed_28 hG ⟨c, n + 8, rfl, F2.2.1, by omega, fun σ3 F3 => fs_feed_36 hG ⟨d, n + 12, rfl, F3.2.1, by omega, fun σ4 F4 => fs_feed_45 hG ⟨e, n + 16, rfl, F4.2.1, by omega, fun σ5 F5 => fs_feed_54 hG ?_⟩⟩⟩⟩⟩
    have e5 : σ5 1 1 = (n : Int) + 20 := by rw [F5.2.1]; omega
    rw [e5]
    have g1 : ap_is σ σ1 n 4 (fd_w ap_b a b c d e) := ⟨F1.1, F1.2.1, F1.2.2.1, fun i hi => by rw [fd_ne ap_b a b c d e 0 (by decide) i hi, if_neg (by omega)]; exact F1.2.2.2 i hi⟩
    have g2 := ap_add g1 F2 (fd_ne ap_b a b c d e 1 (by decide))
    have g3 := ap_add g2 F3 (fd_ne ap_b a b c d e 2 (by decide))
    have g4 := ap_add g3 F4 (fd_ne ap_b a b c d e 3 (by decide))
    exact h1 σ5 (ap_add g4 F5 (fd_ne ap_b a b c d e 4 (by decide)))
  · have q := fw_bo_eq q
    exact h0 (by omega))
theorem fm_m_feed (hinj : nn_inj ad) : fw_H l cy ad wr cr D 205 1 sp_m_feed := fw_mk hinj (⟨"NameNotesModel", "feed", "(IIIII)I"⟩, prog_14_method_5_code, 6, (Option.some Jvm.ClassFile.FieldType.int), 5, true, 0) rfl rfl nn_KI20_ok nn_KJ20_ok nn_PF20_ok nn_PS20_ok (by decide +kernel) rfl rfl (List.forall_mem_cons.mpr ⟨fw_row nn_PM20_ok (x := 106) (k := 0) (mn := 206) (np := 1) (ob := true) (ci := 11) (⟨"NameNotesModel", "come", "(I)V"⟩, prog_14_method_4_code, 3, (Option.none : Option Jvm.ClassFile.FieldType), 1, true, 4) rfl (by decide +kernel) rfl rfl (by decide) (fun _ => ⟨_, _, rfl⟩) (fm_m_come hinj), (fun _ h => absurd h List.not_mem_nil)⟩) (fun as σ K h => by
  obtain ⟨a, b, c, d, e, n, rfl, hn, hn2, h0, h1⟩ := h
  have e1 : fw_c 940 = 940 := fw_c_id (by decide) (by decide)
  have e2 : fw_c ((n : Int) + 20) = (n : Int) + 20 := fw_c_id (by omega) (by omega)
  refine ⟨rfl, fun G hG => fs_m_feed_0 hG ?_⟩
  rw [hn, e1, e2, fw_c0]
  refine ⟨fun q => ?_, fun q => h0 (by omega)⟩
  have h1 := h1 (by omega)
  refine ⟨a, n, rfl, (ab_ups_ne (by decide)).trans hn, by omega, fun σ1 F1 => fs_m_feed_25 hG ⟨b, n + 4, rfl, F1.2.1, by omega, fun σ2 F2 => fs_m_feed_30 hG ⟨c, n + 8, rfl, F2.2.1, by omega, fun σ3 F3 => fs_m_feed_35 hG ⟨d, n + 12, rfl, F3.2.1, by omega, fun σ4 F4 => fs_m_feed_41 hG ⟨e, n + 16, rfl, F4.2.1, by omega, fun σ5 F5 => fs_m_feed_47 hG ?_⟩⟩⟩⟩⟩
  have e5 : σ5 93 2 = (n : Int) + 20 := by rw [F5.2.1]; omega
  rw [e5]
  have g1 : cm_is σ σ1 n 4 (fd_w ap_m a b c d e) := ⟨fw_okM_tr (fw_okM_ups (fw_okM_refl _ _) (by decide)) F1.1 (fun _ h => h), F1.2.1, fun j hj => (F1.2.2.1 j hj).trans (ab_ups_ne (fun z => absurd z.1 (by decide))), fun i hi => by rw [fd_ne ap_m a b c d e 0 (by decide) i hi, if_neg (by omega)]; exact F1.2.2.2 i hi⟩
  have g2 := cm_add g1 F2 (fd_ne ap_m a b c d e 1 (by decide))
  have g3 := cm_add g2 F3 (fd_ne ap_m a b c d e 2 (by decide))
  have g4 := cm_add g3 F4 (fd_ne ap_m a b c d e 3 (by decide))
  exact h1 σ5 (cm_add g4 F5 (fd_ne ap_m a b c d e 4 (by decide))))
theorem fm_end (hinj : nn_inj ad) : fw_H l cy ad wr cr D 3 0 sp_end := fw_mk hinj (⟨"NameNotes", "end", "(I)Z"⟩, prog_1_method_3_code, 2, (Option.some Jvm.ClassFile.FieldType.boolean), 1, true, 1) rfl rfl nn_KI1_ok nn_KJ1_ok nn_PF1_ok nn_PS1_ok (by decide +kernel) rfl rfl (fun _ h => absurd h List.not_mem_nil) (fun as σ K h => by
  obtain ⟨n, rfl, hb, h1, h0⟩ := h
  have e1 : fw_c (σ 1 1) = σ 1 1 := fw_c_id (by omega) (by omega)
  refine ⟨rfl, fun G hG => fs_end_0 hG ?_⟩
  rw [e1]
  exact ⟨fun q => ⟨fw_01, h0 (by omega)⟩, fun q => ⟨fun q2 => ⟨fw_11, h1 ⟨q, q2⟩⟩, fun q2 => ⟨fw_01, h0 (by omega)⟩⟩⟩)
theorem fm_m_end (hinj : nn_inj ad) : fw_H l cy ad wr cr D 207 0 sp_m_end := fw_mk hinj (⟨"NameNotesModel", "end", "(I)Z"⟩, prog_14_method_6_code, 2, (Option.some Jvm.ClassFile.FieldType.boolean), 1, true, 1) rfl rfl nn_KI20_ok nn_KJ20_ok nn_PF20_ok nn_PS20_ok (by decide +kernel) rfl rfl (fun _ h => absurd h List.not_mem_nil) (fun as σ K h => by
  obtain ⟨n, rfl, hb, h1, h0⟩ := h
  have e1 : fw_c (σ 93 2) = σ 93 2 := fw_c_id (by omega) (by omega)
  refine ⟨rfl, fun G hG => fs_m_end_0 hG ?_⟩
  rw [e1, fw_c0]
  exact ⟨fun q => ⟨by decide, h0 (by omega)⟩, fun q => ⟨fun q2 => ⟨fw_11, h1 ⟨q, q2⟩⟩, fun q2 => ⟨by decide, h0 (by omega)⟩⟩⟩)
theorem fm_count (hinj : nn_inj ad) : fw_H l cy ad wr cr D 187 0 sp_count := fw_mk hinj (⟨"NameNotes", "count", "(I)I"⟩, prog_1_method_59_code, 2, (Option.some Jvm.ClassFile.FieldType.int), 1, true, 0) rfl rfl nn_KI1_ok nn_KJ1_ok nn_PF1_ok nn_PS1_ok (by decide +kernel) rfl rfl (fun _ h => absurd h List.not_mem_nil) (fun as σ K h => by
  obtain ⟨w, rfl, h⟩ := h
  refine ⟨rfl, fun G hG => fs_count_0 hG ?_⟩
  unfold cq_v at h
  refine ⟨⟨fun q => ?_, fun q => ?_⟩, fun q => ?_, fun q => ?_, fun q => ?_, fun q => ?_, fun q => ?_, trivial⟩
  · rw [if_neg (by omega), if_neg (by omega), if_neg (by omega), if_neg (by omega), if_neg (by omega)] at h; exact h
  · rw [if_neg (by omega), if_neg (by omega), if_neg (by omega), if_neg (by omega), if_neg (by omega)] at h; exact h
  · rw [if_pos (by omega)] at h; exact h
  · rw [if_neg (by omega), if_pos (by omega)] at h; exact h
  · rw [if_neg (by omega), if_neg (by omega), if_pos (by omega)] at h; exact h
  · rw [if_neg (by omega), if_neg (by omega), if_neg (by omega), if_pos (by omega)] at h; exact h
  · rw [if_neg (by omega), if_neg (by omega), if_neg (by omega), if_neg (by omega), if_pos (by omega)] at h; exact h)
theorem fm_m_tunes (hinj : nn_inj ad) : fw_H l cy ad wr cr D 240 0 sp_m_tunes := fw_mk hinj (⟨"NameNotesModel", "tunes", "()I"⟩, prog_14_method_41_code, 1, (Option.some Jvm.ClassFile.FieldType.int), 0, true, 0) rfl rfl nn_KI20_ok nn_KJ20_ok nn_PF20_ok nn_PS20_ok (by decide +kernel) rfl rfl (fun _ h => absurd h List.not_mem_nil) (fun as σ K h => by
  obtain ⟨rfl, h⟩ := h
  have t0 : (fw_c 0).toNat = 0 := by rw [fw_c0]; rfl
  refine ⟨rfl, fun G hG => fs_m_tunes_0 hG ?_⟩
  rw [t0, fw_c0]
  exact ⟨by decide, h⟩)
theorem fm_m_count (hinj : nn_inj ad) : fw_H l cy ad wr cr D 354 1 sp_m_count := fw_mk hinj (⟨"NameNotesModel", "count", "(I)I"⟩, prog_14_method_152_code, 2, (Option.some Jvm.ClassFile.FieldType.int), 1, true, 0) rfl rfl nn_KI20_ok nn_KJ20_ok nn_PF20_ok nn_PS20_ok (by decide +kernel) rfl rfl (List.forall_mem_cons.mpr ⟨fw_row nn_PM20_ok (x := 188) (k := 0) (mn := 210) (np := 0) (ob := true) (ci := 11) (⟨"NameNotesModel", "lay", "()V"⟩, prog_14_method_28_code, 1, (Option.none : Option Jvm.ClassFile.FieldType), 0, true, 4) rfl (by decide +kernel) rfl rfl (by decide) (fun _ => ⟨_, _, rfl⟩) (fm_m_lay hinj), (List.forall_mem_cons.mpr ⟨fw_row nn_PM20_ok (x := 261) (k := 0) (mn := 240) (np := 0) (ob := true) (ci := 11) (⟨"NameNotesModel", "tunes", "()I"⟩, prog_14_method_41_code, 1, (Option.some Jvm.ClassFile.FieldType.int), 0, true, 0) rfl (by decide +kernel) rfl rfl (by decide) (fun _ => ⟨_, _, rfl⟩) (fm_m_tunes hinj), (fun _ h => absurd h List.not_mem_nil)⟩)⟩) (fun as σ K h => by
  obtain ⟨w, rfl, ho, h⟩ := h
  have t1 : (fw_c 1).toNat = 1 := by rw [fw_c1]; rfl
  have t2 : (fw_c 2).toNat = 2 := by rw [fw_c_id (by decide) (by decide)]; rfl
  have t3 : (fw_c 3).toNat = 3 := by rw [fw_c_id (by decide) (by decide)]; rfl
  have u1 : 0 ≤ fw_c 1 ∧ fw_c 1 < ((474 : Nat) : Int) := by rw [fw_c1]; decide
  have u2 : 0 ≤ fw_c 2 ∧ fw_c 2 < ((474 : Nat) : Int) := by rw [fw_c_id (by decide) (by decide)]; decide
  have u3 : 0 ≤ fw_c 3 ∧ fw_c 3 < ((474 : Nat) : Int) := by rw [fw_c_id (by decide) (by decide)]; decide
  refine ⟨rfl, fun G hG => fs_m_count_0 hG ⟨rfl, ho, fun σ1 M1 L1 => fs_m_count_9 hG ?_⟩⟩
  have h := h σ1 (fw_okM_tr (fw_okM_ups (fw_okM_refl _ _) (by decide)) M1 (by decide)) L1
  rw [t1, t2, t3]
  unfold cq_v at h
  refine ⟨⟨fun q => ?_, fun q => ?_⟩, fun q => ⟨rfl, fs_m_count_48 hG ?_⟩, fun q => ⟨u1, ?_⟩, fun q => ⟨u2, ?_⟩, fun q => ⟨u3, ?_⟩, fun q => ?_, trivial⟩
  · rw [if_neg (by omega), if_neg (by omega), if_neg (by omega), if_neg (by omega), if_neg (by omega)] at h; exact h
  · rw [if_neg (by omega), if_neg (by omega), if_neg (by omega), if_neg (by omega), if_neg (by omega)] at h; exact h
  · rw [if_pos (by omega)] at h; exact h
  · rw [if_neg (by omega), if_pos (by omega)] at h; exact h
  · rw [if_neg (by omega), if_neg (by omega), if_pos (by omega)] at h; exact h
  · rw [if_neg (by omega), if_neg (by omega), if_neg (by omega), if_pos (by omega)] at h; exact h
  · rw [if_neg (by omega), if_neg (by omega), if_neg (by omega), if_neg (by omega), if_pos (by omega)] at h; exact h)
end
end
