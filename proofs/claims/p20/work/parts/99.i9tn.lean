/-! the reference's lines: a tune -/
def rn_n (n m : Int) (σ A : ab_SG) : Prop := σ 96 0 = n ∧ σ 96 1 = m ∧ σ 96 2 = A 49 13 ∧ rn_k σ A 0 57 n ∧ rn_k σ A 9 58 m ∧ rn_k σ A 15 59 (A 49 13)
def rs_n (n m : Int) (σ A : ab_SG) : Prop := σ 96 3 = A 49 14 ∧ (∀ x : Nat, (x : Int) < n → σ 96 (5 + 19 * x) = A 52 x ∧ ∀ i : Nat, (i : Int) < A 52 x → σ 96 (6 + 19 * x + 2 * i) = A 50 (x * 9 + i) ∧ σ 96 (7 + 19 * x + 2 * i) = A 51 (x * 9 + i)) ∧
  (∀ c : Nat, (c : Int) < m → σ 96 (176 + c) = A 54 c) ∧ (∀ j : Nat, j < 45 → σ 96 (182 + j) = A 55 j) ∧ (∀ j : Nat, (j : Int) < A 49 13 → σ 96 (227 + j) = A 56 j) ∧ (∀ j : Nat, j < 5 → A 49 13 ≤ (j : Int) → A 56 j = 5) ∧
  (∀ j : Nat, j < 5 → σ 103 j = A 64 j) ∧ σ 93 25 = A 48 3 ∧ σ 93 26 = A 48 4
theorem rn_n_of {σ A : ab_SG} (h : rn_is σ A) : rn_n (A 49 11) (A 49 12) σ A := ⟨h.1.1, h.2.1.1, h.2.2.1.1, h.2.2.2.1, h.2.2.2.2.1, h.2.2.2.2.2⟩
theorem rn_n_is {σ A : ab_SG} (hi : RI A) (h : rn_n (A 49 11) (A 49 12) σ A) : rn_is σ A := ⟨⟨h.1, hi.1⟩, ⟨h.2.1, hi.2.1⟩, ⟨h.2.2.1, hi.2.2.1⟩, h.2.2.2.1, h.2.2.2.2.1, h.2.2.2.2.2⟩
theorem rs_n_of {σ A : ab_SG} (h : rs_is σ A) : rs_n (A 49 11) (A 49 12) σ A := h
/-- numbers and a name set that no row told speaks of -/
theorem rm_cong {n m : Int} {σ σ' A A' : ab_SG} {u v w : Nat} (hn : 0 ≤ n ∧ n ≤ 9) (hm : 0 ≤ m ∧ m ≤ 6) (hp : 0 ≤ A 49 13 ∧ A 49 13 ≤ 5) (h52 : ∀ j : Nat, j < 9 → 0 ≤ A 52 j ∧ A 52 j ≤ 9) (hu : 5 + 19 * n ≤ (u : Int)) (hv : v ≤ 182) (huv : (v : Int) ≤ 176 ∨ 176 + m ≤ (u : Int)) (hw : (n ≤ (w : Int) ∨ 9 ≤ w) ∧ (w < 9 ∨ 9 + m ≤ (w : Int)) ∧ w < 15)
    (s96 : ∀ j : Nat, (j < u ∨ v ≤ j) → σ' 96 j = σ 96 j) (s100 : ∀ j : Nat, j ≠ w → σ' 100 j = σ 100 j) (s103 : σ' 103 = σ 103) (s25 : σ' 93 25 = σ 93 25) (s26 : σ' 93 26 = σ 93 26)
    (a : ∀ k j : Nat, (k = 49 → j ≠ 11 ∧ j ≠ 12) → (k = 50 ∨ k = 51 → (j : Int) < 9 * n) → (k = 52 ∨ k = 57 → (j : Int) < n) → (k = 54 ∨ k = 58 → (j : Int) < m) → A' k j = A k j)
    (h : rn_n n m σ A ∧ rs_n n m σ A) : rn_n n m σ' A' ∧ rs_n n m σ' A' := by
  obtain ⟨⟨c0, c1, c2, r57, r58, r59⟩, r1, r2, r3, r4, r5, r6, r7, r8, r9⟩ := h
  have a13 : A' 49 13 = A 49 13 := a 49 13 (fun _ => by decide) (fun q => by omega) (fun q => by omega) (fun q => by omega)
  have a14 : A' 49 14 = A 49 14 := a 49 14 (fun _ => by decide) (fun q => by omega) (fun q => by omega) (fun q => by omega)
  have ak : ∀ k j : Nat, k ≠ 49 → k ≠ 50 → k ≠ 51 → k ≠ 52 → k ≠ 54 → k ≠ 57 → k ≠ 58 → A' k j = A k j := fun k j q1 q2 q3 q4 q5 q6 q7 => a k j (fun q => absurd q q1) (fun q => by omega) (fun q => by omega) (fun q => by omega)
  refine ⟨⟨(s96 0 (Or.inl (by omega))).trans c0, (s96 1 (Or.inl (by omega))).trans c1, ((s96 2 (Or.inl (by omega))).trans c2).trans a13.symm, fun j hj => ?_, fun j hj => ?_, fun j hj => ?_⟩, ?_, fun x hx => ?_, fun c hc => ?_, fun j hj => ?_, fun j hj => ?_, fun j hj hj2 => ?_, fun j hj => ?_, ?_, ?_⟩
  · rw [a 57 j (fun q => absurd q (by decide)) (fun q => by omega) (fun _ => hj) (fun q => by omega), s100 _ (by omega)]; exact r57 j hj
  · rw [a 58 j (fun q => absurd q (by decide)) (fun q => by omega) (fun q => by omega) (fun _ => hj), s100 _ (by omega)]; exact r58 j hj
  · rw [a13] at hj
    rw [ak 59 j (by decide) (by decide) (by decide) (by decide) (by decide) (by decide) (by decide), s100 _ (by omega)]; exact r59 j hj
  · rw [a14, s96 3 (Or.inl (by omega))]; exact r1
  · have h52x := h52 x (by omega)
    have e52 : A' 52 x = A 52 x := a 52 x (fun q => absurd q (by decide)) (fun q => by omega) (fun _ => hx) (fun q => by omega)
    rw [e52, s96 _ (Or.inl (by omega))]
    refine ⟨(r2 x hx).1, fun i hi => ?_⟩
    rw [a 50 (x * 9 + i) (fun q => absurd q (by decide)) (fun _ => by omega) (fun q => by omega) (fun q => by omega), a 51 (x * 9 + i) (fun q => absurd q (by decide)) (fun _ => by omega) (fun q => by omega) (fun q => by omega), s96 _ (Or.inl (by omega)), s96 _ (Or.inl (by omega))]
    exact (r2 x hx).2 i hi
  · rw [a 54 c (fun q => absurd q (by decide)) (fun q => by omega) (fun q => by omega) (fun _ => hc), s96 _ (by omega)]; exact r3 c hc
  · rw [ak 55 j (by decide) (by decide) (by decide) (by decide) (by decide) (by decide) (by decide), s96 _ (by omega)]; exact r4 j hj
  · rw [a13] at hj
    rw [ak 56 j (by decide) (by decide) (by decide) (by decide) (by decide) (by decide) (by decide), s96 _ (by omega)]; exact r5 j hj
  · rw [a13] at hj2
    rw [ak 56 j (by decide) (by decide) (by decide) (by decide) (by decide) (by decide) (by decide)]; exact r6 j hj hj2
  · rw [ak 64 j (by decide) (by decide) (by decide) (by decide) (by decide) (by decide) (by decide), s103]; exact r7 j hj
  · rw [ak 48 3 (by decide) (by decide) (by decide) (by decide) (by decide) (by decide) (by decide), s25]; exact r8
  · rw [ak 48 4 (by decide) (by decide) (by decide) (by decide) (by decide) (by decide) (by decide), s26]; exact r9
/-- the reference is at a tune's notes -/
def RT (σ A : ab_SG) (x : Nat) (e : tk_E) (p : Nat) : Prop := mt_is σ e p ∧ RI A ∧ A 49 11 = (x : Int) + 1 ∧ (rn_n (x : Int) (A 49 12) σ A ∧ rs_n (x : Int) (A 49 12) σ A) ∧ rf_ok 7 (A 57 x) ∧ σ 100 x = rf_w 7 (A 57 x) ∧ σ 96 (5 + 19 * x) = A 52 x ∧
  ∀ i : Nat, (i : Int) < A 52 x → σ 96 (6 + 19 * x + 2 * i) = A 50 (x * 9 + i) ∧ σ 96 (7 + 19 * x + 2 * i) = A 51 (x * 9 + i)
theorem RT_end {σ A : ab_SG} {x : Nat} {e : tk_E} {p : Nat} (hx : x < 9) (h : RT σ A x e p) : RM (ab_ups σ 96 0 ((x : Int) + 1)) A e p := by
  obtain ⟨hm, hi, ex, ⟨⟨c0, c1, c2, r57, r58, r59⟩, r1, r2, r3, r4, r5, r6, r7, r8, r9⟩, ok, hnm, hb, hrow⟩ := h
  have hi2 := hi.2.1
  have hi3 := hi.2.2.1
  have s96 : ∀ j : Nat, j ≠ 0 → ab_ups σ 96 0 ((x : Int) + 1) 96 j = σ 96 j := fun j hj => ab_ups_ne (fun z => hj z.2)
  have s100 : ab_ups σ 96 0 ((x : Int) + 1) 100 = σ 100 := ab_ups_row (by decide)
  refine ⟨mt_ups hm (Or.inl ⟨by decide, by decide⟩), hi, rn_n_is hi ⟨?_, ?_, ?_, ?_, rn_k_M r58 s100, rn_k_M r59 s100⟩, ?_, fun y hy => ?_, fun c hc => ?_, fun j hj => ?_, fun j hj => ?_, r6, fun j hj => ?_, ?_, ?_⟩
  · rw [ab_ups_eq, ex]
  · rw [s96 1 (by decide)]; exact c1
  · rw [s96 2 (by decide)]; exact c2
  · intro j hj
    rw [ex] at hj
    rw [s100]
    by_cases c : j = x
    · rw [c, Nat.zero_add]; exact ⟨ok, hnm⟩
    · exact r57 j (by omega)
  · rw [s96 3 (by decide)]; exact r1
  · rw [ex] at hy
    rw [s96 _ (by omega)]
    by_cases c : y = x
    · rw [c]
      refine ⟨hb, fun i hi2 => ?_⟩
      rw [s96 _ (by omega), s96 _ (by omega)]; exact hrow i hi2
    · refine ⟨(r2 y (by omega)).1, fun i hi2 => ?_⟩
      rw [s96 _ (by omega), s96 _ (by omega)]; exact (r2 y (by omega)).2 i hi2
  · rw [s96 _ (by omega)]; exact r3 c hc
  · rw [s96 _ (by omega)]; exact r4 j hj
  · rw [s96 _ (by omega)]; exact r5 j hj
  · rw [ab_ups_ne (fun z => absurd z.1 (by decide))]; exact r7 j hj
  · rw [ab_ups_ne (fun z => absurd z.1 (by decide))]; exact r8
  · rw [ab_ups_ne (fun z => absurd z.1 (by decide))]; exact r9
theorem pr_nm_k {e : tk_E} {p : Nat} {a b : Int} (q : pr_nm e p a b = 0) : (tk e p).1 = 3 := by
  unfold pr_nm at q
  by_cases y : (tk e p).1 = 3
  · exact y
  · rw [if_neg y] at q
    exact absurd q (by decide)
def sp_m_readTune : fw_SP := fun as σ K => ∃ (A : ab_SG) (e : tk_E) (p : Nat), as = [(2, 93, 0)] ∧ RM σ A e p ∧ (tk e p).1 = 2 ∧ md_post σ (pr_tune A e p) e K
abbrev fk_m_readTune : List fw_CR := [(168, 1, true, 11, 0, sp_m_bad), (178, 2, true, 11, 1, sp_m_isNumber), (182, 0, true, 11, 1, sp_m_go), (207, 1, true, 11, 3, sp_m_readNew), (210, 2, true, 11, 2, sp_m_readNumber)]
abbrev st_m_readTune : fw_K → fw_KR → fw_K := fw_st vwCl nn_sh nn_kd fw_kv fw_wc (nn_KI20.map (fun x => x.1)) (nn_KJ20.map (fun x => x.1)) (nn_PF20.map (fun x => x.1)) (nn_PS20.map (fun x => x.1)) fk_m_readTune 4 nn_dt220 3 1
theorem fs_m_readTune_0 {G : fw_K} {R : fw_KR} (hG : fw_cls st_m_readTune R G) {σ : ab_SG} (h : (0 ≤ fw_c 0 ∧ fw_c 0 < ((232 : Nat) : Int)) ∧ ((fw_c (σ 96 (fw_c 0).toNat) ≠ fw_c 9 → sp_m_go [(2, 93, 0)] σ (fun rv σ2 => G 23 [some (2, 93, 0), some (0, 0, σ 96 (fw_c 0).toNat), none] (rv.toList ++ []) σ2)) ∧ (fw_c (σ 96 (fw_c 0).toNat) = fw_c 9 → sp_m_bad [(2, 93, 0), (0, 0, 4)] σ (fun rv σ2 => G 18 [some (2, 93, 0), some (0, 0, σ 96 (fw_c 0).toNat), none] (rv.toList ++ []) σ2)))) : G 0 [some (2, 93, 0), none, none] [] σ := fw_on hG [18, 23, 28, 47, 64, 71, 92, 118, 125] 200 h
theorem fs_m_readTune_23 {G : fw_K} {R : fw_KR} (hG : fw_cls st_m_readTune R G) {a1 : Int} {σ : ab_SG} (h : sp_m_readNew [(2, 93, 0), (0, 0, a1)] σ (fun rv σ2 => G 28 [some (2, 93, 0), some (0, 0, a1), none] (rv.toList ++ []) σ2)) : G 23 [some (2, 93, 0), some (0, 0, a1), none] [] σ := fw_on hG [18, 23, 28, 47, 64, 71, 92, 118, 125] 200 h
theorem fs_m_readTune_18 {G : fw_K} {R : fw_KR} (hG : fw_cls st_m_readTune R G) {a1 b0 : Int} {σ : ab_SG} (h : (0 ≤ fw_c b0 ∧ fw_c b0 ≤ 1) ∧ R (some (0, 0, b0)) σ) : G 18 [some (2, 93, 0), some (0, 0, a1), none] [(0, 0, b0)] σ := fw_on hG [18, 23, 28, 47, 64, 71, 92, 118, 125] 200 h
theorem fs_m_readTune_28 {G : fw_K} {R : fw_KR} (hG : fw_cls st_m_readTune R G) {a1 b0 : Int} {σ : ab_SG} (h : (fw_c b0 ≠ 0 → (0 ≤ fw_c (5 + (19 * a1)) ∧ fw_c (5 + (19 * a1)) < ((232 : Nat) : Int)) ∧ True ∧ (G 47 [some (2, 93, 0), some (0, 0, a1), some (0, 0, 5 + (19 * a1))] [] (ab_ups σ 96 (fw_c (5 + (19 * a1))).toNat (fw_c 0)))) ∧ (fw_c b0 = 0 → (0 ≤ fw_c 0 ∧ fw_c 0 ≤ 1) ∧ R (some (0, 0, 0)) σ)) : G 28 [some (2, 93, 0), some (0, 0, a1), none] [(0, 0, b0)] σ := fw_on hG [18, 23, 28, 47, 64, 71, 92, 118, 125] 200 h
theorem fs_m_readTune_47 {G : fw_K} {R : fw_KR} (hG : fw_cls st_m_readTune R G) {a1 a2 : Int} {σ : ab_SG} (h : (0 ≤ fw_c a2 ∧ fw_c a2 < ((232 : Nat) : Int)) ∧ ((fw_c (σ 96 (fw_c a2).toNat) = 0 → G 64 [some (2, 93, 0), some (0, 0, a1), some (0, 0, a2)] [] σ) ∧ (fw_c (σ 96 (fw_c a2).toNat) ≠ 0 → (fw_c (σ 93 7) ≠ fw_c 3 → (0 ≤ fw_c 0 ∧ fw_c 0 < ((232 : Nat) : Int)) ∧ ((0 ≤ fw_c 0 ∧ fw_c 0 < ((232 : Nat) : Int)) ∧ True ∧ ((0 ≤ fw_c 1 ∧ fw_c 1 ≤ 1) ∧ R (some (0, 0, 1)) (ab_ups σ 96 (fw_c 0).toNat (fw_c ((σ 96 (fw_c 0).toNat) + 1)))))) ∧ (fw_c (σ 93 7) = fw_c 3 → G 64 [some (2, 93, 0), some (0, 0, a1), some (0, 0, a2)] [] σ)))) : G 47 [some (2, 93, 0), some (0, 0, a1), some (0, 0, a2)] [] σ := fw_on hG [18, 23, 28, 47, 64, 71, 92, 118, 125] 200 h
theorem fs_m_readTune_64 {G : fw_K} {R : fw_KR} (hG : fw_cls st_m_readTune R G) {a1 a2 : Int} {σ : ab_SG} (h : sp_m_isNumber [(2, 93, 0), (0, 0, 0), (0, 0, 24)] σ (fun rv σ2 => G 71 [some (2, 93, 0), some (0, 0, a1), some (0, 0, a2)] (rv.toList ++ []) σ2)) : G 64 [some (2, 93, 0), some (0, 0, a1), some (0, 0, a2)] [] σ := fw_on hG [18, 23, 28, 47, 64, 71, 92, 118, 125] 200 h
theorem fs_m_readTune_71 {G : fw_K} {R : fw_KR} (hG : fw_cls st_m_readTune R G) {a1 a2 b0 : Int} {σ : ab_SG} (h : (fw_c b0 ≠ 0 → (0 ≤ fw_c a2 ∧ fw_c a2 < ((232 : Nat) : Int)) ∧ ((fw_c (σ 96 (fw_c a2).toNat) ≠ fw_c 9 → (0 ≤ fw_c a2 ∧ fw_c a2 < ((232 : Nat) : Int)) ∧ ((0 ≤ fw_c ((a2 + 1) + (2 * (σ 96 (fw_c a2).toNat))) ∧ fw_c ((a2 + 1) + (2 * (σ 96 (fw_c a2).toNat))) < ((232 : Nat) : Int)) ∧ True ∧ (sp_m_go [(2, 93, 0)] (ab_ups σ 96 (fw_c ((a2 + 1) + (2 * (σ 96 (fw_c a2).toNat)))).toNat (fw_c (σ 93 13))) (fun rv σ2 => G 118 [some (2, 93, 0), some (0, 0, a1), some (0, 0, a2)] (rv.toList ++ []) σ2)))) ∧ (fw_c (σ 96 (fw_c a2).toNat) = fw_c 9 → sp_m_bad [(2, 93, 0), (0, 0, 4)] σ (fun rv σ2 => G 92 [some (2, 93, 0), some (0, 0, a1), some (0, 0, a2)] (rv.toList ++ []) σ2)))) ∧ (fw_c b0 = 0 → (0 ≤ fw_c 0 ∧ fw_c 0 ≤ 1) ∧ R (some (0, 0, 0)) σ)) : G 71 [some (2, 93, 0), some (0, 0, a1), some (0, 0, a2)] [(0, 0, b0)] σ := fw_on hG [18, 23, 28, 47, 64, 71, 92, 118, 125] 200 h
theorem fs_m_readTune_118 {G : fw_K} {R : fw_KR} (hG : fw_cls st_m_readTune R G) {a1 a2 : Int} {σ : ab_SG} (h : sp_m_readNumber [(2, 93, 0), (0, 0, 1), (0, 0, 9)] σ (fun rv σ2 => G 125 [some (2, 93, 0), some (0, 0, a1), some (0, 0, a2)] (rv.toList ++ []) σ2)) : G 118 [some (2, 93, 0), some (0, 0, a1), some (0, 0, a2)] [] σ := fw_on hG [18, 23, 28, 47, 64, 71, 92, 118, 125] 200 h
theorem fs_m_readTune_92 {G : fw_K} {R : fw_KR} (hG : fw_cls st_m_readTune R G) {a1 a2 b0 : Int} {σ : ab_SG} (h : (0 ≤ fw_c b0 ∧ fw_c b0 ≤ 1) ∧ R (some (0, 0, b0)) σ) : G 92 [some (2, 93, 0), some (0, 0, a1), some (0, 0, a2)] [(0, 0, b0)] σ := fw_on hG [18, 23, 28, 47, 64, 71, 92, 118, 125] 200 h
theorem fs_m_readTune_125 {G : fw_K} {R : fw_KR} (hG : fw_cls st_m_readTune R G) {a1 a2 b0 : Int} {σ : ab_SG} (h : (fw_c b0 ≠ 0 → (0 ≤ fw_c a2 ∧ fw_c a2 < ((232 : Nat) : Int)) ∧ ((0 ≤ fw_c ((a2 + 2) + (2 * (σ 96 (fw_c a2).toNat))) ∧ fw_c ((a2 + 2) + (2 * (σ 96 (fw_c a2).toNat))) < ((232 : Nat) : Int)) ∧ True ∧ ((0 ≤ fw_c a2 ∧ fw_c a2 < ((232 : Nat) : Int)) ∧ ((0 ≤ fw_c a2 ∧ fw_c a2 < ((232 : Nat) : Int)) ∧ True ∧ (G 47 [some (2, 93, 0), some (0, 0, a1), some (0, 0, a2)] [] (ab_ups (ab_ups σ 96 (fw_c ((a2 + 2) + (2 * (σ 96 (fw_c a2).toNat)))).toNat (fw_c (σ 93 13))) 96 (fw_c a2).toNat (fw_c (((ab_ups σ 96 (fw_c ((a2 + 2) + (2 * (σ 96 (fw_c a2).toNat)))).toNat (fw_c (σ 93 13))) 96 (fw_c a2).toNat) + 1)))))))) ∧ (fw_c b0 = 0 → (0 ≤ fw_c 0 ∧ fw_c 0 ≤ 1) ∧ R (some (0, 0, 0)) σ)) : G 125 [some (2, 93, 0), some (0, 0, a1), some (0, 0, a2)] [(0, 0, b0)] σ := fw_on hG [18, 23, 28, 47, 64, 71, 92, 118, 125] 200 h
theorem tb_body {G : fw_K} {K : fw_KR} (hG : fw_cls st_m_readTune K G) {x : Nat} (hx : x < 9) {σ0 σ A : ab_SG} {e : tk_E} {p : Nat} (hM : ab_okM md_M σ0 σ) (h : RT σ A x e p) (h0 : (pr_note A e x p).1 ≠ 0 → md_no σ0 (pr_note A e x p).1 K)
    (h1 : (pr_note A e x p).1 = 0 → ∀ σ' : ab_SG, ab_okM md_M σ0 σ' → RT σ' (pr_note A e x p).2.1 x e (pr_note A e x p).2.2 → (pr_note A e x p).2.1 52 x = A 52 x + 1 → G 47 [some (2, 93, 0), some (0, 0, (x : Int)), some (0, 0, 5 + 19 * (x : Int))] [] σ') :
    G 64 [some (2, 93, 0), some (0, 0, (x : Int)), some (0, 0, 5 + 19 * (x : Int))] [] σ := by
  obtain ⟨hm, hi, ex, hrr, ok, hnm, hb, hrow⟩ := h
  have mk := mg_kind hm.1
  have hs := hi.2.2.2.2.2.2.1 x hx
  have z9 : fw_c 9 = 9 := fw_c_id (by decide) (by decide)
  have ea : fw_c (5 + 19 * (x : Int)) = ((5 + 19 * x : Nat) : Int) := by rw [fw_c_id (by omega) (by omega)]; omega
  unfold pr_note at h0 h1
  rw [Int.toNat_natCast] at h0 h1
  refine fs_m_readTune_64 hG ⟨0, 24, e, p, rfl, by decide, hm.1, fun n0 σ' M2 h10 => ?_, fun n0 na nb => ?_⟩
  · rw [if_pos n0] at h0
    exact fs_m_readTune_71 hG ⟨fun z => absurd fw_c0 z, fun _ => ⟨fw_01, h0 n0 σ' (fw_okM_tr hM M2 (by decide)) h10⟩⟩
  rw [if_neg (fun y => y n0)] at h0 h1
  have kq := pr_nm_k n0
  have S1 : mt_is (ab_ups σ 93 13 (tk e p).2.2.2.2) e p := mt_ups hm (Or.inr ⟨rfl, by decide⟩)
  have M1 : ab_okM md_M σ0 (ab_ups σ 93 13 (tk e p).2.2.2.2) := fw_okM_ups hM (by decide)
  have v13 : ab_ups σ 93 13 (tk e p).2.2.2.2 93 13 = (tk e p).2.2.2.2 := ab_ups_eq
  have k7 : ab_ups σ 93 13 (tk e p).2.2.2.2 93 7 = σ 93 7 := ab_ups_ne (by decide)
  have k25 : ab_ups σ 93 13 (tk e p).2.2.2.2 93 25 = σ 93 25 := ab_ups_ne (by decide)
  have k26 : ab_ups σ 93 13 (tk e p).2.2.2.2 93 26 = σ 93 26 := ab_ups_ne (by decide)
  have o96 : ab_ups σ 93 13 (tk e p).2.2.2.2 96 = σ 96 := ab_ups_row (by decide)
  have o100 : ab_ups σ 93 13 (tk e p).2.2.2.2 100 = σ 100 := ab_ups_row (by decide)
  have o103 : ab_ups σ 93 13 (tk e p).2.2.2.2 103 = σ 103 := ab_ups_row (by decide)
  have ev : fw_c (tk e p).2.2.2.2 = (tk e p).2.2.2.2 := fw_c_id (by omega) (by omega)
  generalize ab_ups σ 93 13 (tk e p).2.2.2.2 = σ1 at S1 M1 v13 k7 k25 k26 o96 o100 o103 ⊢
  generalize (tk e p).2.2.2.2 = v at h0 h1 v13 ev
  obtain ⟨i, hi9⟩ : ∃ i : Nat, A 52 x = (i : Int) := ⟨(A 52 x).toNat, by omega⟩
  have ec : fw_c (i : Int) = i := fw_c_id (by omega) (by omega)
  have b1 : σ1 96 (5 + 19 * x) = (i : Int) := by rw [o96, hb, hi9]
  have eq : ((x : Int) * 9 + (i : Int)).toNat = x * 9 + i := by omega
  rw [hi9, eq] at h0 h1
  refine fs_m_readTune_71 hG ⟨fun _ => ?_, fun z => absurd (fw_c1.symm.trans z) (by decide)⟩
  rw [ea, Int.toNat_natCast, b1, ec, z9]
  refine ⟨⟨Int.natCast_nonneg _, by omega⟩, fun q => ?_, fun q => ?_⟩
  · rw [if_neg (show ¬ 9 ≤ (i : Int) by omega)] at h0 h1
    have e6 : fw_c (5 + 19 * (x : Int) + 1 + 2 * (i : Int)) = ((6 + 19 * x + 2 * i : Nat) : Int) := by rw [fw_c_id (by omega) (by omega)]; omega
    rw [e6, Int.toNat_natCast, v13, ev]
    refine ⟨⟨Int.natCast_nonneg _, by omega⟩, ⟨Int.natCast_nonneg _, by omega⟩, trivial, mt_go (mt_ups S1 (Or.inl ⟨by decide, by decide⟩)) (fun σ2 M2 S2 => fs_m_readTune_118 hG ⟨1, 9, e, tn e p, rfl, by decide, S2, fun n1 σ' M3 h10 => ?_, fun n1 na1 nb1 σ' M3 r13 S3 => ?_⟩)⟩
    · rw [if_pos n1] at h0
      exact fs_m_readTune_125 hG ⟨fun z => absurd fw_c0 z, fun _ => ⟨fw_01, h0 n1 σ' (fw_okM_tr (fw_okM_tr (fw_okM_upa M1 (by decide)) M2 (by decide)) M3 (by decide)) h10⟩⟩
    · rw [if_neg (fun y => y n1)] at h1
      have h1 := h1 rfl
      dsimp only at h1
      have M4 : ab_okM md_M σ0 σ' := fw_okM_tr (fw_okM_tr (fw_okM_upa M1 (by decide)) M2 (by decide)) M3 (by decide)
      have N3 : ab_okM ((93, 13) :: go_M) (ab_ups σ1 96 (6 + 19 * x + 2 * i) v) σ' := fw_okM_tr (fw_okM_tr (fw_okM_refl _ _) M2 (by decide)) M3 (by decide)
      have e96 : σ' 96 = ab_ups σ1 96 (6 + 19 * x + 2 * i) v 96 := fw_okM_c N3 (by decide)
      have e100 : σ' 100 = σ 100 := (fw_okM_c N3 (by decide)).trans ((ab_ups_row (by decide)).trans o100)
      have e103 : σ' 103 = σ 103 := (fw_okM_c N3 (by decide)).trans ((ab_ups_row (by decide)).trans o103)
      have e25 : σ' 93 25 = σ 93 25 := (N3 93 25 (by decide)).trans ((ab_ups_ne (fun z => absurd z.1 (by decide))).trans k25)
      have e26 : σ' 93 26 = σ 93 26 := (N3 93 26 (by decide)).trans ((ab_ups_ne (fun z => absurd z.1 (by decide))).trans k26)
      have f6 : σ' 96 (6 + 19 * x + 2 * i) = v := by rw [e96, ab_ups_eq]
      have fn : ∀ j : Nat, j ≠ 6 + 19 * x + 2 * i → σ' 96 j = σ 96 j := fun j hj => by rw [e96, ab_ups_ne (fun z => hj z.2), o96]
      have b5 : σ' 96 (5 + 19 * x) = (i : Int) := by rw [fn _ (by omega), hb, hi9]
      have ev1 : fw_c (tk e (tn e p)).2.2.2.2 = (tk e (tn e p)).2.2.2.2 := fw_c_id (by omega) (by omega)
      generalize (tk e (tn e p)).2.2.2.2 = v1 at h1 na1 nb1 r13 ev1
      have e7 : fw_c (5 + 19 * (x : Int) + 2 + 2 * (i : Int)) = ((7 + 19 * x + 2 * i : Nat) : Int) := by rw [fw_c_id (by omega) (by omega)]; omega
      have ei1 : fw_c ((i : Int) + 1) = (i : Int) + 1 := fw_c_id (by omega) (by omega)
      refine fs_m_readTune_125 hG ⟨fun _ => ?_, fun z => absurd (fw_c1.symm.trans z) (by decide)⟩
      rw [ea, Int.toNat_natCast, b5, e7, Int.toNat_natCast, r13, ev1]
      have b5' : ab_ups σ' 96 (7 + 19 * x + 2 * i) v1 96 (5 + 19 * x) = (i : Int) := by rw [ab_ups_ne (fun z => by omega), b5]
      rw [b5', ei1]
      refine ⟨⟨Int.natCast_nonneg _, by omega⟩, ⟨Int.natCast_nonneg _, by omega⟩, trivial, ⟨Int.natCast_nonneg _, by omega⟩, ⟨Int.natCast_nonneg _, by omega⟩, trivial, ?_⟩
      have g96 : ∀ j : Nat, j ≠ 5 + 19 * x → j ≠ 6 + 19 * x + 2 * i → j ≠ 7 + 19 * x + 2 * i → ab_ups (ab_ups σ' 96 (7 + 19 * x + 2 * i) v1) 96 (5 + 19 * x) ((i : Int) + 1) 96 j = σ 96 j := fun j q1 q2 q3 => by rw [ab_ups_ne (fun z => q1 z.2), ab_ups_ne (fun z => q3 z.2), fn j q2]
      have B : ∀ k j : Nat, k ≠ 50 → k ≠ 51 → k ≠ 52 → ab_ups (ab_ups (ab_ups A 50 (x * 9 + i) v) 51 (x * 9 + i) v1) 52 x ((i : Int) + 1) k j = A k j := fun k j q1 q2 q3 => by rw [ab_ups_ne (fun z => q3 z.1), ab_ups_ne (fun z => q2 z.1), ab_ups_ne (fun z => q1 z.1)]
      have B50 : ∀ j : Nat, j ≠ x * 9 + i → ab_ups (ab_ups (ab_ups A 50 (x * 9 + i) v) 51 (x * 9 + i) v1) 52 x ((i : Int) + 1) 50 j = A 50 j := fun j q => by rw [ab_ups_ne (fun z => absurd z.1 (by decide)), ab_ups_ne (fun z => absurd z.1 (by decide)), ab_ups_ne (fun z => q z.2)]
      have B51 : ∀ j : Nat, j ≠ x * 9 + i → ab_ups (ab_ups (ab_ups A 50 (x * 9 + i) v) 51 (x * 9 + i) v1) 52 x ((i : Int) + 1) 51 j = A 51 j := fun j q => by rw [ab_ups_ne (fun z => absurd z.1 (by decide)), ab_ups_ne (fun z => q z.2), ab_ups_ne (fun z => absurd z.1 (by decide))]
      have B52 : ∀ j : Nat, j ≠ x → ab_ups (ab_ups (ab_ups A 50 (x * 9 + i) v) 51 (x * 9 + i) v1) 52 x ((i : Int) + 1) 52 j = A 52 j := fun j q => by rw [ab_ups_ne (fun z => q z.2), ab_ups_ne (fun z => absurd z.1 (by decide)), ab_ups_ne (fun z => absurd z.1 (by decide))]
      have B52x : ab_ups (ab_ups (ab_ups A 50 (x * 9 + i) v) 51 (x * 9 + i) v1) 52 x ((i : Int) + 1) 52 x = (i : Int) + 1 := ab_ups_eq
      have B50x : ab_ups (ab_ups (ab_ups A 50 (x * 9 + i) v) 51 (x * 9 + i) v1) 52 x ((i : Int) + 1) 50 (x * 9 + i) = v := by rw [ab_ups_ne (fun z => absurd z.1 (by decide)), ab_ups_ne (fun z => absurd z.1 (by decide)), ab_ups_eq]
      have B51x : ab_ups (ab_ups (ab_ups A 50 (x * 9 + i) v) 51 (x * 9 + i) v1) 52 x ((i : Int) + 1) 51 (x * 9 + i) = v1 := by rw [ab_ups_ne (fun z => absurd z.1 (by decide)), ab_ups_eq]
      refine h1 _ (fw_okM_upa (fw_okM_upa M4 (by decide)) (by decide)) ⟨mt_ups (mt_ups S3 (Or.inl ⟨by decide, by decide⟩)) (Or.inl ⟨by decide, by decide⟩), ?_, ?_, ?_, ?_, ?_, ?_, fun i' hi' => ?_⟩ ?_
      · refine ⟨hi.1, hi.2.1, hi.2.2.1, hi.2.2.2.1, hi.2.2.2.2.1, hi.2.2.2.2.2.1, fun j hj => ?_, hi.2.2.2.2.2.2.2⟩
        by_cases c : j = x
        · rw [c, B52x]; omega
        · rw [B52 j c]; exact hi.2.2.2.2.2.2.1 j hj
      · rw [B 49 11 (by decide) (by decide) (by decide)]; exact ex
      · rw [B 49 12 (by decide) (by decide) (by decide)]
        refine rm_cong (u := 5 + 19 * x) (v := 24 + 19 * x) (w := x) (by omega) hi.2.1 hi.2.2.1 hi.2.2.2.2.2.2.1 (by omega) (by omega) (by omega) (by omega) (fun j hj => g96 j (by omega) (by omega) (by omega)) (fun j _ => ?_) ?_ ?_ ?_ (fun k j q1 q2 q3 q4 => ?_) hrr
        · rw [ab_ups_ne (fun z => absurd z.1 (by decide)), ab_ups_ne (fun z => absurd z.1 (by decide)), e100]
        · rw [ab_ups_row (by decide), ab_ups_row (by decide), e103]
        · rw [ab_ups_ne (fun z => absurd z.1 (by decide)), ab_ups_ne (fun z => absurd z.1 (by decide)), e25]
        · rw [ab_ups_ne (fun z => absurd z.1 (by decide)), ab_ups_ne (fun z => absurd z.1 (by decide)), e26]
        · by_cases c50 : k = 50
          · subst c50
            exact B50 j (by have := q2 (Or.inl rfl); omega)
          by_cases c51 : k = 51
          · subst c51
            exact B51 j (by have := q2 (Or.inr rfl); omega)
          by_cases c52 : k = 52
          · subst c52
            exact B52 j (by have := q3 (Or.inl rfl); omega)
          exact B k j c50 c51 c52
      · rw [B 57 x (by decide) (by decide) (by decide)]; exact ok
      · rw [B 57 x (by decide) (by decide) (by decide), ab_ups_ne (fun z => absurd z.1 (by decide)), ab_ups_ne (fun z => absurd z.1 (by decide)), e100]; exact hnm
      · rw [B52x, ab_ups_eq]
      · rw [B52x] at hi'
        by_cases c : i' = i
        · subst c
          rw [B50x, B51x, ab_ups_ne (fun z => by omega), ab_ups_ne (fun z => by omega), f6, ab_ups_ne (fun z => by omega), ab_ups_eq]
          exact ⟨rfl, rfl⟩
        · rw [B50 _ (by omega), B51 _ (by omega), g96 _ (by omega) (by omega) (by omega), g96 _ (by omega) (by omega) (by omega)]
          exact hrow i' (by omega)
      · rw [B52x]
  · rw [if_pos (show 9 ≤ (i : Int) by omega)] at h0
    refine ⟨4, rfl, by decide, by rw [k7]; exact mk.2.2.2.2, fun σ' M2 h10 _ => fs_m_readTune_92 hG ⟨fw_01, h0 (by show (4 : Int) ≠ 0; decide) σ' (fw_okM_tr M1 M2 (by decide)) ?_⟩⟩
    rw [h10, k7, if_neg (show ¬ σ 93 7 = 1 by have := mk.2.1.mpr kq; omega)]
theorem tm_loop {G : fw_K} {K : fw_KR} (hG : fw_cls st_m_readTune K G) {x : Nat} (hx : x < 9) {σ0 : ab_SG} {e : tk_E} : ∀ (f : Nat) (σ A : ab_SG) (p : Nat), A 52 x + f = 10 → 1 ≤ A 52 x → ab_okM md_M σ0 σ → RT σ A x e p → ((pr_notes e x f A p).1 ≠ 0 → md_no σ0 (pr_notes e x f A p).1 K) →
    ((pr_notes e x f A p).1 = 0 → ∀ σ' : ab_SG, ab_okM md_M σ0 σ' → RT σ' (pr_notes e x f A p).2.1 x e (pr_notes e x f A p).2.2 → K (some (0, 0, 1)) (ab_ups σ' 96 0 ((x : Int) + 1))) → G 47 [some (2, 93, 0), some (0, 0, (x : Int)), some (0, 0, 5 + 19 * (x : Int))] [] σ := by
  have t0 : (fw_c 0).toNat = 0 := by rw [fw_c0]; rfl
  have u0 : 0 ≤ fw_c 0 ∧ fw_c 0 < ((232 : Nat) : Int) := by rw [fw_c0]; decide
  have z3 : fw_c 3 = 3 := fw_c_id (by decide) (by decide)
  have ea : fw_c (5 + 19 * (x : Int)) = ((5 + 19 * x : Nat) : Int) := by rw [fw_c_id (by omega) (by omega)]; omega
  have ex1 : fw_c ((x : Int) + 1) = (x : Int) + 1 := fw_c_id (by omega) (by omega)
  intro f
  induction f with
  | zero =>
    intro σ A p hf _ _ h _ _
    have hs := h.2.1.2.2.2.2.2.2.1 x hx
    exact absurd hs.2 (by omega)
  | succ f ih =>
    intro σ A p hf hA hM h h0 h1
    have hs := h.2.1.2.2.2.2.2.2.1 x hx
    have mk := mg_kind h.1.1
    have hb : σ 96 (5 + 19 * x) = A 52 x := h.2.2.2.2.2.2.1
    have c0 : σ 96 0 = (x : Int) := h.2.2.2.1.1.1
    have ec : fw_c (A 52 x) = A 52 x := fw_c_id (by omega) (by omega)
    have e7 : fw_c (σ 93 7) = σ 93 7 := fw_c_id (by omega) (by omega)
    unfold pr_notes at h0 h1
    refine fs_m_readTune_47 hG ?_
    rw [ea, Int.toNat_natCast, hb, ec, e7, z3]
    refine ⟨⟨Int.natCast_nonneg _, by omega⟩, fun q => absurd q (by omega), fun _ => ⟨fun q => ?_, fun q => ?_⟩⟩
    · rw [if_pos (fun y => q (mk.2.1.mpr y))] at h1
      rw [t0, c0, ex1]
      exact ⟨u0, u0, trivial, fw_11, h1 rfl σ hM h⟩
    · rw [if_neg (fun y => y (mk.2.1.mp q))] at h0 h1
      refine tb_body hG hx hM h (fun n0 => ?_) (fun n0 σ' M' R' i' => ?_)
      · rw [if_pos n0] at h0
        exact h0 n0
      · rw [if_neg (fun y => y n0)] at h0 h1
        exact ih σ' _ _ (by omega) (by omega) M' R' h0 h1
section
variable {l : Launch} {cy : Nat → ClassId} {ad wr cr : Nat → Nat} {D : va_G}
theorem fm_m_readTune (hinj : nn_inj ad) : fw_H l cy ad wr cr D 220 4 sp_m_readTune := fw_mk hinj (⟨"NameNotesModel", "readTune", "()Z"⟩, prog_14_method_32_code, 3, (Option.some Jvm.ClassFile.FieldType.boolean), 0, true, 1) rfl rfl nn_KI20_ok nn_KJ20_ok nn_PF20_ok nn_PS20_ok (by decide +kernel) rfl rfl (List.forall_mem_cons.mpr ⟨fw_row nn_PM20_ok (x := 168) (k := 0) (mn := 221) (np := 1) (ob := true) (ci := 11) (⟨"NameNotesModel", "bad", "(I)Z"⟩, prog_14_method_23_code, 2, (Option.some Jvm.ClassFile.FieldType.boolean), 1, true, 1) rfl (by decide +kernel) rfl rfl (by decide) (fun _ => ⟨_, _, rfl⟩) (fm_m_bad hinj), (List.forall_mem_cons.mpr ⟨fw_row nn_PM20_ok (x := 178) (k := 0) (mn := 225) (np := 2) (ob := true) (ci := 11) (⟨"NameNotesModel", "isNumber", "(II)Z"⟩, prog_14_method_24_code, 3, (Option.some Jvm.ClassFile.FieldType.boolean), 2, true, 1) rfl (by decide +kernel) rfl rfl (by decide) (fun _ => ⟨_, _, rfl⟩) (fm_m_isNumber hinj), (List.forall_mem_cons.mpr ⟨fw_row nn_PM20_ok (x := 182) (k := 0) (mn := 212) (np := 0) (ob := true) (ci := 11) (⟨"NameNotesModel", "go", "()V"⟩, prog_14_method_17_code, 5, (Option.none : Option Jvm.ClassFile.FieldType), 0, true, 4) rfl (by decide +kernel) rfl rfl (by decide) (fun _ => ⟨_, _, rfl⟩) (fm_m_go hinj), (List.forall_mem_cons.mpr ⟨fw_row nn_PM20_ok (x := 207) (k := 0) (mn := 222) (np := 1) (ob := true) (ci := 11) (⟨"NameNotesModel", "readNew", "(I)Z"⟩, prog_14_method_30_code, 3, (Option.some Jvm.ClassFile.FieldType.boolean), 1, true, 1) rfl (by decide +kernel) rfl rfl (by decide) (fun _ => ⟨_, _, rfl⟩) (fm_m_readNew hinj), (List.forall_mem_cons.mpr ⟨fw_row nn_PM20_ok (x := 210) (k := 0) (mn := 227) (np := 2) (ob := true) (ci := 11) (⟨"NameNotesModel", "readNumber", "(II)Z"⟩, prog_14_method_25_code, 3, (Option.some Jvm.ClassFile.FieldType.boolean), 2, true, 1) rfl (by decide +kernel) rfl rfl (by decide) (fun _ => ⟨_, _, rfl⟩) (fm_m_readNumber hinj), (fun _ h => absurd h List.not_mem_nil)⟩)⟩)⟩)⟩)⟩) (fun as σ K h => by
  obtain ⟨A, e, p, rfl, ⟨hm, hi, hr⟩, hk, h0, h1⟩ := h
  have mk := mg_kind hm.1
  have t0 : (fw_c 0).toNat = 0 := by rw [fw_c0]; rfl
  have u0 : 0 ≤ fw_c 0 ∧ fw_c 0 < ((232 : Nat) : Int) := by rw [fw_c0]; decide
  have z9 : fw_c 9 = 9 := fw_c_id (by decide) (by decide)
  have h11 := hr.1.1
  have c11 : fw_c (A 49 11) = A 49 11 := fw_c_id (by omega) (by omega)
  unfold pr_tune at h0 h1
  refine ⟨rfl, fun G hG => fs_m_readTune_0 hG ⟨u0, ?_⟩⟩
  rw [t0, h11.1, c11, z9]
  refine ⟨fun q => ?_, fun q => ?_⟩
  · rw [if_neg (show ¬ 9 ≤ A 49 11 by omega)] at h0 h1
    refine mt_go hm (fun σ1 M1 S1 => fs_m_readTune_23 hG ?_)
    have hr1 := rs_M hr (fw_okM_tr (fw_okM_refl _ _) M1 (by decide))
    obtain ⟨x, hx⟩ : ∃ x : Nat, A 49 11 = (x : Int) := ⟨(A 49 11).toNat, by omega⟩
    have hx9 : x < 9 := by omega
    rw [hx] at h0 h1 ⊢
    rw [Int.toNat_natCast] at h0 h1
    refine ⟨x, A, e, tn e p, rfl, by omega, S1, hr1.1, fun n0 σ' M2 h10 => ?_, fun n0 k2 ok σ2 M2 S2 => ?_⟩
    · rw [if_pos n0] at h0
      exact fs_m_readTune_28 hG ⟨fun z => absurd fw_c0 z, fun _ => ⟨fw_01, h0 n0 σ' (fw_okM_tr (fw_okM_tr (fw_okM_refl _ _) M1 (by decide)) M2 (by decide)) h10⟩⟩
    · rw [if_neg (fun y => y n0)] at h0 h1
      dsimp only at h0 h1
      have bw := rf_ok_in 7 _ ok
      rw [rf_C7] at bw
      have dw : fw_d (pr_wd e (tn e p)) = pr_wd e (tn e p) := fw_d_id (by omega) (by omega)
      generalize pr_wd e (tn e p) = w at h0 h1 ok dw M2
      have ea : fw_c (5 + 19 * (x : Int)) = ((5 + 19 * x : Nat) : Int) := by rw [fw_c_id (by omega) (by omega)]; omega
      have N2 : ab_okM md_M σ σ2 := fw_okM_tr (fw_okM_upa (fw_okM_tr (fw_okM_refl _ _) M1 (by decide)) (by decide)) M2 (by decide)
      have N1 : ab_okM ((93, 13) :: go_M) σ σ1 := fw_okM_tr (fw_okM_refl _ _) M1 (by decide)
      have e96 : σ2 96 = σ 96 := (fw_okM_c M2 (by decide)).trans ((ab_ups_row (by decide)).trans (fw_okM_c N1 (by decide)))
      have e103 : σ2 103 = σ 103 := (fw_okM_c M2 (by decide)).trans ((ab_ups_row (by decide)).trans (fw_okM_c N1 (by decide)))
      have e25 : σ2 93 25 = σ 93 25 := (M2 93 25 (by decide)).trans ((ab_ups_ne (fun z => absurd z.1 (by decide))).trans (N1 93 25 (by decide)))
      have e26 : σ2 93 26 = σ 93 26 := (M2 93 26 (by decide)).trans ((ab_ups_ne (fun z => absurd z.1 (by decide))).trans (N1 93 26 (by decide)))
      have e100 : σ2 100 = ab_ups σ1 100 x (rf_w 7 w) 100 := fw_okM_c M2 (by decide)
      have o100 : σ1 100 = σ 100 := fw_okM_c N1 (by decide)
      refine fs_m_readTune_28 hG ⟨fun _ => ?_, fun z => absurd (fw_c1.symm.trans z) (by decide)⟩
      rw [ea, Int.toNat_natCast, fw_c0]
      refine ⟨⟨Int.natCast_nonneg _, by omega⟩, trivial, fs_m_readTune_47 hG ?_⟩
      rw [ea, Int.toNat_natCast, ab_ups_eq]
      refine ⟨⟨Int.natCast_nonneg _, by omega⟩, fun _ => ?_, fun z => absurd fw_c0 z⟩
      have B : ∀ k j : Nat, k ≠ 57 → k ≠ 52 → (k = 49 → j ≠ 11) → ab_ups (ab_ups (ab_ups A 57 x w) 52 x 0) 49 11 ((x : Int) + 1) k j = A k j := fun k j q1 q2 q3 => by rw [ab_ups_ne (fun z => q3 z.1 z.2), ab_ups_ne (fun z => q2 z.1), ab_ups_ne (fun z => q1 z.1)]
      have B57 : ∀ j : Nat, j ≠ x → ab_ups (ab_ups (ab_ups A 57 x w) 52 x 0) 49 11 ((x : Int) + 1) 57 j = A 57 j := fun j q => by rw [ab_ups_ne (fun z => absurd z.1 (by decide)), ab_ups_ne (fun z => absurd z.1 (by decide)), ab_ups_ne (fun z => q z.2)]
      have B57x : ab_ups (ab_ups (ab_ups A 57 x w) 52 x 0) 49 11 ((x : Int) + 1) 57 x = w := by rw [ab_ups_ne (fun z => absurd z.1 (by decide)), ab_ups_ne (fun z => absurd z.1 (by decide)), ab_ups_eq]
      have B52 : ∀ j : Nat, j ≠ x → ab_ups (ab_ups (ab_ups A 57 x w) 52 x 0) 49 11 ((x : Int) + 1) 52 j = A 52 j := fun j q => by rw [ab_ups_ne (fun z => absurd z.1 (by decide)), ab_ups_ne (fun z => q z.2), ab_ups_ne (fun z => absurd z.1 (by decide))]
      have B52x : ab_ups (ab_ups (ab_ups A 57 x w) 52 x 0) 49 11 ((x : Int) + 1) 52 x = 0 := by rw [ab_ups_ne (fun z => absurd z.1 (by decide)), ab_ups_eq]
      have B11 : ab_ups (ab_ups (ab_ups A 57 x w) 52 x 0) 49 11 ((x : Int) + 1) 49 11 = (x : Int) + 1 := ab_ups_eq
      have hrr := And.intro (rn_n_of hr.1) (rs_n_of hr.2)
      rw [hx] at hrr
      have hRT : RT (ab_ups σ2 96 (5 + 19 * x) 0) (ab_ups (ab_ups (ab_ups A 57 x w) 52 x 0) 49 11 ((x : Int) + 1)) x e (tn e (tn e p)) := by
        refine ⟨mt_ups S2 (Or.inl ⟨by decide, by decide⟩), ?_, B11, ?_, ?_, ?_, ?_, fun i hi2 => ?_⟩
        · refine ⟨by rw [B11]; omega, hi.2.1, hi.2.2.1, fun j hj => ?_, hi.2.2.2.2.1, hi.2.2.2.2.2.1, fun j hj => ?_, hi.2.2.2.2.2.2.2⟩
          · by_cases c : j = x
            · rw [c, B57x]; exact dw
            · rw [B57 j c]; exact hi.2.2.2.1 j hj
          · by_cases c : j = x
            · rw [c, B52x]; decide
            · rw [B52 j c]; exact hi.2.2.2.2.2.2.1 j hj
        · rw [B 49 12 (by decide) (by decide) (fun _ => by decide)]
          refine rm_cong (u := 5 + 19 * x) (v := 24 + 19 * x) (w := x) (by omega) hi.2.1 hi.2.2.1 hi.2.2.2.2.2.2.1 (by omega) (by omega) (by omega) (by omega) (fun j hj => ?_) (fun j hj => ?_) ?_ ?_ ?_ (fun k j q1 q2 q3 q4 => ?_) hrr
          · rw [ab_ups_ne (fun z => by omega), e96]
          · rw [ab_ups_ne (fun z => absurd z.1 (by decide)), e100, ab_ups_ne (fun z => hj z.2), o100]
          · rw [ab_ups_row (by decide), e103]
          · rw [ab_ups_ne (fun z => absurd z.1 (by decide)), e25]
          · rw [ab_ups_ne (fun z => absurd z.1 (by decide)), e26]
          · by_cases c57 : k = 57
            · subst c57
              exact B57 j (by have := q3 (Or.inr rfl); omega)
            by_cases c52 : k = 52
            · subst c52
              exact B52 j (by have := q3 (Or.inl rfl); omega)
            exact B k j c57 c52 (fun z => (q1 z).1)
        · rw [B57x]; exact ok
        · rw [B57x, ab_ups_ne (fun z => absurd z.1 (by decide)), e100, ab_ups_eq]
        · rw [B52x, ab_ups_eq]
        · rw [B52x] at hi2
          exact absurd hi2 (by omega)
      have hM3 : ab_okM md_M σ (ab_ups σ2 96 (5 + 19 * x) 0) := fw_okM_upa N2 (by decide)
      generalize ab_ups (ab_ups (ab_ups A 57 x w) 52 x 0) 49 11 ((x : Int) + 1) = A1 at h0 h1 hRT B52x
      refine tb_body hG hx9 hM3 hRT (fun n1 => ?_) (fun n1 σ' M' R' i' => ?_)
      · rw [if_pos n1] at h0
        exact h0 n1
      · rw [if_neg (fun y => y n1)] at h0 h1
        refine tm_loop hG hx9 9 σ' _ _ (by omega) (by omega) M' R' h0 (fun n2 σ3 M3 R3 => h1 n2 _ (fw_okM_upa M3 (by decide)) (RT_end hx9 R3))
  · rw [if_pos (show 9 ≤ A 49 11 by omega)] at h0
    refine ⟨4, rfl, by decide, mk.2.2.2.2, fun σ' hM h10 _ => fs_m_readTune_18 hG ⟨fw_01, h0 (by show (4 : Int) ≠ 0; decide) σ' (fw_okM_tr (fw_okM_refl _ _) hM (by decide)) ?_⟩⟩
    rw [h10, if_neg (show ¬ σ 93 7 = 1 by have := mk.1.mpr hk; omega)])
end
