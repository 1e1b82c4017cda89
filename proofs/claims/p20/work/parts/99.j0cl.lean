/-! the reference's lines: a clue -/
def cb_n (s : Int) : Nat := (s % 2 + s / 2 % 2 + s / 4 % 2 + s / 8 % 2 + s / 16 % 2 + s / 32 % 2 + s / 64 % 2 + s / 128 % 2 + s / 256 % 2).toNat
theorem cb_le (s : Int) : cb_n s ≤ 9 := by
  unfold cb_n
  omega
theorem cb_0 : cb_n 0 = 0 := by decide
theorem cb_st0 : ∀ s : Nat, s < 256 → ∀ x : Nat, x < 9 → (pr_hs (s : Int) (x : Int) = false → cb_n (pr_or (s : Int) (x : Int)) = cb_n (s : Int) + 1) ∧ 0 ≤ pr_or (s : Int) (x : Int) ∧ pr_or (s : Int) (x : Int) < 512 := by decide +kernel
theorem cb_st1 : ∀ s : Nat, s < 256 → ∀ x : Nat, x < 9 → (pr_hs ((s + 256 : Nat) : Int) (x : Int) = false → cb_n (pr_or ((s + 256 : Nat) : Int) (x : Int)) = cb_n ((s + 256 : Nat) : Int) + 1) ∧ 0 ≤ pr_or ((s + 256 : Nat) : Int) (x : Int) ∧ pr_or ((s + 256 : Nat) : Int) (x : Int) < 512 := by decide +kernel
theorem cb_st {s x : Int} (h1 : 0 ≤ s) (h2 : s < 512) (x1 : 0 ≤ x) (x2 : x < 9) : (pr_hs s x = false → cb_n (pr_or s x) = cb_n s + 1) ∧ 0 ≤ pr_or s x ∧ pr_or s x < 512 := by
  have ex : ((x.toNat : Nat) : Int) = x := by omega
  by_cases c : s < 256
  · have h := cb_st0 s.toNat (by omega) x.toNat (by omega)
    rw [ex, show ((s.toNat : Nat) : Int) = s by omega] at h
    exact h
  · have h := cb_st1 (s - 256).toNat (by omega) x.toNat (by omega)
    rw [ex, show (((s - 256).toNat + 256 : Nat) : Int) = s by omega] at h
    exact h
/-- the reference is at a clue's tunes -/
def RC (σ A : ab_SG) (x : Nat) (e : tk_E) (p : Nat) : Prop := mt_is σ e p ∧ RI A ∧ A 49 12 = (x : Int) + 1 ∧ (rn_n (A 49 11) (x : Int) σ A ∧ rs_n (A 49 11) (x : Int) σ A) ∧ rf_ok 7 (A 58 x) ∧ σ 100 (9 + x) = rf_w 7 (A 58 x) ∧ σ 96 (176 + x) = A 54 x ∧ 0 ≤ A 54 x ∧ A 54 x < 512
theorem RC_end {σ A : ab_SG} {x : Nat} {e : tk_E} {p : Nat} (hx : x < 6) (h : RC σ A x e p) : RM (ab_ups σ 96 1 ((x : Int) + 1)) A e p := by
  obtain ⟨hm, hi, ex, ⟨⟨c0, c1, c2, r57, r58, r59⟩, r1, r2, r3, r4, r5, r6, r7, r8, r9⟩, ok, hnm, hb, -⟩ := h
  have hi1 := hi.1
  have hi3 := hi.2.2.1
  have s96 : ∀ j : Nat, j ≠ 1 → ab_ups σ 96 1 ((x : Int) + 1) 96 j = σ 96 j := fun j hj => ab_ups_ne (fun z => hj z.2)
  have s100 : ab_ups σ 96 1 ((x : Int) + 1) 100 = σ 100 := ab_ups_row (by decide)
  refine ⟨mt_ups hm (Or.inl ⟨by decide, by decide⟩), hi, rn_n_is hi ⟨?_, ?_, ?_, rn_k_M r57 s100, ?_, rn_k_M r59 s100⟩, ?_, fun y hy => ?_, fun c hc => ?_, fun j hj => ?_, fun j hj => ?_, r6, fun j hj => ?_, ?_, ?_⟩
  · rw [s96 0 (by decide)]; exact c0
  · rw [ab_ups_eq, ex]
  · rw [s96 2 (by decide)]; exact c2
  · intro j hj
    rw [ex] at hj
    rw [s100]
    by_cases c : j = x
    · rw [c]; exact ⟨ok, hnm⟩
    · exact r58 j (by omega)
  · rw [s96 3 (by decide)]; exact r1
  · refine ⟨?_, fun i hi2 => ?_⟩
    · rw [s96 _ (by omega)]; exact (r2 y hy).1
    · rw [s96 _ (by omega), s96 _ (by omega)]; exact (r2 y hy).2 i hi2
  · rw [ex] at hc
    rw [s96 _ (by omega)]
    by_cases q : c = x
    · rw [q]; exact hb
    · exact r3 c (by omega)
  · rw [s96 _ (by omega)]; exact r4 j hj
  · rw [s96 _ (by omega)]; exact r5 j hj
  · rw [ab_ups_ne (fun z => absurd z.1 (by decide))]; exact r7 j hj
  · rw [ab_ups_ne (fun z => absurd z.1 (by decide))]; exact r8
  · rw [ab_ups_ne (fun z => absurd z.1 (by decide))]; exact r9
def sp_m_readClue : fw_SP := fun as σ K => ∃ (A : ab_SG) (e : tk_E) (p : Nat), as = [(2, 93, 0)] ∧ RM σ A e p ∧ (tk e p).1 = 2 ∧ md_post σ (pr_clue A e p) e K
abbrev fk_m_readClue : List fw_CR := [(168, 1, true, 11, 0, sp_m_bad), (182, 0, true, 11, 1, sp_m_go), (207, 1, true, 11, 3, sp_m_readNew), (213, 2, true, 11, 3, sp_m_isOne), (216, 2, false, 0, 0, sp_m_has)]
abbrev st_m_readClue : fw_K → fw_KR → fw_K := fw_st vwCl nn_sh nn_kd fw_kv fw_wc (nn_KI20.map (fun x => x.1)) (nn_KJ20.map (fun x => x.1)) (nn_PF20.map (fun x => x.1)) (nn_PS20.map (fun x => x.1)) fk_m_readClue 4 nn_dt228 2 1
theorem fs_m_readClue_0 {G : fw_K} {R : fw_KR} (hG : fw_cls st_m_readClue R G) {σ : ab_SG} (h : (0 ≤ fw_c 1 ∧ fw_c 1 < ((232 : Nat) : Int)) ∧ ((fw_c (σ 96 (fw_c 1).toNat) ≠ fw_c 6 → sp_m_go [(2, 93, 0)] σ (fun rv σ2 => G 23 [some (2, 93, 0), some (0, 0, σ 96 (fw_c 1).toNat)] (rv.toList ++ []) σ2)) ∧ (fw_c (σ 96 (fw_c 1).toNat) = fw_c 6 → sp_m_bad [(2, 93, 0), (0, 0, 4)] σ (fun rv σ2 => G 18 [some (2, 93, 0), some (0, 0, σ 96 (fw_c 1).toNat)] (rv.toList ++ []) σ2)))) : G 0 [some (2, 93, 0), none] [] σ := fw_on hG [18, 23, 31, 47, 68, 79, 101, 109, 133] 200 h
theorem fs_m_readClue_23 {G : fw_K} {R : fw_KR} (hG : fw_cls st_m_readClue R G) {a1 : Int} {σ : ab_SG} (h : sp_m_readNew [(2, 93, 0), (0, 0, 9 + a1)] σ (fun rv σ2 => G 31 [some (2, 93, 0), some (0, 0, a1)] (rv.toList ++ []) σ2)) : G 23 [some (2, 93, 0), some (0, 0, a1)] [] σ := fw_on hG [18, 23, 31, 47, 68, 79, 101, 109, 133] 200 h
theorem fs_m_readClue_18 {G : fw_K} {R : fw_KR} (hG : fw_cls st_m_readClue R G) {a1 b0 : Int} {σ : ab_SG} (h : (0 ≤ fw_c b0 ∧ fw_c b0 ≤ 1) ∧ R (some (0, 0, b0)) σ) : G 18 [some (2, 93, 0), some (0, 0, a1)] [(0, 0, b0)] σ := fw_on hG [18, 23, 31, 47, 68, 79, 101, 109, 133] 200 h
theorem fs_m_readClue_31 {G : fw_K} {R : fw_KR} (hG : fw_cls st_m_readClue R G) {a1 b0 : Int} {σ : ab_SG} (h : (fw_c b0 ≠ 0 → (0 ≤ fw_c (176 + a1) ∧ fw_c (176 + a1) < ((232 : Nat) : Int)) ∧ True ∧ (G 47 [some (2, 93, 0), some (0, 0, a1)] [] (ab_ups σ 96 (fw_c (176 + a1)).toNat (fw_c 0)))) ∧ (fw_c b0 = 0 → (0 ≤ fw_c 0 ∧ fw_c 0 ≤ 1) ∧ R (some (0, 0, 0)) σ)) : G 31 [some (2, 93, 0), some (0, 0, a1)] [(0, 0, b0)] σ := fw_on hG [18, 23, 31, 47, 68, 79, 101, 109, 133] 200 h
theorem fs_m_readClue_47 {G : fw_K} {R : fw_KR} (hG : fw_cls st_m_readClue R G) {a1 : Int} {σ : ab_SG} (h : (0 ≤ fw_c (176 + a1) ∧ fw_c (176 + a1) < ((232 : Nat) : Int)) ∧ ((fw_c (σ 96 (fw_c (176 + a1)).toNat) = 0 → G 68 [some (2, 93, 0), some (0, 0, a1)] [] σ) ∧ (fw_c (σ 96 (fw_c (176 + a1)).toNat) ≠ 0 → (fw_c (σ 93 7) ≠ fw_c 2 → (0 ≤ fw_c 1 ∧ fw_c 1 < ((232 : Nat) : Int)) ∧ ((0 ≤ fw_c 1 ∧ fw_c 1 < ((232 : Nat) : Int)) ∧ True ∧ ((0 ≤ fw_c 1 ∧ fw_c 1 ≤ 1) ∧ R (some (0, 0, 1)) (ab_ups σ 96 (fw_c 1).toNat (fw_c ((σ 96 (fw_c 1).toNat) + 1)))))) ∧ (fw_c (σ 93 7) = fw_c 2 → G 68 [some (2, 93, 0), some (0, 0, a1)] [] σ)))) : G 47 [some (2, 93, 0), some (0, 0, a1)] [] σ := fw_on hG [18, 23, 31, 47, 68, 79, 101, 109, 133] 200 h
theorem fs_m_readClue_68 {G : fw_K} {R : fw_KR} (hG : fw_cls st_m_readClue R G) {a1 : Int} {σ : ab_SG} (h : (0 ≤ fw_c 0 ∧ fw_c 0 < ((232 : Nat) : Int)) ∧ (sp_m_isOne [(2, 93, 0), (0, 0, 0), (0, 0, σ 96 (fw_c 0).toNat)] σ (fun rv σ2 => G 79 [some (2, 93, 0), some (0, 0, a1)] (rv.toList ++ []) σ2))) : G 68 [some (2, 93, 0), some (0, 0, a1)] [] σ := fw_on hG [18, 23, 31, 47, 68, 79, 101, 109, 133] 200 h
theorem fs_m_readClue_79 {G : fw_K} {R : fw_KR} (hG : fw_cls st_m_readClue R G) {a1 b0 : Int} {σ : ab_SG} (h : (fw_c b0 ≠ 0 → (0 ≤ fw_c (176 + a1) ∧ fw_c (176 + a1) < ((232 : Nat) : Int)) ∧ (sp_m_has [(0, 0, σ 96 (fw_c (176 + a1)).toNat), (0, 0, σ 93 13)] σ (fun rv σ2 => G 101 [some (2, 93, 0), some (0, 0, a1)] (rv.toList ++ []) σ2))) ∧ (fw_c b0 = 0 → (0 ≤ fw_c 0 ∧ fw_c 0 ≤ 1) ∧ R (some (0, 0, 0)) σ)) : G 79 [some (2, 93, 0), some (0, 0, a1)] [(0, 0, b0)] σ := fw_on hG [18, 23, 31, 47, 68, 79, 101, 109, 133] 200 h
theorem fs_m_readClue_101 {G : fw_K} {R : fw_KR} (hG : fw_cls st_m_readClue R G) {a1 b0 : Int} {σ : ab_SG} (h : (fw_c b0 = 0 → (0 ≤ fw_c (176 + a1) ∧ fw_c (176 + a1) < ((232 : Nat) : Int)) ∧ ((0 ≤ fw_c (176 + a1) ∧ fw_c (176 + a1) < ((232 : Nat) : Int)) ∧ True ∧ (sp_m_go [(2, 93, 0)] (ab_ups σ 96 (fw_c (176 + a1)).toNat (fw_c (fw_op 9 (σ 96 (fw_c (176 + a1)).toNat) (fw_op 5 1 (σ 93 13))))) (fun rv σ2 => G 133 [some (2, 93, 0), some (0, 0, a1)] (rv.toList ++ []) σ2)))) ∧ (fw_c b0 ≠ 0 → sp_m_bad [(2, 93, 0), (0, 0, 3)] σ (fun rv σ2 => G 109 [some (2, 93, 0), some (0, 0, a1)] (rv.toList ++ []) σ2))) : G 101 [some (2, 93, 0), some (0, 0, a1)] [(0, 0, b0)] σ := fw_on hG [18, 23, 31, 47, 68, 79, 101, 109, 133] 200 h
theorem fs_m_readClue_133 {G : fw_K} {R : fw_KR} (hG : fw_cls st_m_readClue R G) {a1 : Int} {σ : ab_SG} (h : G 47 [some (2, 93, 0), some (0, 0, a1)] [] σ) : G 133 [some (2, 93, 0), some (0, 0, a1)] [] σ := fw_on hG [18, 23, 31, 47, 68, 79, 101, 109, 133] 200 h
theorem fs_m_readClue_109 {G : fw_K} {R : fw_KR} (hG : fw_cls st_m_readClue R G) {a1 b0 : Int} {σ : ab_SG} (h : (0 ≤ fw_c b0 ∧ fw_c b0 ≤ 1) ∧ R (some (0, 0, b0)) σ) : G 109 [some (2, 93, 0), some (0, 0, a1)] [(0, 0, b0)] σ := fw_on hG [18, 23, 31, 47, 68, 79, 101, 109, 133] 200 h
theorem cl_body {G : fw_K} {K : fw_KR} (hG : fw_cls st_m_readClue K G) {x : Nat} (hx : x < 6) {σ0 σ A : ab_SG} {e : tk_E} {p : Nat} (hM : ab_okM md_M σ0 σ) (h : RC σ A x e p) (h0 : (pr_left A e x p).1 ≠ 0 → md_no σ0 (pr_left A e x p).1 K)
    (h1 : (pr_left A e x p).1 = 0 → ∀ σ' : ab_SG, ab_okM md_M σ0 σ' → RC σ' (pr_left A e x p).2.1 x e (pr_left A e x p).2.2 → cb_n ((pr_left A e x p).2.1 54 x) = cb_n (A 54 x) + 1 → G 47 [some (2, 93, 0), some (0, 0, (x : Int))] [] σ') :
    G 68 [some (2, 93, 0), some (0, 0, (x : Int))] [] σ := by
  obtain ⟨hm, hi, ex, hrr, ok, hnm, hb, hs1, hs2⟩ := h
  have mk := mg_kind hm.1
  have hi1 := hi.1
  have t0 : (fw_c 0).toNat = 0 := by rw [fw_c0]; rfl
  have u0 : 0 ≤ fw_c 0 ∧ fw_c 0 < ((232 : Nat) : Int) := by rw [fw_c0]; decide
  have ea : fw_c (176 + (x : Int)) = ((176 + x : Nat) : Int) := by rw [fw_c_id (by omega) (by omega)]; omega
  unfold pr_left at h0 h1
  rw [Int.toNat_natCast] at h0 h1
  refine fs_m_readClue_68 hG ⟨u0, ?_⟩
  rw [t0, hrr.1.1]
  refine ⟨0, 57, A 49 11, A, e, p, rfl, ⟨hi1.1, hi1.2, by omega⟩, hm, hrr.1.2.2.2.1, fun q σ' M2 h10 => ?_, fun q q0 q1 => ?_⟩
  · rw [if_pos q] at h0
    exact fs_m_readClue_79 hG ⟨fun z => absurd fw_c0 z, fun _ => ⟨fw_01, h0 q σ' (fw_okM_tr hM M2 (by decide)) h10⟩⟩
  rw [if_neg (fun y => y q)] at h0 h1
  have kq := pr_sk_k q
  generalize pr_ix A e 57 (A 49 11) p = u at h0 h1 q0 q1 ⊢
  have S1 : mt_is (ab_ups σ 93 13 u) e p := mt_ups hm (Or.inr ⟨rfl, by decide⟩)
  have M1 : ab_okM md_M σ0 (ab_ups σ 93 13 u) := fw_okM_ups hM (by decide)
  have v13 : ab_ups σ 93 13 u 93 13 = u := ab_ups_eq
  have k7 : ab_ups σ 93 13 u 93 7 = σ 93 7 := ab_ups_ne (by decide)
  have k25 : ab_ups σ 93 13 u 93 25 = σ 93 25 := ab_ups_ne (by decide)
  have k26 : ab_ups σ 93 13 u 93 26 = σ 93 26 := ab_ups_ne (by decide)
  have o96 : ab_ups σ 93 13 u 96 = σ 96 := ab_ups_row (by decide)
  have o100 : ab_ups σ 93 13 u 100 = σ 100 := ab_ups_row (by decide)
  have o103 : ab_ups σ 93 13 u 103 = σ 103 := ab_ups_row (by decide)
  generalize ab_ups σ 93 13 u = σ1 at S1 M1 v13 k7 k25 k26 o96 o100 o103 ⊢
  have b1 : σ1 96 (176 + x) = A 54 x := by rw [o96, hb]
  refine fs_m_readClue_79 hG ⟨fun _ => ?_, fun z => absurd (fw_c1.symm.trans z) (by decide)⟩
  rw [ea, Int.toNat_natCast, b1, v13]
  refine ⟨⟨Int.natCast_nonneg _, by omega⟩, A 54 x, u, rfl, fs_m_readClue_101 hG ⟨fun z => ?_, fun z => ?_⟩⟩
  · have hf : pr_hs (A 54 x) u = false := bl_f (fw_bo_eq z)
    rw [hf, if_neg (show ¬ (false = true) by decide)] at h0 h1
    have hcb := cb_st hs1 hs2 q0 (by omega)
    rw [ea, Int.toNat_natCast, b1, v13]
    refine ⟨⟨Int.natCast_nonneg _, by omega⟩, ⟨Int.natCast_nonneg _, by omega⟩, trivial, ?_⟩
    show sp_m_go [(2, 93, 0)] (ab_ups σ1 96 (176 + x) (pr_or (A 54 x) u)) _
    have hc1 := hcb.1 hf
    have h1 := h1 rfl
    dsimp only at h1
    generalize pr_or (A 54 x) u = w at h1 hcb hc1 ⊢
    refine mt_go (mt_ups S1 (Or.inl ⟨by decide, by decide⟩)) (fun σ2 M2 S2 => fs_m_readClue_133 hG ?_)
    have M4 : ab_okM md_M σ0 σ2 := fw_okM_tr (fw_okM_upa M1 (by decide)) M2 (by decide)
    have e96 : σ2 96 = ab_ups σ1 96 (176 + x) w 96 := fw_okM_c M2 (by decide)
    have e100 : σ2 100 = σ 100 := (fw_okM_c M2 (by decide)).trans ((ab_ups_row (by decide)).trans o100)
    have e103 : σ2 103 = σ 103 := (fw_okM_c M2 (by decide)).trans ((ab_ups_row (by decide)).trans o103)
    have e25 : σ2 93 25 = σ 93 25 := (M2 93 25 (by decide)).trans ((ab_ups_ne (fun z => absurd z.1 (by decide))).trans k25)
    have e26 : σ2 93 26 = σ 93 26 := (M2 93 26 (by decide)).trans ((ab_ups_ne (fun z => absurd z.1 (by decide))).trans k26)
    have B : ∀ k j : Nat, k ≠ 54 → ab_ups A 54 x w k j = A k j := fun k j q1 => ab_ups_ne (fun z => q1 z.1)
    have B54 : ∀ j : Nat, j ≠ x → ab_ups A 54 x w 54 j = A 54 j := fun j q => ab_ups_ne (fun z => q z.2)
    have B54x : ab_ups A 54 x w 54 x = w := ab_ups_eq
    have j11 : ab_ups A 54 x w 49 11 = A 49 11 := B 49 11 (by decide)
    refine h1 σ2 M4 ⟨S2, hi, ex, ?_, ok, ?_, ?_, ?_, ?_⟩ ?_
    · refine rm_cong (u := 176 + x) (v := 177 + x) (w := 9 + x) hi.1 (by omega) hi.2.2.1 hi.2.2.2.2.2.2.1 (by omega) (by omega) (by omega) (by omega) (fun j hj => ?_) (fun j _ => by rw [e100]) e103 e25 e26 (fun k j p1 p2 p3 p4 => ?_) hrr
      · rw [e96, ab_ups_ne (fun z => by omega), o96]
      · by_cases c54 : k = 54
        · subst c54
          exact B54 j (by have := p4 (Or.inl rfl); omega)
        exact B k j c54
    · rw [B 58 x (by decide), e100]; exact hnm
    · rw [B54x, e96, ab_ups_eq]
    · rw [B54x]; exact hcb.2.1
    · rw [B54x]; exact hcb.2.2
    · rw [B54x]; exact hc1
  · have hp : pr_hs (A 54 x) u = true := fw_bo_ne z
    rw [hp, if_pos rfl] at h0
    refine ⟨3, rfl, by decide, by rw [k7]; exact mk.2.2.2.2, fun σ' M2 h10 _ => fs_m_readClue_109 hG ⟨fw_01, h0 (by show (3 : Int) ≠ 0; decide) σ' (fw_okM_tr M1 M2 (by decide)) ?_⟩⟩
    rw [h10, k7, if_neg (show ¬ σ 93 7 = 1 by have := mk.1.mpr kq; omega)]
theorem cm_loop {G : fw_K} {K : fw_KR} (hG : fw_cls st_m_readClue K G) {x : Nat} (hx : x < 6) {σ0 : ab_SG} {e : tk_E} : ∀ (f : Nat) (σ A : ab_SG) (p : Nat), cb_n (A 54 x) + f = 10 → 1 ≤ cb_n (A 54 x) → ab_okM md_M σ0 σ → RC σ A x e p → ((pr_lefts e x f A p).1 ≠ 0 → md_no σ0 (pr_lefts e x f A p).1 K) →
    ((pr_lefts e x f A p).1 = 0 → ∀ σ' : ab_SG, ab_okM md_M σ0 σ' → RC σ' (pr_lefts e x f A p).2.1 x e (pr_lefts e x f A p).2.2 → K (some (0, 0, 1)) (ab_ups σ' 96 1 ((x : Int) + 1))) → G 47 [some (2, 93, 0), some (0, 0, (x : Int))] [] σ := by
  have t1 : (fw_c 1).toNat = 1 := by rw [fw_c1]; rfl
  have u1 : 0 ≤ fw_c 1 ∧ fw_c 1 < ((232 : Nat) : Int) := by rw [fw_c1]; decide
  have z2 : fw_c 2 = 2 := fw_c_id (by decide) (by decide)
  have ea : fw_c (176 + (x : Int)) = ((176 + x : Nat) : Int) := by rw [fw_c_id (by omega) (by omega)]; omega
  have ex1 : fw_c ((x : Int) + 1) = (x : Int) + 1 := fw_c_id (by omega) (by omega)
  intro f
  induction f with
  | zero =>
    intro σ A p hf _ _ _ _ _
    have := cb_le (A 54 x)
    exact absurd hf (by omega)
  | succ f ih =>
    intro σ A p hf hA hM h h0 h1
    have mk := mg_kind h.1.1
    have hs1 : 0 ≤ A 54 x := h.2.2.2.2.2.2.2.1
    have hs2 : A 54 x < 512 := h.2.2.2.2.2.2.2.2
    have hb : σ 96 (176 + x) = A 54 x := h.2.2.2.2.2.2.1
    have c1 : σ 96 1 = (x : Int) := h.2.2.2.1.1.2.1
    have ec : fw_c (A 54 x) = A 54 x := fw_c_id (by omega) (by omega)
    have e7 : fw_c (σ 93 7) = σ 93 7 := fw_c_id (by omega) (by omega)
    have hne : A 54 x ≠ 0 := fun z => by rw [z, cb_0] at hA; exact absurd hA (by decide)
    unfold pr_lefts at h0 h1
    refine fs_m_readClue_47 hG ?_
    rw [ea, Int.toNat_natCast, hb, ec, e7, z2]
    refine ⟨⟨Int.natCast_nonneg _, by omega⟩, fun q => absurd q hne, fun _ => ⟨fun q => ?_, fun q => ?_⟩⟩
    · rw [if_pos (fun y => q (mk.1.mpr y))] at h1
      rw [t1, c1, ex1]
      exact ⟨u1, u1, trivial, fw_11, h1 rfl σ hM h⟩
    · rw [if_neg (fun y => y (mk.1.mp q))] at h0 h1
      refine cl_body hG hx hM h (fun n0 => ?_) (fun n0 σ' M' R' i' => ?_)
      · rw [if_pos n0] at h0
        exact h0 n0
      · rw [if_neg (fun y => y n0)] at h0 h1
        exact ih σ' _ _ (by omega) (by omega) M' R' h0 h1
section
variable {l : Launch} {cy : Nat → ClassId} {ad wr cr : Nat → Nat} {D : va_G}
theorem fm_m_readClue (hinj : nn_inj ad) : fw_H l cy ad wr cr D 228 4 sp_m_readClue := fw_mk hinj (⟨"NameNotesModel", "readClue", "()Z"⟩, prog_14_method_33_code, 2, (Option.some Jvm.ClassFile.FieldType.boolean), 0, true, 1) rfl rfl nn_KI20_ok nn_KJ20_ok nn_PF20_ok nn_PS20_ok (by decide +kernel) rfl rfl (List.forall_mem_cons.mpr ⟨fw_row nn_PM20_ok (x := 168) (k := 0) (mn := 221) (np := 1) (ob := true) (ci := 11) (⟨"NameNotesModel", "bad", "(I)Z"⟩, prog_14_method_23_code, 2, (Option.some Jvm.ClassFile.FieldType.boolean), 1, true, 1) rfl (by decide +kernel) rfl rfl (by decide) (fun _ => ⟨_, _, rfl⟩) (fm_m_bad hinj), (List.forall_mem_cons.mpr ⟨fw_row nn_PM20_ok (x := 182) (k := 0) (mn := 212) (np := 0) (ob := true) (ci := 11) (⟨"NameNotesModel", "go", "()V"⟩, prog_14_method_17_code, 5, (Option.none : Option Jvm.ClassFile.FieldType), 0, true, 4) rfl (by decide +kernel) rfl rfl (by decide) (fun _ => ⟨_, _, rfl⟩) (fm_m_go hinj), (List.forall_mem_cons.mpr ⟨fw_row nn_PM20_ok (x := 207) (k := 0) (mn := 222) (np := 1) (ob := true) (ci := 11) (⟨"NameNotesModel", "readNew", "(I)Z"⟩, prog_14_method_30_code, 3, (Option.some Jvm.ClassFile.FieldType.boolean), 1, true, 1) rfl (by decide +kernel) rfl rfl (by decide) (fun _ => ⟨_, _, rfl⟩) (fm_m_readNew hinj), (List.forall_mem_cons.mpr ⟨fw_row nn_PM20_ok (x := 213) (k := 0) (mn := 229) (np := 2) (ob := true) (ci := 11) (⟨"NameNotesModel", "isOne", "(II)Z"⟩, prog_14_method_31_code, 3, (Option.some Jvm.ClassFile.FieldType.boolean), 2, true, 1) rfl (by decide +kernel) rfl rfl (by decide) (fun _ => ⟨_, _, rfl⟩) (fm_m_isOne hinj), (List.forall_mem_cons.mpr ⟨fw_row nn_PM20_ok (x := 216) (k := 0) (mn := 230) (np := 2) (ob := false) (ci := 0) (⟨"NameNotesModel", "has", "(II)Z"⟩, prog_14_method_9_code, 2, (Option.some Jvm.ClassFile.FieldType.boolean), 2, false, 1) rfl (by decide +kernel) rfl rfl (by decide) (fun q => by cases q) (fm_m_has hinj), (fun _ h => absurd h List.not_mem_nil)⟩)⟩)⟩)⟩)⟩) (fun as σ K h => by
  obtain ⟨A, e, p, rfl, ⟨hm, hi, hr⟩, hk, h0, h1⟩ := h
  have mk := mg_kind hm.1
  have t1 : (fw_c 1).toNat = 1 := by rw [fw_c1]; rfl
  have u1 : 0 ≤ fw_c 1 ∧ fw_c 1 < ((232 : Nat) : Int) := by rw [fw_c1]; decide
  have z6 : fw_c 6 = 6 := fw_c_id (by decide) (by decide)
  have h12 := hr.1.2.1
  have c12 : fw_c (A 49 12) = A 49 12 := fw_c_id (by omega) (by omega)
  unfold pr_clue at h0 h1
  refine ⟨rfl, fun G hG => fs_m_readClue_0 hG ⟨u1, ?_⟩⟩
  rw [t1, h12.1, c12, z6]
  refine ⟨fun q => ?_, fun q => ?_⟩
  · rw [if_neg (show ¬ 6 ≤ A 49 12 by omega)] at h0 h1
    refine mt_go hm (fun σ1 M1 S1 => fs_m_readClue_23 hG ?_)
    have hr1 := rs_M hr (fw_okM_tr (fw_okM_refl _ _) M1 (by decide))
    obtain ⟨x, hx⟩ : ∃ x : Nat, A 49 12 = (x : Int) := ⟨(A 49 12).toNat, by omega⟩
    have hx9 : x < 6 := by omega
    rw [hx] at h0 h1 ⊢
    rw [Int.toNat_natCast] at h0 h1
    refine ⟨9 + x, A, e, tn e p, by rw [show (((9 + x : Nat) : Int)) = 9 + (x : Int) by omega], by omega, S1, hr1.1, fun n0 σ' M2 h10 => ?_, fun n0 k2 ok σ2 M2 S2 => ?_⟩
    · rw [if_pos n0] at h0
      exact fs_m_readClue_31 hG ⟨fun z => absurd fw_c0 z, fun _ => ⟨fw_01, h0 n0 σ' (fw_okM_tr (fw_okM_tr (fw_okM_refl _ _) M1 (by decide)) M2 (by decide)) h10⟩⟩
    · rw [if_neg (fun y => y n0)] at h0 h1
      dsimp only at h0 h1
      have bw := rf_ok_in 7 _ ok
      rw [rf_C7] at bw
      have dw : fw_d (pr_wd e (tn e p)) = pr_wd e (tn e p) := fw_d_id (by omega) (by omega)
      generalize pr_wd e (tn e p) = w at h0 h1 ok dw M2
      have ea : fw_c (176 + (x : Int)) = ((176 + x : Nat) : Int) := by rw [fw_c_id (by omega) (by omega)]; omega
      have N2 : ab_okM md_M σ σ2 := fw_okM_tr (fw_okM_upa (fw_okM_tr (fw_okM_refl _ _) M1 (by decide)) (by decide)) M2 (by decide)
      have N1 : ab_okM ((93, 13) :: go_M) σ σ1 := fw_okM_tr (fw_okM_refl _ _) M1 (by decide)
      have e96 : σ2 96 = σ 96 := (fw_okM_c M2 (by decide)).trans ((ab_ups_row (by decide)).trans (fw_okM_c N1 (by decide)))
      have e103 : σ2 103 = σ 103 := (fw_okM_c M2 (by decide)).trans ((ab_ups_row (by decide)).trans (fw_okM_c N1 (by decide)))
      have e25 : σ2 93 25 = σ 93 25 := (M2 93 25 (by decide)).trans ((ab_ups_ne (fun z => absurd z.1 (by decide))).trans (N1 93 25 (by decide)))
      have e26 : σ2 93 26 = σ 93 26 := (M2 93 26 (by decide)).trans ((ab_ups_ne (fun z => absurd z.1 (by decide))).trans (N1 93 26 (by decide)))
      have e100 : σ2 100 = ab_ups σ1 100 (9 + x) (rf_w 7 w) 100 := fw_okM_c M2 (by decide)
      have o100 : σ1 100 = σ 100 := fw_okM_c N1 (by decide)
      refine fs_m_readClue_31 hG ⟨fun _ => ?_, fun z => absurd (fw_c1.symm.trans z) (by decide)⟩
      rw [ea, Int.toNat_natCast, fw_c0]
      refine ⟨⟨Int.natCast_nonneg _, by omega⟩, trivial, fs_m_readClue_47 hG ?_⟩
      rw [ea, Int.toNat_natCast, ab_ups_eq]
      refine ⟨⟨Int.natCast_nonneg _, by omega⟩, fun _ => ?_, fun z => absurd fw_c0 z⟩
      have B : ∀ k j : Nat, k ≠ 58 → k ≠ 54 → (k = 49 → j ≠ 12) → ab_ups (ab_ups (ab_ups A 58 x w) 54 x 0) 49 12 ((x : Int) + 1) k j = A k j := fun k j q1 q2 q3 => by rw [ab_ups_ne (fun z => q3 z.1 z.2), ab_ups_ne (fun z => q2 z.1), ab_ups_ne (fun z => q1 z.1)]
      have B58 : ∀ j : Nat, j ≠ x → ab_ups (ab_ups (ab_ups A 58 x w) 54 x 0) 49 12 ((x : Int) + 1) 58 j = A 58 j := fun j q => by rw [ab_ups_ne (fun z => absurd z.1 (by decide)), ab_ups_ne (fun z => absurd z.1 (by decide)), ab_ups_ne (fun z => q z.2)]
      have B58x : ab_ups (ab_ups (ab_ups A 58 x w) 54 x 0) 49 12 ((x : Int) + 1) 58 x = w := by rw [ab_ups_ne (fun z => absurd z.1 (by decide)), ab_ups_ne (fun z => absurd z.1 (by decide)), ab_ups_eq]
      have B54 : ∀ j : Nat, j ≠ x → ab_ups (ab_ups (ab_ups A 58 x w) 54 x 0) 49 12 ((x : Int) + 1) 54 j = A 54 j := fun j q => by rw [ab_ups_ne (fun z => absurd z.1 (by decide)), ab_ups_ne (fun z => q z.2), ab_ups_ne (fun z => absurd z.1 (by decide))]
      have B54x : ab_ups (ab_ups (ab_ups A 58 x w) 54 x 0) 49 12 ((x : Int) + 1) 54 x = 0 := by rw [ab_ups_ne (fun z => absurd z.1 (by decide)), ab_ups_eq]
      have B12 : ab_ups (ab_ups (ab_ups A 58 x w) 54 x 0) 49 12 ((x : Int) + 1) 49 12 = (x : Int) + 1 := ab_ups_eq
      have hrr := And.intro (rn_n_of hr.1) (rs_n_of hr.2)
      rw [hx] at hrr
      have hRC : RC (ab_ups σ2 96 (176 + x) 0) (ab_ups (ab_ups (ab_ups A 58 x w) 54 x 0) 49 12 ((x : Int) + 1)) x e (tn e (tn e p)) := by
        refine ⟨mt_ups S2 (Or.inl ⟨by decide, by decide⟩), ?_, B12, ?_, ?_, ?_, ?_, ?_, ?_⟩
        · refine ⟨hi.1, by rw [B12]; omega, hi.2.2.1, hi.2.2.2.1, fun j hj => ?_, hi.2.2.2.2.2.1, hi.2.2.2.2.2.2.1, hi.2.2.2.2.2.2.2⟩
          by_cases c : j = x
          · rw [c, B58x]; exact dw
          · rw [B58 j c]; exact hi.2.2.2.2.1 j hj
        · rw [B 49 11 (by decide) (by decide) (fun _ => by decide)]
          refine rm_cong (u := 176 + x) (v := 177 + x) (w := 9 + x) hi.1 (by omega) hi.2.2.1 hi.2.2.2.2.2.2.1 (by have := hi.1; omega) (by omega) (by omega) (by have := hi.1; omega) (fun j hj => ?_) (fun j hj => ?_) ?_ ?_ ?_ (fun k j q1 q2 q3 q4 => ?_) hrr
          · rw [ab_ups_ne (fun z => by omega), e96]
          · rw [ab_ups_ne (fun z => absurd z.1 (by decide)), e100, ab_ups_ne (fun z => hj z.2), o100]
          · rw [ab_ups_row (by decide), e103]
          · rw [ab_ups_ne (fun z => absurd z.1 (by decide)), e25]
          · rw [ab_ups_ne (fun z => absurd z.1 (by decide)), e26]
          · by_cases c58 : k = 58
            · subst c58
              exact B58 j (by have := q4 (Or.inr rfl); omega)
            by_cases c54 : k = 54
            · subst c54
              exact B54 j (by have := q4 (Or.inl rfl); omega)
            exact B k j c58 c54 (fun z => (q1 z).2)
        · rw [B58x]; exact ok
        · rw [B58x, ab_ups_ne (fun z => absurd z.1 (by decide)), e100, ab_ups_eq]
        · rw [B54x, ab_ups_eq]
        · rw [B54x]; decide
        · rw [B54x]; decide
      have hM3 : ab_okM md_M σ (ab_ups σ2 96 (176 + x) 0) := fw_okM_upa N2 (by decide)
      generalize ab_ups (ab_ups (ab_ups A 58 x w) 54 x 0) 49 12 ((x : Int) + 1) = A1 at h0 h1 hRC B54x
      have cb0 : cb_n (A1 54 x) = 0 := by rw [B54x, cb_0]
      refine cl_body hG hx9 hM3 hRC (fun n1 => ?_) (fun n1 σ' M' R' i' => ?_)
      · rw [if_pos n1] at h0
        exact h0 n1
      · rw [if_neg (fun y => y n1)] at h0 h1
        refine cm_loop hG hx9 9 σ' _ _ (by omega) (by omega) M' R' h0 (fun n2 σ3 M3 R3 => h1 n2 _ (fw_okM_upa M3 (by decide)) (RC_end hx9 R3))
  · rw [if_pos (show 6 ≤ A 49 12 by omega)] at h0
    refine ⟨4, rfl, by decide, mk.2.2.2.2, fun σ' hM h10 _ => fs_m_readClue_18 hG ⟨fw_01, h0 (by show (4 : Int) ≠ 0; decide) σ' (fw_okM_tr (fw_okM_refl _ _) hM (by decide)) ?_⟩⟩
    rw [h10, if_neg (show ¬ σ 93 7 = 1 by have := mk.1.mpr hk; omega)])
end
