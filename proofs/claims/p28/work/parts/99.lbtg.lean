section
/-! the reference's replies: values in row 110, moves in row 112 -/
def dz_B : ab_ML := [(110, 1000000), (112, 1000000)]
def dz_M : ab_ML := [(106, 1000000), (107, 1000000), (108, 1000000), (110, 1000000), (112, 1000000)]
def dz_N : ab_ML := [(93, 0), (106, 1000000), (107, 1000000), (108, 1000000), (110, 1000000), (112, 1000000)]
theorem dz_93 (σ : ab_SG) : ab_okM dz_N σ (ab_ups σ 93 0 0) := fun a b q => ab_ups_ne (fun z => q (93, 0) (by decide) ⟨z.1.symm, Or.inl z.2.symm⟩)
def dz_A (S : Nat → Prop) (τ : ab_SG) (st : (Nat → Int) × (Nat → Int)) : Prop := ∀ i : Nat, S i → τ 110 i = 2520 * st.1 i ∧ τ 112 i = st.2 i
theorem dz_k {k : Nat} (hk : k ≠ 110 ∧ k ≠ 112) {σ τ : ab_SG} (h : ab_okM dz_B σ τ) (j : Nat) : τ k j = σ k j := h k j (fun q hq hh => by
  have : ∀ q ∈ dz_B, q.1 = 110 ∨ q.1 = 112 := by decide
  rcases this q hq with e | e
  · exact hk.1 (hh.1.symm.trans e)
  · exact hk.2 (hh.1.symm.trans e))
theorem dz_da {σ A : ab_SG} (h : NM σ A) {q : Nat} (hq : (q : Int) < A 49 13) : σ 95 (227 + q) = A 56 q := by
  have n := N_n h.1
  have a := h.2.2.2.2.2.2.2.2.2.1 q hq
  rw [mlN_j (by omega)] at a
  exact a
theorem dr_rz {C V : Nat → Int} {C' F' : Nat → Int} {kd : Int} {n m : Nat} (hn : n < 10) (hm : m < 10) (hz : n = 0 → 1 ≤ m) (hC : dl_C C) (hV : ∀ i : Nat, 0 ≤ V i ∧ V i ≤ 976299632280) (hF : ∀ b : Nat, 1 ≤ b → b ≤ m → F' b = 2520 * dr_g C V kd b) (h8 : n ≠ 0 → C' (10 + n) = 2520 * C (10 + n)) : dr_s F' m (dl_st 2460275073345600 C' 10 n, 0) = (2520 * (dr_r C V kd n m).1, (dr_r C V kd n m).2) := by
  unfold dr_r dl_st
  by_cases c : n = 0
  · rw [if_pos c, if_pos c]
    obtain ⟨m, rfl⟩ : ∃ k : Nat, m = k + 1 := ⟨m - 1, by have := hz c; omega⟩
    have e := hF (m + 1) (by omega) (by omega)
    have e2 := dr_gb (kd := kd) hC hV (b := m + 1) (by omega) hm
    rw [dr_ss, dr_ss, if_pos (show (-1 : Int) < F' (m + 1) by omega), if_pos (show (-1 : Int) < dr_g C V kd (m + 1) by omega), e]
    exact dr_sz m _ _ (fun b h1 h2 => hF b h1 (by omega))
  · rw [if_neg c, if_neg c, h8 c, show 2460275073345600 - 2520 * C (10 + n) = 2520 * (976299632280 - C (10 + n)) by omega]
    exact dr_sz m _ _ hF
def sp_m_bidGains : fw_SP := fun as σ K => ∃ (A : ab_SG) (b q : Nat) (C V : Nat → Int), as = [(2, 93, 0), (0, 0, (b : Int)), (0, 0, (q : Int))] ∧ NM σ A ∧ (1 ≤ b ∧ b < 10) ∧ (q : Int) < A 49 13 ∧ dl_C C ∧ (∀ i : Nat, i < 20 → 1 ≤ i % 10 → σ 108 i = 2520 * C i) ∧ (∀ j : Nat, 1 ≤ j → j < b → σ 110 j = 2520 * V j) ∧ K (some (1, 0, 2520 * dr_g C V (A 56 q) b)) σ
def sp_m_layReplies : fw_SP := fun as σ K => ∃ (A : ab_SG) (p q c : Int), as = [(2, 93, 0), (0, 0, p), (0, 0, q), (0, 0, c)] ∧ NM σ A ∧ σ 95 3 = A 49 14 ∧ v_bd A p q 0 c ∧ ∀ σ' : ab_SG, ab_okM dz_M σ σ' → (∀ i : Nat, i < 10 → σ' 110 i = 2520 * (v_dr A p q c).1 i ∧ σ' 112 i = (v_dr A p q c).2 i) → K none σ'
def sp_m_reply : fw_SP := fun as σ K => ∃ (A : ab_SG) (p q n c : Int), as = [(2, 93, 0), (0, 0, p), (0, 0, q), (0, 0, n), (0, 0, c)] ∧ (fw_c p = p ∧ fw_c q = q ∧ fw_c n = n ∧ fw_c c = c) ∧ NM σ A ∧ (0 < A 49 13 → σ 95 3 = A 49 14) ∧ ∀ σ' : ab_SG, ab_okM dz_N σ σ' → K (some (0, 0, v_reply A p q n c)) σ'
abbrev fk_m_bidGains : List fw_CR := [(362, 2, false, 0, 0, sp_m_isNines)]
abbrev st_m_bidGains : fw_K → fw_KR → fw_K := fw_st vwCl nn_sh nn_kd fw_kv fw_wc (nn_KI20.map (fun x => x.1)) (nn_KJ20.map (fun x => x.1)) (nn_PF20.map (fun x => x.1)) (nn_PS20.map (fun x => x.1)) fk_m_bidGains 1 nn_dt302 3 2
theorem fs_m_bidGains_0 {G : fw_K} {R : fw_KR} (hG : fw_cls st_m_bidGains R G) {a b : Int} {σ : ab_SG} (h : (fw_c a = fw_c 1 → G 32 [some (2, 93, 0), some (0, 0, a), some (0, 0, b)] [] σ) ∧ (fw_c a ≠ fw_c 1 → (0 ≤ fw_c ((10 + a) - 1) ∧ fw_c ((10 + a) - 1) < ((20 : Nat) : Int)) ∧ ((0 ≤ fw_c (227 + b) ∧ fw_c (227 + b) < ((474 : Nat) : Int)) ∧ (sp_m_isNines [(1, 0, σ 108 (fw_c ((10 + a) - 1)).toNat), (0, 0, σ 95 (fw_c (227 + b)).toNat)] σ (fun rv σ2 => G 29 [some (2, 93, 0), some (0, 0, a), some (0, 0, b)] (rv.toList ++ []) σ2))))) : G 0 [some (2, 93, 0), some (0, 0, a), some (0, 0, b)] [] σ := fw_on hG [29, 32] 200 h
theorem fs_m_bidGains_32 {G : fw_K} {R : fw_KR} (hG : fw_cls st_m_bidGains R G) {a1 a2 : Int} {σ : ab_SG} (h : (0 ≤ fw_c a1 ∧ fw_c a1 < ((20 : Nat) : Int)) ∧ (R (some (1, 0, σ 108 (fw_c a1).toNat)) σ)) : G 32 [some (2, 93, 0), some (0, 0, a1), some (0, 0, a2)] [] σ := fw_on hG [29, 32] 200 h
theorem fs_m_bidGains_29 {G : fw_K} {R : fw_KR} (hG : fw_cls st_m_bidGains R G) {a1 a2 b0 : Int} {σ : ab_SG} (h : (fw_c b0 ≠ 0 → (0 ≤ fw_c (a1 - 1) ∧ fw_c (a1 - 1) < ((10 : Nat) : Int)) ∧ (R (some (1, 0, σ 110 (fw_c (a1 - 1)).toNat)) σ)) ∧ (fw_c b0 = 0 → G 32 [some (2, 93, 0), some (0, 0, a1), some (0, 0, a2)] [] σ)) : G 29 [some (2, 93, 0), some (0, 0, a1), some (0, 0, a2)] [(0, 0, b0)] σ := fw_on hG [29, 32] 200 h
abbrev fk_m_layReplies : List fw_CR := [(374, 3, true, 11, 9, sp_m_layOdds), (378, 1, true, 11, 0, sp_m_highest), (390, 2, true, 11, 1, sp_m_bidGains)]
abbrev st_m_layReplies : fw_K → fw_KR → fw_K := fw_st vwCl nn_sh nn_kd fw_kv fw_wc (nn_KI20.map (fun x => x.1)) (nn_KJ20.map (fun x => x.1)) (nn_PF20.map (fun x => x.1)) (nn_PS20.map (fun x => x.1)) fk_m_layReplies 10 nn_dt301 11 4
theorem fs_m_layReplies_0 {G : fw_K} {R : fw_KR} (hG : fw_cls st_m_layReplies R G) {p q c : Int} {σ : ab_SG} (h : sp_m_layOdds [(2, 93, 0), (0, 0, p), (0, 0, q), (0, 0, c)] σ (fun rv σ2 => G 7 [some (2, 93, 0), some (0, 0, p), some (0, 0, q), some (0, 0, c), none, none, none, none, none, none, none] (rv.toList ++ []) σ2)) : G 0 [some (2, 93, 0), some (0, 0, p), some (0, 0, q), some (0, 0, c), none, none, none, none, none, none, none] [] σ := fw_on hG [7, 10, 49, 65, 67, 80, 106] 200 h
theorem fs_m_layReplies_7 {G : fw_K} {R : fw_KR} (hG : fw_cls st_m_layReplies R G) {a2 a3 : Int} {o1 o4 o5 o6 o8 o9 o10 : Option ab_AV} {σ : ab_SG} (h : G 10 [some (2, 93, 0), o1, some (0, 0, a2), some (0, 0, a3), some (0, 0, 1), o5, o6, none, o8, o9, o10] [] σ) : G 7 [some (2, 93, 0), o1, some (0, 0, a2), some (0, 0, a3), o4, o5, o6, none, o8, o9, o10] [] σ := fw_on hG [7, 10, 49, 65, 67, 80, 106] 200 h
theorem fs_m_layReplies_10 {G : fw_K} {R : fw_KR} (hG : fw_cls st_m_layReplies R G) {a2 a3 a4 : Int} {o1 o5 o6 o8 o9 o10 : Option ab_AV} {σ : ab_SG} (h : (fw_c 10 < fw_c a4 → R none σ) ∧ (fw_c a4 ≤ fw_c 10 → fw_c 10 ≠ 0 ∧ ((fw_c (fw_op 4 a4 10) ≠ 0 → (0 ≤ fw_c (10 + (fw_op 4 a4 10)) ∧ fw_c (10 + (fw_op 4 a4 10)) < ((20 : Nat) : Int)) ∧ (G 49 [some (2, 93, 0), o1, some (0, 0, a2), some (0, 0, a3), some (0, 0, a4), some (0, 0, fw_op 4 a4 10), o6, none, o8, o9, o10] [(1, 0, 2460275073345600 - (σ 108 (fw_c (10 + (fw_op 4 a4 10))).toNat))] σ)) ∧ (fw_c (fw_op 4 a4 10) = 0 → G 49 [some (2, 93, 0), o1, some (0, 0, a2), some (0, 0, a3), some (0, 0, a4), some (0, 0, fw_op 4 a4 10), o6, none, o8, o9, o10] [(1, 0, (-1))] σ)))) : G 10 [some (2, 93, 0), o1, some (0, 0, a2), some (0, 0, a3), some (0, 0, a4), o5, o6, none, o8, o9, o10] [] σ := fw_on hG [7, 10, 49, 65, 67, 80, 106] 200 h
theorem fs_m_layReplies_49 {G : fw_K} {R : fw_KR} (hG : fw_cls st_m_layReplies R G) {a2 a3 a4 a5 b0 : Int} {o1 o6 o8 o9 o10 : Option ab_AV} {σ : ab_SG} (h : (0 ≤ fw_c a5 ∧ fw_c a5 < ((10 : Nat) : Int)) ∧ True ∧ (sp_m_highest [(2, 93, 0), (0, 0, a5)] (ab_ups σ 112 (fw_c a5).toNat (fw_c 0)) (fun rv σ2 => G 65 [some (2, 93, 0), o1, some (0, 0, a2), some (0, 0, a3), some (0, 0, a4), some (0, 0, a5), some (1, 0, b0), none, o8, o9, o10] (rv.toList ++ []) σ2))) : G 49 [some (2, 93, 0), o1, some (0, 0, a2), some (0, 0, a3), some (0, 0, a4), some (0, 0, a5), o6, none, o8, o9, o10] [(1, 0, b0)] σ := fw_on hG [7, 10, 49, 65, 67, 80, 106] 200 h
theorem fs_m_layReplies_65 {G : fw_K} {R : fw_KR} (hG : fw_cls st_m_layReplies R G) {a2 a3 a4 a5 a6 b0 : Int} {o1 o8 o9 o10 : Option ab_AV} {σ : ab_SG} (h : G 67 [some (2, 93, 0), o1, some (0, 0, a2), some (0, 0, a3), some (0, 0, a4), some (0, 0, a5), some (1, 0, a6), none, some (0, 0, b0), o9, o10] [] σ) : G 65 [some (2, 93, 0), o1, some (0, 0, a2), some (0, 0, a3), some (0, 0, a4), some (0, 0, a5), some (1, 0, a6), none, o8, o9, o10] [(0, 0, b0)] σ := fw_on hG [7, 10, 49, 65, 67, 80, 106] 200 h
theorem fs_m_layReplies_67 {G : fw_K} {R : fw_KR} (hG : fw_cls st_m_layReplies R G) {a2 a3 a4 a5 a6 a8 : Int} {o1 o9 o10 : Option ab_AV} {σ : ab_SG} (h : (fw_c a8 < fw_c 1 → (0 ≤ fw_c a5 ∧ fw_c a5 < ((10 : Nat) : Int)) ∧ True ∧ (G 10 [some (2, 93, 0), o1, some (0, 0, a2), some (0, 0, a3), some (0, 0, a4 + 1), some (0, 0, a5), some (1, 0, a6), none, some (0, 0, a8), o9, o10] [] (ab_ups σ 110 (fw_c a5).toNat (fw_d a6)))) ∧ (fw_c 1 ≤ fw_c a8 → sp_m_bidGains [(2, 93, 0), (0, 0, a8), (0, 0, a2)] σ (fun rv σ2 => G 80 [some (2, 93, 0), o1, some (0, 0, a2), some (0, 0, a3), some (0, 0, a4), some (0, 0, a5), some (1, 0, a6), none, some (0, 0, a8), o9, o10] (rv.toList ++ []) σ2))) : G 67 [some (2, 93, 0), o1, some (0, 0, a2), some (0, 0, a3), some (0, 0, a4), some (0, 0, a5), some (1, 0, a6), none, some (0, 0, a8), o9, o10] [] σ := fw_on hG [7, 10, 49, 65, 67, 80, 106] 200 h
theorem fs_m_layReplies_80 {G : fw_K} {R : fw_KR} (hG : fw_cls st_m_layReplies R G) {a2 a3 a4 a5 a6 a8 b0 : Int} {o1 o9 o10 : Option ab_AV} {σ : ab_SG} (h : (fw_d a6 < fw_d b0 → (0 ≤ fw_c a5 ∧ fw_c a5 < ((10 : Nat) : Int)) ∧ True ∧ (G 106 [some (2, 93, 0), o1, some (0, 0, a2), some (0, 0, a3), some (0, 0, a4), some (0, 0, a5), some (1, 0, b0), none, some (0, 0, a8), some (1, 0, b0), none] [] (ab_ups σ 112 (fw_c a5).toNat (fw_c a8)))) ∧ (fw_d b0 ≤ fw_d a6 → G 106 [some (2, 93, 0), o1, some (0, 0, a2), some (0, 0, a3), some (0, 0, a4), some (0, 0, a5), some (1, 0, a6), none, some (0, 0, a8), some (1, 0, b0), none] [] σ)) : G 80 [some (2, 93, 0), o1, some (0, 0, a2), some (0, 0, a3), some (0, 0, a4), some (0, 0, a5), some (1, 0, a6), none, some (0, 0, a8), o9, o10] [(1, 0, b0)] σ := fw_on hG [7, 10, 49, 65, 67, 80, 106] 200 h
theorem fs_m_layReplies_106 {G : fw_K} {R : fw_KR} (hG : fw_cls st_m_layReplies R G) {a2 a3 a4 a5 a6 a8 : Int} {o1 o9 o10 : Option ab_AV} {σ : ab_SG} (h : G 67 [some (2, 93, 0), o1, some (0, 0, a2), some (0, 0, a3), some (0, 0, a4), some (0, 0, a5), some (1, 0, a6), none, some (0, 0, a8 + (-1)), o9, o10] [] σ) : G 106 [some (2, 93, 0), o1, some (0, 0, a2), some (0, 0, a3), some (0, 0, a4), some (0, 0, a5), some (1, 0, a6), none, some (0, 0, a8), o9, o10] [] σ := fw_on hG [7, 10, 49, 65, 67, 80, 106] 200 h
abbrev fk_m_reply : List fw_CR := [(384, 4, true, 11, 2, sp_m_isSpeech), (393, 3, true, 11, 10, sp_m_layReplies)]
abbrev st_m_reply : fw_K → fw_KR → fw_K := fw_st vwCl nn_sh nn_kd fw_kv fw_wc (nn_KI20.map (fun x => x.1)) (nn_KJ20.map (fun x => x.1)) (nn_PF20.map (fun x => x.1)) (nn_PS20.map (fun x => x.1)) fk_m_reply 11 nn_dt300 5 0
theorem fs_m_reply_0 {G : fw_K} {R : fw_KR} (hG : fw_cls st_m_reply R G) {p q n c : Int} {σ : ab_SG} (h : sp_m_isSpeech [(2, 93, 0), (0, 0, p), (0, 0, q), (0, 0, n), (0, 0, c)] (ab_ups σ 93 0 (fw_c 0)) (fun rv σ2 => G 14 [some (2, 93, 0), some (0, 0, p), some (0, 0, q), some (0, 0, n), some (0, 0, c)] (rv.toList ++ []) σ2)) : G 0 [some (2, 93, 0), some (0, 0, p), some (0, 0, q), some (0, 0, n), some (0, 0, c)] [] σ := fw_on hG [14, 27] 200 h
theorem fs_m_reply_14 {G : fw_K} {R : fw_KR} (hG : fw_cls st_m_reply R G) {a1 a2 a3 a4 b0 : Int} {σ : ab_SG} (h : (fw_c b0 ≠ 0 → sp_m_layReplies [(2, 93, 0), (0, 0, a1), (0, 0, a2), (0, 0, a4)] σ (fun rv σ2 => G 27 [some (2, 93, 0), some (0, 0, a1), some (0, 0, a2), some (0, 0, a3), some (0, 0, a4)] (rv.toList ++ []) σ2)) ∧ (fw_c b0 = 0 → R (some (0, 0, (-1))) σ)) : G 14 [some (2, 93, 0), some (0, 0, a1), some (0, 0, a2), some (0, 0, a3), some (0, 0, a4)] [(0, 0, b0)] σ := fw_on hG [14, 27] 200 h
theorem fs_m_reply_27 {G : fw_K} {R : fw_KR} (hG : fw_cls st_m_reply R G) {a1 a2 a3 a4 : Int} {σ : ab_SG} (h : (0 ≤ fw_c a3 ∧ fw_c a3 < ((10 : Nat) : Int)) ∧ (R (some (0, 0, σ 112 (fw_c a3).toNat)) σ)) : G 27 [some (2, 93, 0), some (0, 0, a1), some (0, 0, a2), some (0, 0, a3), some (0, 0, a4)] [] σ := fw_on hG [14, 27] 200 h

section
variable {l : Launch} {cy : Nat → ClassId} {ad wr cr : Nat → Nat} {D : va_G}
theorem fm_m_bidGains (hinj : nn_inj ad) : fw_H l cy ad wr cr D 302 1 sp_m_bidGains := fw_mk hinj (⟨"NameNotesModel", "bidGains", "(II)J"⟩, prog_14_method_98_code, 3, (Option.some Jvm.ClassFile.FieldType.long), 2, true, 2) rfl rfl nn_KI20_ok nn_KJ20_ok nn_PF20_ok nn_PS20_ok (by decide +kernel) rfl rfl (List.forall_mem_cons.mpr ⟨fw_row nn_PM20_ok (x := 362) (k := 0) (mn := 287) (np := 2) (ob := false) (ci := 0) (⟨"NameNotesModel", "isNines", "(JI)Z"⟩, prog_14_method_84_code, 3, (Option.some Jvm.ClassFile.FieldType.boolean), 2, false, 1) rfl (by decide +kernel) rfl rfl (by decide) (fun q => by cases q) (fm_m_isNines hinj), (fun _ h => absurd h List.not_mem_nil)⟩) (fun as σ K h => by
  obtain ⟨A, b, q, C, V, rfl, hN, hb, hq, hC, h8, hV, h⟩ := h
  have nn := N_n hN.1
  have c1 : fw_c 1 = 1 := fw_s (by decide) (by decide)
  have cb : fw_c (b : Int) = (b : Int) := oz_c9 b hb.2
  have db := hN.2.1.2.2.2.1 q (by omega)
  have e0 := h8 b (by omega) (by omega)
  have ci : fw_c ((10 + (b : Int)) - 1) = ((10 + b - 1 : Nat) : Int) := by
    rw [show (10 + (b : Int)) - 1 = ((10 + b - 1 : Nat) : Int) by omega]
    exact fw_s (by omega) (by omega)
  have cq : fw_c (227 + (q : Int)) = ((227 + q : Nat) : Int) := by
    rw [show 227 + (q : Int) = ((227 + q : Nat) : Int) by omega]
    exact fw_s (by omega) (by omega)
  have cj : fw_c ((b : Int) - 1) = ((b - 1 : Nat) : Int) := by
    rw [show (b : Int) - 1 = ((b - 1 : Nat) : Int) by omega]
    exact fw_s (by omega) (by omega)
  refine ⟨rfl, fun G hG => fs_m_bidGains_0 hG ?_⟩
  have at32 : dr_g C V (A 56 q) b = C b → G 32 [some (2, 93, 0), some (0, 0, (b : Int)), some (0, 0, (q : Int))] [] σ := fun e => by
    refine fs_m_bidGains_32 hG ⟨by rw [cb]; omega, ?_⟩
    rw [cb, Int.toNat_natCast, e0, ← e]
    exact h
  rw [cb, c1]
  refine ⟨fun z => at32 ?_, fun z => ⟨by rw [ci]; omega, by rw [cq]; omega, ?_⟩⟩
  · unfold dr_g
    rw [if_neg (fun w => by have := w.1; omega)]
  · have b8 := hC (10 + b - 1) (by omega) (by omega)
    rw [ci, cq, Int.toNat_natCast, Int.toNat_natCast, h8 (10 + b - 1) (by omega) (by omega), dz_da hN hq]
    refine ⟨C (10 + b - 1), A 56 q, rfl, b8, db, fs_m_bidGains_29 hG ⟨fun y => ⟨by rw [cj]; omega, ?_⟩, fun y => at32 ?_⟩⟩
    · rw [cj, Int.toNat_natCast, hV (b - 1) (by omega) (by omega)]
      unfold dr_g at h
      rw [if_pos ⟨by omega, fw_bo_ne y⟩] at h
      exact h
    · unfold dr_g
      rw [if_neg (fun w => fw_bo_eq y w.2)])
theorem fm_m_layReplies (hinj : nn_inj ad) : fw_H l cy ad wr cr D 301 10 sp_m_layReplies := fw_mk hinj (⟨"NameNotesModel", "layReplies", "(III)V"⟩, prog_14_method_99_code, 11, (Option.none : Option Jvm.ClassFile.FieldType), 3, true, 4) rfl rfl nn_KI20_ok nn_KJ20_ok nn_PF20_ok nn_PS20_ok (by decide +kernel) rfl rfl (List.forall_mem_cons.mpr ⟨fw_row nn_PM20_ok (x := 374) (k := 0) (mn := 297) (np := 3) (ob := true) (ci := 11) (⟨"NameNotesModel", "layOdds", "(III)V"⟩, prog_14_method_92_code, 5, (Option.none : Option Jvm.ClassFile.FieldType), 3, true, 4) rfl (by decide +kernel) rfl rfl (by decide) (fun _ => ⟨_, _, rfl⟩) (fm_m_layOdds hinj), (List.forall_mem_cons.mpr ⟨fw_row nn_PM20_ok (x := 378) (k := 0) (mn := 298) (np := 1) (ob := true) (ci := 11) (⟨"NameNotesModel", "highest", "(I)I"⟩, prog_14_method_93_code, 2, (Option.some Jvm.ClassFile.FieldType.int), 1, true, 0) rfl (by decide +kernel) rfl rfl (by decide) (fun _ => ⟨_, _, rfl⟩) (fm_m_highest hinj), (List.forall_mem_cons.mpr ⟨fw_row nn_PM20_ok (x := 390) (k := 0) (mn := 302) (np := 2) (ob := true) (ci := 11) (⟨"NameNotesModel", "bidGains", "(II)J"⟩, prog_14_method_98_code, 3, (Option.some Jvm.ClassFile.FieldType.long), 2, true, 2) rfl (by decide +kernel) rfl rfl (by decide) (fun _ => ⟨_, _, rfl⟩) (fm_m_bidGains hinj), (fun _ h => absurd h List.not_mem_nil)⟩)⟩)⟩) (fun as σ K h => by
  obtain ⟨A, p, q, c, rfl, hN, h3, hb, h⟩ := h
  have nn := N_n hN.1
  obtain ⟨h1, h2, -, -, h5⟩ := hb
  obtain ⟨p, rfl⟩ := Int.eq_ofNat_of_zero_le h1.1
  obtain ⟨q, rfl⟩ := Int.eq_ofNat_of_zero_le h2.1
  have fb := hN.2.1.2.2.2.2
  obtain ⟨f, ef⟩ := Int.eq_ofNat_of_zero_le (show 0 ≤ A 49 14 by omega)
  have cl := oz_clue hN.1 hN.2.1 h5.1 h5.2
  have hCC := v_chm hN (show p < 5 by omega) (show q < 5 by omega) cl.1
  unfold v_dr at h
  rw [ef] at h fb h3
  rw [Int.toNat_natCast, Int.toNat_natCast, Int.toNat_natCast] at h
  obtain ⟨C, eC⟩ : ∃ C : Nat → Int, C = v_ch A p q (v_set A c) := ⟨_, rfl⟩
  rw [← eC] at h hCC
  have c1 : fw_c 1 = 1 := fw_s (by decide) (by decide)
  have c10 : fw_c 10 = 10 := fw_s (by decide) (by decide)
  refine ⟨rfl, fun G hG => fs_m_layReplies_0 hG ⟨A, p, q, c, rfl, hN, by omega, by omega, h5, fun σ1 M0 I0 => fs_m_layReplies_7 hG ?_⟩⟩
  have hN1 : NM σ1 A := oz_NMM M0 (by decide +kernel) hN
  have step : ∀ (S : Nat → Prop) (st : (Nat → Int) × (Nat → Int)) (n m : Nat) (k : Int) (τ : ab_SG) (o6 o8 o9 o10 : Option ab_AV), n < 10 → m < 10 → (n = 0 → 1 ≤ m) → ((n ≠ 0 → m = n - 1) ∧ (n = 0 → τ 95 3 = (m : Int))) → NM τ A → dz_A S τ st → dr_B st → (∀ i : Nat, i < 20 → 1 ≤ i % 10 → τ 108 i = 2520 * C i) → (∀ b : Nat, 1 ≤ b → b < m → S b) →
      (∀ (τ' : ab_SG) (o5 o6 o8 o9 o10 : Option ab_AV), ab_okM dz_B τ τ' → dz_A (fun i => S i ∨ i = n) τ' (dr_1 C (A 56 q) n m st) → G 10 [some (2, 93, 0), some (0, 0, (p : Int)), some (0, 0, (q : Int)), some (0, 0, c), some (0, 0, k + 1), o5, o6, none, o8, o9, o10] [] τ') →
      G 49 [some (2, 93, 0), some (0, 0, (p : Int)), some (0, 0, (q : Int)), some (0, 0, c), some (0, 0, k), some (0, 0, (n : Int)), o6, none, o8, o9, o10] [(1, 0, dl_st 2460275073345600 (τ 108) 10 n)] τ := by
    intro S st n m k τ o6 o8 o9 o10 hn hm hz hg hNt hA hB hC hS kont
    have e := dr_rz (C := C) (V := st.1) (C' := τ 108) (F' := fun b => 2520 * dr_g C st.1 (A 56 q) b) (kd := A 56 q) hn hm hz hCC (fun i => (hB i).1) (fun _ _ _ => rfl) (fun z => hC _ (by omega) (by omega))
    have sb : -1 ≤ dl_st 2460275073345600 (τ 108) 10 n ∧ dl_st 2460275073345600 (τ 108) 10 n ≤ 2460275073345600 := by
      unfold dl_st
      by_cases z : n = 0
      · rw [if_pos z]; decide
      · have a1 := hCC (10 + n) (by omega) (by omega)
        rw [if_neg z, hC (10 + n) (by omega) (by omega)]
        omega
    have gb : ∀ b : Nat, 1 ≤ b → b ≤ m → 0 ≤ dr_g C st.1 (A 56 q) b ∧ dr_g C st.1 (A 56 q) b ≤ 976299632280 := fun b h1 h2 => dr_gb hCC (fun i => (hB i).1) h1 (by omega)
    unfold dz_A dr_1 at kont
    generalize dr_r C st.1 (A 56 q) n m = r at e kont
    generalize dl_st 2460275073345600 (τ 108) 10 n = s0 at e sb ⊢
    have cn : fw_c (n : Int) = (n : Int) := oz_c9 n hn
    have loop : ∀ (g b : Nat) (v mv : Int) (τ' : ab_SG) (o9 o10 : Option ab_AV), b = g → b ≤ m → (-1 ≤ v ∧ v ≤ 2460275073345600) → ab_okM dz_B τ τ' → (∀ j : Nat, τ' 110 j = τ 110 j) → (∀ j : Nat, j ≠ n → τ' 112 j = τ 112 j) → τ' 112 n = mv → dr_s (fun b => 2520 * dr_g C st.1 (A 56 q) b) b (v, mv) = (2520 * r.1, r.2) → G 67 [some (2, 93, 0), some (0, 0, (p : Int)), some (0, 0, (q : Int)), some (0, 0, c), some (0, 0, k), some (0, 0, (n : Int)), some (1, 0, v), none, some (0, 0, (b : Int)), o9, o10] [] τ' := by
      intro g
      induction g with
      | zero =>
        intro b v mv τ' o9 o10 hbg hbm hv M h110 h112 hmv ee
        have cb : fw_c (b : Int) = (b : Int) := oz_c9 b (by omega)
        have e2 : (v, mv) = (2520 * r.1, r.2) := by rw [← ee, hbg]; rfl
        have ev : v = 2520 * r.1 := congrArg Prod.fst e2
        have em : mv = r.2 := congrArg Prod.snd e2
        refine fs_m_layReplies_67 hG ?_
        rw [cb, c1]
        refine ⟨fun _ => ⟨by rw [cn]; omega, trivial, ?_⟩, fun z => absurd z (by omega)⟩
        rw [cn, Int.toNat_natCast, fw_d_id (x := v) (by omega) (by omega)]
        refine kont _ _ _ _ _ _ (fw_okM_upa M (by decide)) (fun j hj => ?_)
        show _ = 2520 * dl_put _ _ _ j ∧ _ = dl_put _ _ _ j
        by_cases z : j = n
        · subst z
          rw [ab_ups_eq, ab_ups_ne (fun z => absurd z.1 (by decide)), dl_put_eq, dl_put_eq]
          exact ⟨ev, hmv.trans em⟩
        · have s := hA j (hj.resolve_right z)
          rw [ab_ups_ne (fun y => z y.2), ab_ups_ne (fun z => absurd z.1 (by decide)), dl_put_ne _ _ z, dl_put_ne _ _ z, h110, h112 j z]
          exact s
      | succ g ih =>
        intro b v mv τ' o9 o10 hbg hbm hv M h110 h112 hmv ee
        subst hbg
        have cb : fw_c ((g + 1 : Nat) : Int) = ((g + 1 : Nat) : Int) := oz_c9 (g + 1) (by omega)
        have vb := gb (g + 1) (by omega) hbm
        refine fs_m_layReplies_67 hG ?_
        rw [cb, c1]
        refine ⟨fun z => absurd z (by omega), fun _ => ⟨A, g + 1, q, C, st.1, rfl, oz_NMM M (by decide +kernel) hNt, by omega, by omega, hCC, fun i hi hm => by rw [dz_k (by decide) M i]; exact hC i hi hm, fun j h1 h2 => by rw [h110]; exact (hA j (hS j h1 (by omega))).1, fs_m_layReplies_80 hG ?_⟩⟩
        rw [dr_ss] at ee
        generalize dr_g C st.1 (A 56 q) (g + 1) = w at vb ee ⊢
        rw [fw_d_id (x := 2520 * w) (by omega) (by omega), fw_d_id (x := v) (by omega) (by omega)]
        refine ⟨fun z => ⟨by rw [cn]; omega, trivial, fs_m_layReplies_106 hG ?_⟩, fun z => fs_m_layReplies_106 hG ?_⟩
        · rw [if_pos z] at ee
          rw [cn, cb, Int.toNat_natCast]
          have w2 := ih g (2520 * w) ((g + 1 : Nat) : Int) (ab_ups τ' 112 n ((g + 1 : Nat) : Int)) (some (1, 0, 2520 * w)) none rfl (by omega) (by omega) (fw_okM_upa M (by decide)) (fun j => by rw [ab_ups_ne (fun z => absurd z.1 (by decide)), h110]) (fun j hj => by rw [ab_ups_ne (fun y => hj y.2), h112 j hj]) ab_ups_eq ee
          rw [show ((g : Nat) : Int) = ((g + 1 : Nat) : Int) + (-1) by omega] at w2
          exact w2
        · rw [if_neg (by omega)] at ee
          have w2 := ih g v mv τ' (some (1, 0, 2520 * w)) none rfl (by omega) hv M h110 h112 hmv ee
          rw [show ((g : Nat) : Int) = ((g + 1 : Nat) : Int) + (-1) by omega] at w2
          exact w2
    refine fs_m_layReplies_49 hG ⟨by rw [cn]; omega, trivial, ?_⟩
    rw [cn, Int.toNat_natCast, fw_c0]
    have go : ∀ (w : Int) (o8 : Option ab_AV), w = (m : Int) → G 65 [some (2, 93, 0), some (0, 0, (p : Int)), some (0, 0, (q : Int)), some (0, 0, c), some (0, 0, k), some (0, 0, (n : Int)), some (1, 0, s0), none, o8, o9, o10] [(0, 0, w)] (ab_ups τ 112 n 0) := by
      intro w o8 ew
      subst ew
      exact fs_m_layReplies_65 hG (loop m m s0 0 _ _ _ rfl (Nat.le_refl m) sb (fw_okM_upa (fw_okM_refl _ _) (by decide)) (fun j => ab_ups_ne (fun z => absurd z.1 (by decide))) (fun j hj => ab_ups_ne (fun z => hj z.2)) ab_ups_eq e)
    refine ⟨n, rfl, hn, fun z => go _ _ (by rw [hg.1 z]), fun z => go _ _ ?_⟩
    rw [ab_ups_ne (fun z => absurd z.1 (by decide))]
    exact hg.2 z
  have e95 : ∀ τ : ab_SG, ab_okM dz_B σ1 τ → τ 95 3 = (f : Int) := fun τ M => by
    rw [dz_k (by decide) M 3, M0 95 3 (fun q hq hh => by
      have : ∀ q ∈ dm_H, q.1 ≠ 95 := by decide
      exact this q hq hh.1)]
    exact h3
  have e108 : ∀ τ : ab_SG, ab_okM dz_B σ1 τ → ∀ i : Nat, i < 20 → 1 ≤ i % 10 → τ 108 i = 2520 * C i := fun τ M i hi hm => by
    rw [dz_k (by decide) M i, eC]
    exact I0 i hi hm
  have eN : ∀ τ : ab_SG, ab_okM dz_B σ1 τ → NM τ A := fun τ M => oz_NMM M (by decide +kernel) hN1
  have loop : ∀ (g k : Nat) (τ : ab_SG) (o5 o6 o8 o9 o10 : Option ab_AV), k + g = 9 → ab_okM dz_B σ1 τ → dz_A (fun i => 1 ≤ i ∧ i ≤ k) τ (dr_n C (A 56 q) f k) → G 10 [some (2, 93, 0), some (0, 0, (p : Int)), some (0, 0, (q : Int)), some (0, 0, c), some (0, 0, ((k + 1 : Nat) : Int)), o5, o6, none, o8, o9, o10] [] τ := by
    intro g
    induction g with
    | zero =>
      intro k τ o5 o6 o8 o9 o10 hk M I
      have ek : k = 9 := by omega
      subst ek
      refine fs_m_layReplies_10 hG ?_
      rw [c10, fw_s (x := ((9 + 1 : Nat) : Int)) (by decide) (by decide), dm_op (9 + 1) (by decide)]
      refine ⟨fun z => absurd z (by decide), fun _ => ⟨by decide, fun z => absurd fw_c0 z, fun _ => ?_⟩⟩
      refine step _ _ 0 f _ τ _ _ _ _ (by decide) (by omega) (fun _ => by omega) ⟨fun z => absurd rfl z, fun _ => e95 τ M⟩ (eN τ M) I (dr_nb hCC (by omega) 9) (e108 τ M) (fun b h1 h2 => by show _ ∧ _; omega) (fun τ2 o5 o6 o8 o9 o10 M2 A2 => ?_)
      refine fs_m_layReplies_10 hG ?_
      rw [c10, fw_s (x := ((9 + 1 : Nat) : Int) + 1) (by decide) (by decide)]
      refine ⟨fun _ => h τ2 (on_trans (od_up M0 (by decide)) (od_up (on_trans M M2) (by decide))) (fun i hi => ?_), fun z => absurd z (by decide)⟩
      have w := A2 i (by show (_ ∧ _) ∨ _; omega)
      rw [show (10 : Nat) = 9 + 1 from rfl, dr_nt]
      exact w
    | succ g ih =>
      intro k τ o5 o6 o8 o9 o10 hk M I
      have ci : fw_c (10 + ((k + 1 : Nat) : Int)) = ((10 + (k + 1) : Nat) : Int) := by
        rw [show 10 + ((k + 1 : Nat) : Int) = ((10 + (k + 1) : Nat) : Int) by omega]
        exact fw_s (by omega) (by omega)
      refine fs_m_layReplies_10 hG ?_
      rw [c10, oz_c9 (k + 1) (by omega), dm_op (k + 1) (by omega), Nat.mod_eq_of_lt (show k + 1 < 10 by omega), oz_c9 (k + 1) (by omega)]
      refine ⟨fun z => absurd z (by omega), fun _ => ⟨by decide, fun _ => ⟨by rw [ci]; omega, ?_⟩, fun z => absurd z (by omega)⟩⟩
      rw [ci, Int.toNat_natCast]
      have s := step _ _ (k + 1) k ((k + 1 : Nat) : Int) τ o6 o8 o9 o10 (by omega) (by omega) (fun z => absurd z (Nat.succ_ne_zero k)) ⟨fun _ => rfl, fun z => absurd z (Nat.succ_ne_zero k)⟩ (eN τ M) I (dr_nb hCC (by omega) k) (e108 τ M) (fun b h1 h2 => by show _ ∧ _; omega) (fun τ2 o5 o6 o8 o9 o10 M2 A2 => by
        have w := ih (k + 1) τ2 o5 o6 o8 o9 o10 (by omega) (on_trans M M2) (fun i hi => by
          rw [dr_nn _ _ _ (by omega)]
          exact A2 i (by have := hi.1; have := hi.2; show (_ ∧ _) ∨ _; omega))
        rw [show ((k + 1 + 1 : Nat) : Int) = ((k + 1 : Nat) : Int) + 1 from rfl] at w
        exact w)
      unfold dl_st at s
      rw [if_neg (Nat.succ_ne_zero k)] at s
      exact s
  exact loop 9 0 σ1 _ _ _ _ _ rfl (fw_okM_refl _ _) (fun i hi => absurd hi.1 (by have := hi.2; omega)))
theorem fm_m_reply (hinj : nn_inj ad) : fw_H l cy ad wr cr D 300 11 sp_m_reply := fw_mk hinj (⟨"NameNotesModel", "reply", "(IIII)I"⟩, prog_14_method_100_code, 5, (Option.some Jvm.ClassFile.FieldType.int), 4, true, 0) rfl rfl nn_KI20_ok nn_KJ20_ok nn_PF20_ok nn_PS20_ok (by decide +kernel) rfl rfl (List.forall_mem_cons.mpr ⟨fw_row nn_PM20_ok (x := 384) (k := 0) (mn := 294) (np := 4) (ob := true) (ci := 11) (⟨"NameNotesModel", "isSpeech", "(IIII)Z"⟩, prog_14_method_95_code, 5, (Option.some Jvm.ClassFile.FieldType.boolean), 4, true, 1) rfl (by decide +kernel) rfl rfl (by decide) (fun _ => ⟨_, _, rfl⟩) (fm_m_isSpeech hinj), (List.forall_mem_cons.mpr ⟨fw_row nn_PM20_ok (x := 393) (k := 0) (mn := 301) (np := 3) (ob := true) (ci := 11) (⟨"NameNotesModel", "layReplies", "(III)V"⟩, prog_14_method_99_code, 11, (Option.none : Option Jvm.ClassFile.FieldType), 3, true, 4) rfl (by decide +kernel) rfl rfl (by decide) (fun _ => ⟨_, _, rfl⟩) (fm_m_layReplies hinj), (fun _ h => absurd h List.not_mem_nil)⟩)⟩) (fun as σ0 K h => by
  obtain ⟨A, p, q, n, c, rfl, ee, hN0, h30, h⟩ := h
  refine ⟨rfl, fun G hG => fs_m_reply_0 hG ?_⟩
  rw [fw_c0]
  have hN : NM (ab_ups σ0 93 0 0) A := oz_NMM (dz_93 σ0) (by decide +kernel) hN0
  have h3 : 0 < A 49 13 → (ab_ups σ0 93 0 0) 95 3 = A 49 14 := fun z => by rw [ab_ups_ne (fun z => absurd z.1 (by decide))]; exact h30 z
  have h : ∀ σ' : ab_SG, ab_okM dz_N (ab_ups σ0 93 0 0) σ' → K (some (0, 0, v_reply A p q n c)) σ' := fun σ' M => h σ' (on_trans (dz_93 σ0) M)
  generalize ab_ups σ0 93 0 0 = σ at hN h3 h ⊢
  unfold v_reply at h
  refine ⟨A, p, q, n, c, rfl, ee, hN, fs_m_reply_14 hG ⟨fun z => ?_, fun z => ?_⟩⟩
  · have hb := fw_bo_ne z
    have hn := hb.2.2.2.1
    rw [if_pos hb] at h
    refine ⟨A, p, q, c, rfl, hN, h3 (by have := hb.1; omega), ⟨hb.1, hb.2.1, hb.2.2.1, by decide, hb.2.2.2.2⟩, fun σ1 M1 I1 => fs_m_reply_27 hG ?_⟩
    rw [ee.2.2.1]
    refine ⟨by omega, ?_⟩
    rw [(I1 n.toNat (by omega)).2]
    exact h σ1 (od_up M1 (by decide))
  · rw [if_neg (fw_bo_eq z)] at h
    exact h σ (fw_okM_refl _ _))
end
end
section
/-! the relation over calls that play a duel -/
theorem vW_du {σ σ1 σm : ab_SG} (hc : cN σ) (h1 : ab_okM du_M σ σ1) (hv : vW σm σ1) : vW σm σ := vW_free (by decide +kernel) h1 hv
theorem RQ_du {σ σ1 σm σ2 σ5 : ab_SG} (hc : cN σ) (hR : RQ σ) (h1 : ab_okM du_M σ σ1) (hv : vW σm σ1) (h2 : ab_okM dm_N σm σ2) (hw : vW σ5 σ2) : RQ σ5 :=
  ⟨RQ9_tr (vw_W hw) ⟨ra_two (cn_N hc) h1 (vw_W hv) h2 (by decide) (by decide) hR.1.1, rb_two (cn_N hc) h1 (vw_W hv) h2 (by decide) (by decide) hR.1.2.1, rk_two (cn_N hc) h1 (vw_W hv) h2 (by decide) (by decide) hR.1.2.2⟩, rx_two hc h1 hv h2 hw (by decide +kernel) (by decide +kernel) hR.2⟩
theorem vW_dz {σ σ1 σm : ab_SG} (hc : cN σ) (h1 : ab_okM du_M σ σ1) (hv : vW σm σ1) : vW σm σ := vW_du hc h1 hv
theorem RQ_dz {σ σ1 σm σ2 σ5 : ab_SG} (hc : cN σ) (hR : RQ σ) (h1 : ab_okM du_M σ σ1) (hv : vW σm σ1) (h2 : ab_okM dz_N σm σ2) (hw : vW σ5 σ2) : RQ σ5 :=
  ⟨RQ9_tr (vw_W hw) ⟨ra_two (cn_N hc) h1 (vw_W hv) h2 (by decide) (by decide) hR.1.1, rb_two (cn_N hc) h1 (vw_W hv) h2 (by decide) (by decide) hR.1.2.1, rk_two (cn_N hc) h1 (vw_W hv) h2 (by decide) (by decide) hR.1.2.2⟩, rx_two hc h1 hv h2 hw (by decide +kernel) (by decide +kernel) hR.2⟩
/-- where there is a person, the reference has laid what it counts from -/
theorem du_95 {σ σ1 σm A : ab_SG} (hc : cN σ) (hR : RQ σ) (h1 : ab_okM du_M σ σ1) (hv : vW σm σ1) (hA : cn_is σ 3 A) (hp : 0 < A 49 13) : σm 95 3 = A 49 14 := by
  have e : σm 95 3 = σ 95 3 := xm_at hc h1 hv (Or.inl (su95 (by decide))) (by decide)
  obtain ⟨-, -, h13, h4⟩ := hR.1.2.1
  rcases h4 with ⟨-, b⟩ | ⟨-, -, -, -, b⟩
  · rw [e, b]
    exact hA.2.2.2.1
  · have := hA.2.2.1
    omega
end
section
/-! a ratio in its least numbers -/
theorem pt_div {x y : Nat} (hx : x ≤ 2460275073345600) (h1 : 1 ≤ y) (hy : y ≤ 2460275073345600) : fw_lop 3 (x : Int) (y : Int) = ((x / y : Nat) : Int) := by
  have b : x / y ≤ x := Nat.div_le_self x y
  show (Int64.ofInt (x : Int) / Int64.ofInt (y : Int)).toInt = _
  rw [Int64.toInt_div, Int64.toInt_ofInt_of_le (by omega) (by omega), Int64.toInt_ofInt_of_le (by omega) (by omega), Int.tdiv_eq_ediv_of_nonneg (by omega), ← Int.natCast_ediv]
  generalize x / y = z at b ⊢
  exact Int.bmod_eq_of_le (by omega) (by omega)
theorem pt_rem {x y : Nat} (hx : x ≤ 2460275073345600) (h1 : 1 ≤ y) (hy : y ≤ 2460275073345600) : fw_lop 4 (x : Int) (y : Int) = ((x % y : Nat) : Int) := by
  have e1 : Int64.ofInt (x : Int) / Int64.ofInt (y : Int) = Int64.ofInt ((x / y : Nat) : Int) := by
    rw [← pt_div hx h1 hy]
    exact (Int64.ofInt_toInt _).symm
  have b : x / y ≤ x := Nat.div_le_self x y
  have r : x % y < y := Nat.mod_lt x (by omega)
  have d := Nat.div_add_mod x y
  have c : x / y * y = y * (x / y) := Nat.mul_comm _ _
  show (Int64.ofInt (x : Int) - Int64.ofInt (x : Int) / Int64.ofInt (y : Int) * Int64.ofInt (y : Int)).toInt = _
  rw [e1, ← Int64.ofInt_mul, ← Int64.ofInt_sub, ← Int.natCast_mul, show (x : Int) - ((x / y * y : Nat) : Int) = ((x % y : Nat) : Int) by omega]
  exact Int64.toInt_ofInt_of_le (by omega) (by omega)
def v_part (x y : Nat) (w : Int) : Int := (((if w = 0 then x else y) / Nat.gcd x y : Nat) : Int)
theorem v_part_k {k : Nat} (hk : 0 < k) (x y : Nat) (w : Int) : v_part (k * x) (k * y) w = v_part x y w := by
  unfold v_part
  rw [Nat.gcd_mul_left]
  split
  · rw [Nat.mul_div_mul_left _ _ hk]
  · rw [Nat.mul_div_mul_left _ _ hk]
theorem pt_gr (x y : Nat) : Nat.gcd y (x % y) = Nat.gcd x y := by
  rw [Nat.gcd_comm x y, Nat.gcd_rec y x, Nat.gcd_comm]
theorem pt_gle {x y : Nat} (h1 : 1 ≤ y) : Nat.gcd x y ≤ y := Nat.gcd_le_right x (by omega)
def sp_part : fw_SP := fun as σ K => ∃ (x y : Nat) (w : Int), as = [(1, 0, (x : Int)), (1, 0, (y : Int)), (0, 0, w)] ∧ x ≤ 976299632280 ∧ (1 ≤ y ∧ y ≤ 976299632280) ∧ (w = 0 ∨ w = 1) ∧ K (some (1, 0, v_part x y w)) σ
def sp_m_common : fw_SP := fun as σ K => ∃ x y : Nat, as = [(1, 0, (x : Int)), (1, 0, (y : Int))] ∧ x ≤ 2460275073345600 ∧ y ≤ 2460275073345600 ∧ K (some (1, 0, ((Nat.gcd x y : Nat) : Int))) σ
def sp_m_part : fw_SP := fun as σ K => ∃ (x y : Nat) (w : Int), as = [(2, 93, 0), (1, 0, (x : Int)), (1, 0, (y : Int)), (0, 0, w)] ∧ x ≤ 2460275073345600 ∧ (1 ≤ y ∧ y ≤ 2460275073345600) ∧ (w = 0 ∨ w = 1) ∧ K (some (1, 0, v_part x y w)) (ab_ups σ 93 0 0)
abbrev fk_part : List fw_CR := []
abbrev st_part : fw_K → fw_KR → fw_K := fw_st vwCl nn_sh nn_kd fw_kv fw_wc (nn_KI1.map (fun x => x.1)) (nn_KJ1.map (fun x => x.1)) (nn_PF1.map (fun x => x.1)) (nn_PS1.map (fun x => x.1)) fk_part 0 nn_dt193 12 2
theorem fs_part_0 {G : fw_K} {R : fw_KR} (hG : fw_cls st_part R G) {a b w : Int} {σ : ab_SG} (h : G 9 [some (1, 0, a), none, some (1, 0, b), none, some (0, 0, w), some (1, 0, a), none, some (1, 0, b), none, some (0, 0, 0), none, none] [] σ) : G 0 [some (1, 0, a), none, some (1, 0, b), none, some (0, 0, w), none, none, none, none, none, none, none] [] σ := fw_on hG [9, 45] 200 h
theorem fs_part_9 {G : fw_K} {R : fw_KR} (hG : fw_cls st_part R G) {a0 a2 a4 a5 a7 a9 : Int} {o1 o3 o6 o8 o10 o11 : Option ab_AV} {σ : ab_SG} (h : (fw_c 200 ≤ fw_c a9 → G 45 [some (1, 0, a0), o1, some (1, 0, a2), o3, some (0, 0, a4), some (1, 0, a5), o6, some (1, 0, a7), o8, some (0, 0, a9), o10, o11] [] σ) ∧ (fw_c a9 < fw_c 200 → (fw_d a7 = fw_d ((0 : Nat) : Int) → G 45 [some (1, 0, a0), o1, some (1, 0, a2), o3, some (0, 0, a4), some (1, 0, a5), o6, some (1, 0, a7), o8, some (0, 0, a9), o10, o11] [] σ) ∧ (fw_d a7 ≠ fw_d ((0 : Nat) : Int) → fw_d a7 ≠ 0 ∧ (G 9 [some (1, 0, a0), o1, some (1, 0, a2), o3, some (0, 0, a4), some (1, 0, a7), none, some (1, 0, fw_lop 4 a5 a7), none, some (0, 0, a9 + 1), some (1, 0, fw_lop 4 a5 a7), none] [] σ)))) : G 9 [some (1, 0, a0), o1, some (1, 0, a2), o3, some (0, 0, a4), some (1, 0, a5), o6, some (1, 0, a7), o8, some (0, 0, a9), o10, o11] [] σ := fw_on hG [9, 45] 200 h
theorem fs_part_45 {G : fw_K} {R : fw_KR} (hG : fw_cls st_part R G) {a0 a2 a4 a5 : Int} {o1 o3 o6 o7 o8 o9 o10 o11 : Option ab_AV} {σ : ab_SG} (h : (fw_d a5 ≠ fw_d ((0 : Nat) : Int) → (fw_c a4 ≠ 0 → fw_d a5 ≠ 0 ∧ (R (some (1, 0, fw_lop 3 a2 a5)) σ)) ∧ (fw_c a4 = 0 → fw_d a5 ≠ 0 ∧ (R (some (1, 0, fw_lop 3 a0 a5)) σ))) ∧ (fw_d a5 = fw_d ((0 : Nat) : Int) → R (some (1, 0, ((0 : Nat) : Int))) σ)) : G 45 [some (1, 0, a0), o1, some (1, 0, a2), o3, some (0, 0, a4), some (1, 0, a5), o6, o7, o8, o9, o10, o11] [] σ := fw_on hG [9, 45] 200 h
abbrev fk_m_common : List fw_CR := []
abbrev st_m_common : fw_K → fw_KR → fw_K := fw_st vwCl nn_sh nn_kd fw_kv fw_wc (nn_KI20.map (fun x => x.1)) (nn_KJ20.map (fun x => x.1)) (nn_PF20.map (fun x => x.1)) (nn_PS20.map (fun x => x.1)) fk_m_common 0 nn_dt281 10 2
theorem fs_m_common_0 {G : fw_K} {R : fw_KR} (hG : fw_cls st_m_common R G) {a b : Int} {σ : ab_SG} (h : G 6 [some (1, 0, a), none, some (1, 0, b), none, some (1, 0, a), none, some (1, 0, b), none, none, none] [] σ) : G 0 [some (1, 0, a), none, some (1, 0, b), none, none, none, none, none, none, none] [] σ := fw_on hG [6] 200 h
theorem fs_m_common_6 {G : fw_K} {R : fw_KR} (hG : fw_cls st_m_common R G) {a0 a4 a6 : Int} {o1 o2 o5 o8 o9 : Option ab_AV} {σ : ab_SG} (h : (fw_d a6 ≤ fw_d ((0 : Nat) : Int) → R (some (1, 0, a4)) σ) ∧ (fw_d ((0 : Nat) : Int) < fw_d a6 → fw_d a6 ≠ 0 ∧ (G 6 [some (1, 0, a0), o1, o2, none, some (1, 0, a6), none, some (1, 0, fw_lop 4 a4 a6), none, some (1, 0, fw_lop 4 a4 a6), none] [] σ))) : G 6 [some (1, 0, a0), o1, o2, none, some (1, 0, a4), o5, some (1, 0, a6), none, o8, o9] [] σ := fw_on hG [6] 200 h
abbrev fk_m_part : List fw_CR := [(110, 2, false, 0, 0, sp_m_common)]
abbrev st_m_part : fw_K → fw_KR → fw_K := fw_st vwCl nn_sh nn_kd fw_kv fw_wc (nn_KI20.map (fun x => x.1)) (nn_KJ20.map (fun x => x.1)) (nn_PF20.map (fun x => x.1)) (nn_PS20.map (fun x => x.1)) fk_m_part 1 nn_dt280 6 2
theorem fs_m_part_0 {G : fw_K} {R : fw_KR} (hG : fw_cls st_m_part R G) {a b w : Int} {σ : ab_SG} (h : (fw_c w ≠ 0 → G 15 [some (2, 93, 0), some (1, 0, a), none, some (1, 0, b), none, some (0, 0, w)] [(1, 0, b)] (ab_ups σ 93 0 (fw_c 0))) ∧ (fw_c w = 0 → G 15 [some (2, 93, 0), some (1, 0, a), none, some (1, 0, b), none, some (0, 0, w)] [(1, 0, a)] (ab_ups σ 93 0 (fw_c 0)))) : G 0 [some (2, 93, 0), some (1, 0, a), none, some (1, 0, b), none, some (0, 0, w)] [] σ := fw_on hG [15, 20] 200 h
theorem fs_m_part_15 {G : fw_K} {R : fw_KR} (hG : fw_cls st_m_part R G) {a1 a3 b0 : Int} {o2 o4 o5 : Option ab_AV} {σ : ab_SG} (h : sp_m_common [(1, 0, a1), (1, 0, a3)] σ (fun rv σ2 => G 20 [some (2, 93, 0), some (1, 0, a1), o2, some (1, 0, a3), o4, o5] (rv.toList ++ [(1, 0, b0)]) σ2)) : G 15 [some (2, 93, 0), some (1, 0, a1), o2, some (1, 0, a3), o4, o5] [(1, 0, b0)] σ := fw_on hG [15, 20] 200 h
theorem fs_m_part_20 {G : fw_K} {R : fw_KR} (hG : fw_cls st_m_part R G) {b0 b1 : Int} {o1 o2 o3 o4 o5 : Option ab_AV} {σ : ab_SG} (h : fw_d b0 ≠ 0 ∧ (R (some (1, 0, fw_lop 3 b1 b0)) σ)) : G 20 [some (2, 93, 0), o1, o2, o3, o4, o5] [(1, 0, b0), (1, 0, b1)] σ := fw_on hG [15, 20] 200 h

section
variable {l : Launch} {cy : Nat → ClassId} {ad wr cr : Nat → Nat} {D : va_G}
theorem fm_part (hinj : nn_inj ad) : fw_H l cy ad wr cr D 193 0 sp_part := fw_mk hinj (⟨"NameNotes", "part", "(JJI)J"⟩, prog_1_method_79_code, 12, (Option.some Jvm.ClassFile.FieldType.long), 3, false, 2) rfl rfl nn_KI1_ok nn_KJ1_ok nn_PF1_ok nn_PS1_ok (by decide +kernel) rfl rfl (fun _ h => absurd h List.not_mem_nil) (fun as σ K h => by
  obtain ⟨x, y, w, rfl, hx, hy, hw, h⟩ := h
  have d0 : fw_d ((0 : Nat) : Int) = 0 := fw_d_id (by decide) (by decide)
  have c2 : fw_c 200 = 200 := fw_s (by decide) (by decide)
  have cw : fw_c w = w := fw_s (by omega) (by omega)
  refine ⟨rfl, fun G hG => fs_part_0 hG ?_⟩
  have out : ∀ (g : Nat) (o6 o7 o8 o9 o10 o11 : Option ab_AV), g = Nat.gcd x y → G 45 [some (1, 0, (x : Int)), none, some (1, 0, (y : Int)), none, some (0, 0, w), some (1, 0, (g : Int)), o6, o7, o8, o9, o10, o11] [] σ := by
    intro g o6 o7 o8 o9 o10 o11 e
    have g1 : 1 ≤ g := by rw [e]; exact Nat.gcd_pos_of_pos_right x (by omega)
    have g2 : g ≤ 976299632280 := by rw [e]; exact Nat.le_trans (pt_gle hy.1) hy.2
    refine fs_part_45 hG ?_
    rw [d0, fw_d_id (x := (g : Int)) (by omega) (by omega), cw, pt_div (by omega) g1 (by omega), pt_div (by omega) g1 (by omega)]
    unfold v_part at h
    refine ⟨fun _ => ⟨fun q => ⟨by omega, ?_⟩, fun q => ⟨by omega, ?_⟩⟩, fun z => absurd z (by omega)⟩
    · rw [if_neg q, ← e] at h
      exact h
    · rw [if_pos q, ← e] at h
      exact h
  have loop : ∀ (j u v i : Nat) (o6 o8 o10 o11 : Option ab_AV), v < 2 ^ j → i + 2 * j + 1 ≤ 200 → u ≤ 976299632280 → v ≤ 976299632280 → Nat.gcd u v = Nat.gcd x y → G 9 [some (1, 0, (x : Int)), none, some (1, 0, (y : Int)), none, some (0, 0, w), some (1, 0, (u : Int)), o6, some (1, 0, (v : Int)), o8, some (0, 0, (i : Int)), o10, o11] [] σ := by
    intro j
    induction j with
    | zero =>
      intro u v i o6 o8 o10 o11 h1 h2 h3 h4 e
      have v0 : v = 0 := by omega
      subst v0
      refine fs_part_9 hG ?_
      rw [c2, fw_s (x := (i : Int)) (by omega) (by omega)]
      refine ⟨fun z => absurd z (by omega), fun _ => ⟨fun _ => out u _ _ _ _ _ _ (by rw [← e, Nat.gcd_zero_right]), fun z => absurd rfl z⟩⟩
    | succ j ih =>
      intro u v i o6 o8 o10 o11 h1 h2 h3 h4 e
      refine fs_part_9 hG ?_
      rw [c2, fw_s (x := (i : Int)) (by omega) (by omega), d0, fw_d_id (x := (v : Int)) (by omega) (by omega)]
      refine ⟨fun z => absurd z (by omega), fun _ => ⟨fun z => out u _ _ _ _ _ _ ?_, fun z => ⟨z, ?_⟩⟩⟩
      · have v0 : v = 0 := by omega
        subst v0
        rw [← e, Nat.gcd_zero_right]
      have v1 : 1 ≤ v := by omega
      have r1 : u % v < v := Nat.mod_lt u (by omega)
      have er : fw_lop 4 (u : Int) (v : Int) = ((u % v : Nat) : Int) := pt_rem (by omega) v1 (by omega)
      have e2 : Nat.gcd v (u % v) = Nat.gcd x y := (pt_gr u v).trans e
      rw [er]
      generalize u % v = r at r1 e2
      refine fs_part_9 hG ?_
      rw [c2, show (i : Int) + 1 = ((i + 1 : Nat) : Int) from rfl, fw_s (x := ((i + 1 : Nat) : Int)) (by omega) (by omega), d0, fw_d_id (x := (r : Int)) (by omega) (by omega)]
      refine ⟨fun z => absurd z (by omega), fun _ => ⟨fun z => out v _ _ _ _ _ _ ?_, fun z => ⟨z, ?_⟩⟩⟩
      · have v0 : r = 0 := by omega
        subst v0
        rw [← e2, Nat.gcd_zero_right]
      have r0 : 1 ≤ r := by omega
      have q1 : v % r < r := Nat.mod_lt v (by omega)
      have er2 : fw_lop 4 (v : Int) (r : Int) = ((v % r : Nat) : Int) := pt_rem (by omega) r0 (by omega)
      have e3 : Nat.gcd r (v % r) = Nat.gcd x y := (pt_gr v r).trans e2
      have hf : 2 * (v % r) < v := by
        have d := Nat.div_add_mod v r
        have d1 : 1 ≤ v / r := Nat.div_pos (by omega) (by omega)
        have d2 : r ≤ r * (v / r) := Nat.le_mul_of_pos_right r d1
        omega
      have p2 : 2 ^ (j + 1) = 2 * 2 ^ j := by rw [Nat.pow_succ, Nat.mul_comm]
      rw [er2]
      have g := ih r (v % r) (i + 1 + 1) none none (some (1, 0, ((v % r : Nat) : Int))) none (by omega) (by omega) (by omega) (by omega) e3
      exact g
  exact loop 40 x y 0 none none none none (by omega) (by decide) hx hy.2 rfl)
theorem fm_m_common (hinj : nn_inj ad) : fw_H l cy ad wr cr D 281 0 sp_m_common := fw_mk hinj (⟨"NameNotesModel", "common", "(JJ)J"⟩, prog_14_method_12_code, 10, (Option.some Jvm.ClassFile.FieldType.long), 2, false, 2) rfl rfl nn_KI20_ok nn_KJ20_ok nn_PF20_ok nn_PS20_ok (by decide +kernel) rfl rfl (fun _ h => absurd h List.not_mem_nil) (fun as σ K h => by
  obtain ⟨x, y, rfl, hx, hy, h⟩ := h
  have d0 : fw_d ((0 : Nat) : Int) = 0 := fw_d_id (by decide) (by decide)
  refine ⟨rfl, fun G hG => fs_m_common_0 hG ?_⟩
  have loop : ∀ (n u v : Nat) (o2 o5 o8 o9 : Option ab_AV), v ≤ n → u ≤ 2460275073345600 → v ≤ 2460275073345600 → Nat.gcd u v = Nat.gcd x y → G 6 [some (1, 0, (x : Int)), none, o2, none, some (1, 0, (u : Int)), o5, some (1, 0, (v : Int)), none, o8, o9] [] σ := by
    intro n
    induction n with
    | zero =>
      intro u v o2 o5 o8 o9 h1 h3 h4 e
      have v0 : v = 0 := by omega
      subst v0
      refine fs_m_common_6 hG ⟨fun _ => ?_, fun z => absurd z (Int.lt_irrefl _)⟩
      rw [Nat.gcd_zero_right] at e
      rw [e]
      exact h
    | succ n ih =>
      intro u v o2 o5 o8 o9 h1 h3 h4 e
      refine fs_m_common_6 hG ?_
      rw [d0, fw_d_id (x := (v : Int)) (by omega) (by omega)]
      refine ⟨fun z => ?_, fun z => ⟨by omega, ?_⟩⟩
      · have v0 : v = 0 := by omega
        subst v0
        rw [Nat.gcd_zero_right] at e
        rw [e]
        exact h
      · have r1 : u % v < v := Nat.mod_lt u (by omega)
        rw [pt_rem h3 (by omega) h4]
        exact ih v (u % v) o2 none (some (1, 0, ((u % v : Nat) : Int))) none (by omega) (by omega) (by omega) ((pt_gr u v).trans e)
  exact loop y x y _ _ _ _ (Nat.le_refl y) hx hy rfl)
theorem fm_m_part (hinj : nn_inj ad) : fw_H l cy ad wr cr D 280 1 sp_m_part := fw_mk hinj (⟨"NameNotesModel", "part", "(JJI)J"⟩, prog_14_method_13_code, 6, (Option.some Jvm.ClassFile.FieldType.long), 3, true, 2) rfl rfl nn_KI20_ok nn_KJ20_ok nn_PF20_ok nn_PS20_ok (by decide +kernel) rfl rfl (List.forall_mem_cons.mpr ⟨fw_row nn_PM20_ok (x := 110) (k := 0) (mn := 281) (np := 2) (ob := false) (ci := 0) (⟨"NameNotesModel", "common", "(JJ)J"⟩, prog_14_method_12_code, 10, (Option.some Jvm.ClassFile.FieldType.long), 2, false, 2) rfl (by decide +kernel) rfl rfl (by decide) (fun q => by cases q) (fm_m_common hinj), (fun _ h => absurd h List.not_mem_nil)⟩) (fun as σ K h => by
  obtain ⟨x, y, w, rfl, hx, hy, hw, h⟩ := h
  have cw : fw_c w = w := fw_s (by omega) (by omega)
  have g1 : 1 ≤ Nat.gcd x y := Nat.gcd_pos_of_pos_right x (by omega)
  have g2 : Nat.gcd x y ≤ 2460275073345600 := Nat.le_trans (pt_gle hy.1) hy.2
  refine ⟨rfl, fun G hG => fs_m_part_0 hG ?_⟩
  rw [cw, fw_c0]
  unfold v_part at h
  have fin : ∀ z : Nat, z ≤ 2460275073345600 → K (some (1, 0, ((z / Nat.gcd x y : Nat) : Int))) (ab_ups σ 93 0 0) → G 15 [some (2, 93, 0), some (1, 0, (x : Int)), none, some (1, 0, (y : Int)), none, some (0, 0, w)] [(1, 0, (z : Int))] (ab_ups σ 93 0 0) := by
    intro z hz k
    refine fs_m_part_15 hG ⟨x, y, rfl, hx, hy.2, fs_m_part_20 hG ?_⟩
    rw [fw_d_id (x := ((Nat.gcd x y : Nat) : Int)) (by omega) (by omega), pt_div hz g1 g2]
    exact ⟨by omega, k⟩
  refine ⟨fun q => fin y hy.2 ?_, fun q => fin x hx ?_⟩
  · rw [if_neg q] at h
    exact h
  · rw [if_pos q] at h
    exact h)
end
end
section
/-! methods that return or throw, over known numbers -/
abbrev fx_KE : Type := ab_SG → Prop
abbrev fx_SP : Type := List ab_AV → ab_SG → fw_KR → fx_KE → Prop
/-- where it threw -/
def fx_XC (cy : Nat → ClassId) (ad wr : Nat → Nat) (D : va_G) (E : fx_KE) (A : Nat → Prop) : String → State → State → Prop := fun x st t =>
  x = nx_N ∧ (∃ σ' : ab_SG, E σ' ∧ va_P D vwCl (ab_WD cy ad wr nn_sh σ') t.heap) ∧ va_F A st t
def fx_PC (cy : Nat → ClassId) (ad wr cr : Nat → Nat) (D : va_G) (σ : ab_SG) (av : List Value) (sz : Nat) : Array Value → State → Prop :=
  va_Pc av (fun U => U.heap.size = sz ∧ va_P D vwCl (ab_WD cy ad wr nn_sh σ) U.heap ∧ va_K D vwCl (ab_tys cy) U ∧ ab_okN nn_NW U ∧ fw_CB cy ad wr cr nn_kd fw_kv fw_wc (ab_A ad nn_sh.length sz) U ∧ nx_Z (ab_A ad nn_sh.length sz) U)
theorem fx_PC_blind {cy : Nat → ClassId} {ad wr cr : Nat → Nat} {D : va_G} {σ : ab_SG} {av : List Value} {sz : Nat} : FrameBlind (fx_PC cy ad wr cr D σ av sz) := by
  intro a U g mk h
  obtain ⟨h1, h2, h3, h4, h5, h6, h7⟩ := h
  exact ⟨h1, h2, h3, va_K.moved (u := U) (U := U.calling g mk a) (Vm.Alike.refl U.vm) h4, fun q hq => va_Nw.same rfl (u := U) (U := U.calling g mk a) rfl (h5 q hq), fw_CB_blind h6, nx_Z_blind h7⟩
def fx_H (l : Launch) (cy : Nat → ClassId) (ad wr cr : Nat → Nat) (D : va_G) (mn lev : Nat) (sp : fx_SP) : Prop :=
  ∀ mr : ab_MR, nn_MT[mn]? = some mr → ∀ (as : List ab_AV) (σ : ab_SG) (sz : Nat) (K : fw_KR) (E : fx_KE), sp as σ K E →
    vx_Met l mr.1 (Jvm.Cond.code mr.1 mr.2.1 mr.2.2.1 mr.2.2.2.1 :: nn_TT) (nx_room lev) (fx_PC cy ad wr cr D σ (as.map (ab_V ad wr cr fw_z)) sz) (fw_QC cy ad wr cr D vwCl nn_sh K (ab_A ad nn_sh.length sz)) (fx_XC cy ad wr D E (ab_A ad nn_sh.length sz)) 1 6 (ab_A ad nn_sh.length sz)
def fx_Go (p : Program) (l : Launch) (e : Env) (R : Room) (s : State) (m : MethodId) (args : Array Value) (below : List Frame) (meth : Method) (c : Code) (cells slots : Nat) (cy : Nat → ClassId) (ad wr cr : Nat → Nat) (D : va_G) (cl : List vw_C) (sh : List ab_SP) (A : Nat → Prop) (nL : Nat) (Q : State → Prop) : fw_K := fun pc L S σ =>
  ∀ (H : Heap) (locs : List Loc) (ls : Array Slot) (st : List Value), fw_okL ad wr cr nL L ls → fw_okS ad wr cr S st → va_P D cl (ab_WD cy ad wr sh σ) H → va_S A s.heap H locs → W p l e R s m args below meth c H locs cells slots Q (F0 m pc ls st)
/-- a place where it throws -/
def fx_site (cc : ByteArray) (pc : Nat) : Prop := ∃ (is : Nat) (tx : String) (k : Nat), ("NameNotes", is, tx, k) ∈ nn_kd.2.2.2 ∧ decode cc pc = .ok (.new 211, 3) ∧ decode cc (pc + 3) = .ok (.dup, 1) ∧ ((decode cc (pc + 4) = .ok (.ldc is, 2) ∧ decode cc (pc + 6) = .ok (.invokespecial 215, 3) ∧ decode cc (pc + 9) = .ok (.athrow, 1)) ∨ (decode cc (pc + 4) = .ok (.ldc_w is, 3) ∧ decode cc (pc + 7) = .ok (.invokespecial 215, 3) ∧ decode cc (pc + 10) = .ok (.athrow, 1)))
section
variable {p : Program} {l : Launch} {e : Env} {R : Room} {s : State} {m : MethodId} {args : Array Value} {below : List Frame} {meth : Method} {c : Code} {H : Heap} {locs : List Loc} {cc : ByteArray} {pc : Nat} {ls : Array Slot} {st : List Value}
variable {ad wr cr : Nat → Nat} {cy : Nat → ClassId} {nL lev rk : Nat} {S : List ab_AV} {own : String} {i : Instr} {len : Nat} {D : va_G} {cl : List vw_C} {sh : List ab_SP} {A : Nat → Prop} {Ts TT : List Jvm.Cond} {NW : ab_NW} {kd : ab_KD} {kv : Nat → Nat → Int} {wc : Nat → Int} {MT : List ab_MR} {FK : List fw_CR} {σ : ab_SG} {KI KJ : List (Nat × Int)} {PF : ab_PT} {PS : ab_PS} {dt : ab_DT}
variable {cells slots : Nat} {Q : State → Prop}
theorem fx_rt_ok {ret : Option FieldType} {K : fw_KR} (hx : p.tables.exec = Jvm.exec) (hb : c.code = cc) (hret : meth.sig.returnType = ret) (hrk : ab_rkok rk ret) (hlocks : meth.locks = false)
    (h : fw_rt rk i len S (fun rv => K rv σ)) (hdg : decode cc pc = .ok (i, len)) (hS : fw_okS ad wr cr S st) (hP : va_P D cl (ab_WD cy ad wr sh σ) H) (hSS : va_S A s.heap H locs) :
    W p l e R s m args below meth c H locs cells slots (MQ below (fw_QC cy ad wr cr D cl sh K A) args s cells slots A) (F0 m pc ls st) := by
  have post : ∀ (rv : Option ab_AV), K rv σ → ∀ t : State, t.heap = H → fw_QC cy ad wr cr D cl sh K A args s (.returned (rv.map (ab_V ad wr cr fw_z))) t := fun rv hk t ht => ⟨⟨rv, σ, rfl, hk, by rw [ht]; exact hP⟩, hSS.F ht⟩
  unfold fw_rt at h
  split at h
  · rename_i s9 c9
    have h0 := fw_if_ok h
    clear h
    obtain ⟨g, h⟩ := h0
    have := ab_beq g; subst this
    obtain ⟨st1, rfl, hS1⟩ := fw_pop hS
    have : st1 = [] := hS1
    subst this
    split at h
    · exact W.iret hx hb (hret.trans hrk) (fun t ht _ => post _ h t ht) hSS.2.2 hdg hlocks
    · refine W.zret hx hb (hret.trans hrk) ?_ (fun t ht _ => post _ h.2 t ht) hSS.2.2 hdg hlocks
      have e1 := (ab_nar_zv h.1.1 h.1.2).1
      rw [fw_c_of] at e1
      show narrow .boolean (.int (Int32.ofInt (0 + c9))) = .int (Int32.ofInt (0 + c9))
      rw [Int.zero_add]
      exact e1
    · exact h.elim
  · rename_i s9 c9
    have h0 := fw_if_ok h
    clear h
    obtain ⟨g, h⟩ := h0
    rw [Bool.and_eq_true] at g
    have := ab_beq g.1; subst this
    have g2 := ab_beq g.2
    subst g2
    obtain ⟨st1, rfl, hS1⟩ := fw_pop hS
    have : st1 = [] := hS1
    subst this
    exact W.lret hx hb (hret.trans hrk) (fun t ht _ => post _ h t ht) hSS.2.2 hdg hlocks
  · rename_i a9
    have h0 := fw_if_ok h
    clear h
    obtain ⟨g, h⟩ := h0
    rw [Bool.and_eq_true, Bool.and_eq_true] at g
    have := ab_beq g.1.1; subst this
    have g2 := ab_beq g.1.2
    subst g2
    obtain ⟨st1, rfl, hS1⟩ := fw_pop hS
    have : st1 = [] := hS1
    subst this
    obtain ⟨n9, hn9⟩ := hrk
    refine W.aret (v := ab_V ad wr cr fw_z a9) hx hb (hret.trans hn9) (Or.inl ⟨n9, rfl⟩) ?_ (fun t ht _ => post (some a9) h t ht) hSS.2.2 hdg hlocks
    rcases ab_ref (ad := ad) (wr := wr) (cr := cr) (ρ := fw_z) g.2 with ⟨x, hx1⟩ | hx1
    · exact Or.inr ⟨x, hx1⟩
    · exact Or.inl hx1
  · have h0 := fw_if_ok h
    clear h
    obtain ⟨g, h⟩ := h0
    rw [Bool.and_eq_true] at g
    have := ab_beq g.1; subst this
    have g2 := ab_beq g.2
    subst g2
    have : st = [] := hS
    subst this
    exact W.vret hx hb (hret.trans hrk) (fun t ht _ => post none h t ht) hSS.2.2 hdg hlocks
  · exact h.elim
set_option maxHeartbeats 4000000 in
theorem fx_st_ok {ret : Option FieldType} {Kr : fw_KR} (hE : fw_Ev p l s m args meth c cc nL lev rk R cy ad wr cr D cl sh own A Ts TT NW MT KI KJ PF kd kv wc PS FK dt ret) (hcs : cells ≤ R.cells ∧ slots ≤ R.slots)
    (hrt : ∀ (pc : Nat) (i : Instr) (len : Nat) (S : List ab_AV) (σ : ab_SG) (H : Heap) (locs : List Loc) (ls : Array Slot) (st : List Value), fw_rt rk i len S (fun rv => Kr rv σ) → decode cc pc = .ok (i, len) → fw_okS ad wr cr S st → va_P D cl (ab_WD cy ad wr sh σ) H → va_S A s.heap H locs → W p l e R s m args below meth c H locs cells slots Q (F0 m pc ls st)) :
    fw_cls (fw_st cl sh kd kv wc KI KJ PF PS FK lev dt nL rk) Kr (fx_Go p l e R s m args below meth c cells slots cy ad wr cr D cl sh A nL Q) := by
  intro K hKG pc L S σ h H locs ls st hL hS hP hSS
  obtain ⟨hx, hb, hml, hown, hts, hKK, hN, hTT, hcode, hA, hA2, hFK, hR, hKI, hKJ, hPF, hD, hCB, hPS, hdt, hret, hrk, hlk⟩ := hE
  have hlz : ls.size = nL := hL.1
  have go : ∀ (n : Nat), fw_go p l e R s m args below meth c cells slots Q ad wr cr cy D cl sh A s.heap (fun S' σ' => K n L S' σ') n ls := fun n S' σ' H' locs' st' hk hP' hSS' hS' => hKG _ _ _ _ hk H' locs' ls st' hL hS' hP' hSS'
  have gb : ∀ (n : Nat) (S' : List ab_AV) (st' : List Value), K n L S' σ → fw_okS ad wr cr S' st' → W p l e R s m args below meth c H locs cells slots Q (F0 m n ls st') := fun n S' st' hk hS' => hKG _ _ _ _ hk H locs ls st' hL hS' hP hSS
  unfold fw_st at h
  split at h
  · rename_i i9 len9 h9 hdec
    have hdg : decode cc pc = .ok (i9, len9) := ab_dec_ok hdt hdec
    split at h
    · unfold fw_p0 at h
      split at h
      · rename_i r9 hr9
        obtain ⟨L', S'⟩ := r9
        exact fw_pu_ok hx hb hown hKI hKJ hr9 hdg hL hS (fun ls' st' hL' hS' => hKG _ _ _ _ h H locs ls' st' hL' hS' hP hSS)
      · split at h
        · rename_i q9 hq9
          obtain ⟨d9, S'⟩ := q9
          exact fw_dv_ok hx hb hq9 h.1 hdg hS (fun st' hS' => gb _ _ _ h.2 hS')
        · exact h.elim
    · unfold fw_h1 at h
      split at h
      · exact fw_ks_ok hx hb hown hts hCB hPS h hdg hS hSS (fun S' st' hk hS' => gb _ _ _ hk hS')
      · exact fw_ks_ok hx hb hown hts hCB hPS h hdg hS hSS (fun S' st' hk hS' => gb _ _ _ hk hS')
      · exact fw_ks_ok hx hb hown hts hCB hPS h hdg hS hSS (fun S' st' hk hS' => gb _ _ _ hk hS')
      · exact fw_ks_ok hx hb hown hts hCB hPS h hdg hS hSS (fun S' st' hk hS' => gb _ _ _ hk hS')
      · exact fw_ks_ok hx hb hown hts hCB hPS h hdg hS hSS (fun S' st' hk hS' => gb _ _ _ hk hS')
      · exact fw_hp_ok hx hb hown hts hKK hD hPF h hdg hS hP hSS (go _)
    · refine fw_br_ok hx hb hCB.2.2.2 h hdg (fun j n hj => ?_) hS (fun n S' st' hk hS' => gb _ _ _ hk hS')
      split at hj
      · rename_i q9 hq9
        cases hj
        exact ab_dec_ok hdt hq9
      · cases hj
    · unfold fw_p3 at h
      split at h
      · rename_i x9
        split at h
        · rename_i z9 hz9
          exact fw_mth_ok hx hb (hml.trans hlz.symm) hown hts (hPS _ (ab_pk_mem hz9)) hR hcs.1 hcs.2 h hdg hS (fun S' st' hk hS' => gb _ _ _ hk hS')
        · exact fw_cl_ok hcs hx hb hml hown hts hKK hN hCB rfl hTT hcode hA hA2 hFK hR h hdg hS hlz hP hSS (go _)
      · exact fw_cl_ok hcs hx hb hml hown hts hKK hN hCB rfl hTT hcode hA hA2 hFK hR h hdg hS hlz hP hSS (go _)
    · exact fw_ks_ok hx hb hown hts hCB hPS h hdg hS hSS (fun S' st' hk hS' => gb _ _ _ hk hS')
    · exact fw_br_ok hx hb hCB.2.2.2 h hdg (fun j n hj => by cases hj) hS (fun n S' st' hk hS' => gb _ _ _ hk hS')
    · exact hrt _ _ _ _ _ H locs ls st h hdg hS hP hSS
  · exact h.elim
end
set_option maxHeartbeats 4000000 in
/-- a method that returns or throws does what is said of it -/
theorem fx_met {l : Launch} {cy : Nat → ClassId} {ad wr cr : Nat → Nat} {D : va_G} {KI KJ : List (Nat × Int)} {PF : ab_PT} {PS : ab_PS} {FK : List fw_CR} {lev rk mn : Nat} {dt : ab_DT} {XS : List Nat} {sp : fx_SP} (htr : l.stackTraces = false) (hinj : nn_inj ad) (mr : ab_MR) (hmr : nn_MT[mn]? = some mr) (hdt : nn_DT[mn]? = some dt)
    (hKI : ∀ q ∈ KI, Jvm.Cond.constant "NameNotes" q.1 (Int32.ofInt q.2) ∈ nn_TT) (hKJ : ∀ q ∈ KJ, Jvm.Cond.constantLong "NameNotes" q.1 (Int64.ofInt q.2) ∈ nn_TT) (hPF : ∀ q ∈ PF, ab_fok vwCl nn_TT "NameNotes" q) (hPS : ∀ q ∈ PS, ab_psok nn_TT nn_kd "NameNotes" q)
    (hy : plainName mr.1.cls = true) (hown : mr.1.cls = "NameNotes") (hrk : nn_rkB rk mr.2.2.2.1 = true) (hFK : ∀ q ∈ FK, fw_R l cy ad wr cr D "NameNotes" q) (hXS : ∀ pc ∈ XS, fx_site mr.2.1 pc)
    (hgo : ∀ (as : List ab_AV) (σ : ab_SG) (K : fw_KR) (E : fx_KE), sp as σ K E → (ab_cat as).ble mr.2.2.1 = true ∧ ∀ G : fw_K, fw_cls (fw_st vwCl nn_sh nn_kd fw_kv fw_wc KI KJ PF PS FK lev dt mr.2.2.1 rk) K G → (∀ pc ∈ XS, ∀ (L : fw_L) (σ' : ab_SG), E σ' → G pc L [] σ') → G 0 (fw_en mr.2.2.1 as) [] σ) : fx_H l cy ad wr cr D mn lev sp := by
  intro mr9 hmr9 as σ sz K E hsp
  rw [hmr] at hmr9
  cases hmr9
  obtain ⟨hfit, hgo⟩ := hgo as σ K E hsp
  refine vx_ofW (cc := mr.2.1) (maxL := mr.2.2.1) (ret := mr.2.2.2.1) hy rfl ?_
  intro p e s m args below meth c s₁ B hml hex hv
  obtain ⟨rfl, hsz, hP, hKK, hN, hCB, hZ⟩ := hv
  have hts := atoms_spec (ws := Jvm.Cond.code mr.1 mr.2.1 mr.2.2.1 mr.2.2.2.1 :: nn_TT) B.pre
  have hown2 : s.vm.findClass "NameNotes" = some m.cls := by rw [← hown]; exact findClass_of_methodNamed B.named
  subst hsz
  have hA : ∀ k, k < nn_sh.length → ab_A ad nn_sh.length s.heap.size (ad k) := fun k hk => Or.inl ⟨k, hk, rfl⟩
  have hsub : ∀ w ∈ nn_TT, w ∈ (Jvm.Cond.code mr.1 mr.2.1 mr.2.2.1 mr.2.2.2.1 :: nn_TT) := fun w hw => List.mem_cons_of_mem _ hw
  have hww : ∀ w ∈ nx_wds, w.before (as.map (ab_V ad wr cr fw_z)).toArray s = true := nx_wds_of (fun w hw => hts _ (hsub _ hw)) hZ.2.2
  have hE : fw_Ev p l s m (as.map (ab_V ad wr cr fw_z)).toArray meth c mr.2.1 mr.2.2.1 lev rk (headSpec (Jvm.Cond.code mr.1 mr.2.1 mr.2.2.1 mr.2.2.2.1 :: nn_TT) (nx_room lev)).room cy ad wr cr D vwCl nn_sh "NameNotes" (ab_A ad nn_sh.length s.heap.size) (Jvm.Cond.code mr.1 mr.2.1 mr.2.2.1 mr.2.2.2.1 :: nn_TT) nn_TT nn_NW nn_MT KI KJ PF nn_kd fw_kv fw_wc PS FK dt mr.2.2.2.1 :=
    ⟨B.exec, B.bytes, hml, hown2, hts, hKK, hN, fun w hw => ⟨hsub w hw, nn_TT_good w hw⟩, nn_MT_code, hA, fun q hq => Or.inr hq, fun q hq => fw_rok_mono (hFK q hq) hsub, ⟨Nat.le_add_right lev 10, Nat.le_add_right (40 * lev) 200⟩, fun q hq => hts _ (hsub _ (hKI q hq)), fun q hq => hts _ (hsub _ (hKJ q hq)), fun q hq => ab_fok_mono (hPF q hq) hsub, ab_WD_D hinj hA, hCB, fun q hq => ab_psok_mono (hPS q hq) hsub, nn_DT_ok hmr hdt, B.returns, nn_rk_ok hrk, B.notSynchronized⟩
  have hl := lv_entry (as.map (ab_V ad wr cr fw_z)) (n := mr.2.2.1) (ab_fit_len hfit)
  rw [lg_entry_eq]
  generalize (lg_sl (as.map (ab_V ad wr cr fw_z)) ++ List.replicate (mr.2.2.1 - (lg_sl (as.map (ab_V ad wr cr fw_z))).length) Slot.unset).toArray = ls at hl ⊢
  refine hgo _ (fx_st_ok (cells := 0) (slots := 0) (Q := vx_MQ below (fw_QC cy ad wr cr D vwCl nn_sh K (ab_A ad nn_sh.length s.heap.size)) (fx_XC cy ad wr D E (ab_A ad nn_sh.length s.heap.size)) (as.map (ab_V ad wr cr fw_z)).toArray s 1 6 (ab_A ad nn_sh.length s.heap.size)) hE ⟨Nat.zero_le _, Nat.zero_le _⟩ (fun pc i len S σ H locs ls st h hd hS hP hSS => W.widen (k := 1) (n := 6) (by decide) (by decide) (vx_ret (fx_rt_ok B.exec B.bytes B.returns (nn_rk_ok hrk) B.notSynchronized h hd hS hP hSS)))) ?_ s.heap [] ls [] ⟨hl.1, hl.2.1, fun j b hb => by
    have := hl.2.2 _ (fw_en_ok (ad := ad) (wr := wr) (cr := cr) as mr.2.2.1 0 j b hb)
    rw [Nat.zero_add] at this
    exact this⟩ rfl hP va_S.rf
  intro pc hpc L σ' hEσ H locs ls st hL hS hP hSS
  obtain ⟨is, tx, k, htx, d0, d3, d4⟩ := hXS pc hpc
  have hst : st = [] := hS
  subst hst
  have hx : ∀ t : State, s.vm.Alike t.vm → H.size ≤ t.heap.size → (∀ q : Nat, q < H.size → t.heap[q]? = H[q]?) → fx_XC cy ad wr D E (ab_A ad nn_sh.length s.heap.size) nx_N s t := by
    intro t _ hz hq
    refine ⟨rfl, ⟨σ', hEσ, hP.kept (fun k q hk => hq _ (vx_lt hP hk))⟩, Nat.le_trans hSS.1 hz, fun q g1 g2 => ?_⟩
    rw [hq q (Nat.lt_of_lt_of_le g1 hSS.1)]
    exact hSS.2.1 q g1 g2
  have hsize : ls.size = c.maxLocals := hL.1.trans hml.symm
  have hwk : ∀ w ∈ (nx_atoms "NameNotes" 215).filter vx_no, w.before (as.map (ab_V ad wr cr fw_z)).toArray s = true := fun w hw => hww w (List.mem_cons_of_mem _ (List.mem_cons_of_mem _ hw))
  have hstr : vk_R "NameNotes" is tx (cr k) s := hCB.1.2.2.2.2 _ htx
  have f1 : 5 < (headSpec (Jvm.Cond.code mr.1 mr.2.1 mr.2.2.1 mr.2.2.2.1 :: nn_TT) (nx_room lev)).room.frames := by show 5 < lev + 10; omega
  have f2 : 82 ≤ (headSpec (Jvm.Cond.code mr.1 mr.2.1 mr.2.2.1 mr.2.2.2.1 :: nn_TT) (nx_room lev)).room.locals := by show 82 ≤ 40 * lev + 200; omega
  rcases d4 with ⟨d4, d6, d9⟩ | ⟨d4, d6, d9⟩
  · exact nx_throw B.exec B.bytes htr hown2 (hww _ List.mem_cons_self) (hww _ (List.mem_cons_of_mem _ List.mem_cons_self)) hstr hwk nx_wds_good hZ.1 hZ.2.1 hSS hsize d0 d3 d4 d6 d9 (fun x hx9 => absurd (hex x hx9) id) f1 f2 (Nat.le_refl _) (Nat.le_refl _) B.notSynchronized hx hSS.2.2 (Nat.le_refl _) (Nat.le_refl _)
  · exact nx_throwW B.exec B.bytes htr hown2 (hww _ List.mem_cons_self) (hww _ (List.mem_cons_of_mem _ List.mem_cons_self)) hstr hwk nx_wds_good hZ.1 hZ.2.1 hSS hsize d0 d3 d4 d6 d9 (fun x hx9 => absurd (hex x hx9) id) f1 f2 (Nat.le_refl _) (Nat.le_refl _) B.notSynchronized hx hSS.2.2 (Nat.le_refl _) (Nat.le_refl _)
end
