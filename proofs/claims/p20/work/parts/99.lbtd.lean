/-! the duel as the reference reckons it: odds in row 108, values in row 109, moves in row 111 -/
def dm_H : ab_ML := [(106, 1000000), (107, 1000000), (108, 1000000)]
def dm_B : ab_ML := [(109, 1000000), (111, 1000000)]
def dm_M : ab_ML := [(106, 1000000), (107, 1000000), (108, 1000000), (109, 1000000), (111, 1000000)]
def dm_N : ab_ML := [(93, 0), (106, 1000000), (107, 1000000), (108, 1000000), (109, 1000000), (111, 1000000)]
theorem dm_93 (σ : ab_SG) : ab_okM dm_N σ (ab_ups σ 93 0 0) := fun a b q => ab_ups_ne (fun z => q (93, 0) (by decide) ⟨z.1.symm, Or.inl z.2.symm⟩)
def dm_A (S : Nat → Prop) (τ : ab_SG) (st : (Nat → Int) × (Nat → Int)) : Prop := ∀ i : Nat, S i → τ 109 i = 2520 * st.1 i ∧ τ 111 i = st.2 i
theorem dm_op : ∀ k : Nat, k < 11 → fw_op 4 (k : Int) 10 = ((k % 10 : Nat) : Int) := by decide +kernel
theorem dm_108 {σ τ : ab_SG} (h : ab_okM on_M σ τ) (j : Nat) : τ 108 j = σ 108 j := h 108 j (fun q hq hh => by
  have : ∀ q ∈ on_M, q.1 ≠ 108 := by decide
  exact this q hq hh.1)
theorem dm_k {k : Nat} (hk : k ≠ 109 ∧ k ≠ 111) {σ τ : ab_SG} (h : ab_okM dm_B σ τ) (j : Nat) : τ k j = σ k j := h k j (fun q hq hh => by
  have : ∀ q ∈ dm_B, q.1 = 109 ∨ q.1 = 111 := by decide
  rcases this q hq with e | e
  · exact hk.1 (hh.1.symm.trans e)
  · exact hk.2 (hh.1.symm.trans e))
def sp_m_highest : fw_SP := fun as σ K => ∃ n : Nat, as = [(2, 93, 0), (0, 0, (n : Int))] ∧ n < 10 ∧ (n ≠ 0 → K (some (0, 0, ((n - 1 : Nat) : Int))) σ) ∧ (n = 0 → K (some (0, 0, σ 95 3)) σ)
def sp_m_layOdds : fw_SP := fun as σ K => ∃ (A : ab_SG) (p q : Nat) (c : Int), as = [(2, 93, 0), (0, 0, (p : Int)), (0, 0, (q : Int)), (0, 0, c)] ∧ NM σ A ∧ p < 5 ∧ q < 5 ∧ (0 ≤ c ∧ c < A 49 12) ∧ ∀ σ' : ab_SG, ab_okM dm_H σ σ' → (∀ i : Nat, i < 20 → 1 ≤ i % 10 → σ' 108 i = 2520 * v_ch A p q (v_set A c) i) → K none σ'
def sp_m_layBest : fw_SP := fun as σ K => ∃ (A : ab_SG) (p q c : Int), as = [(2, 93, 0), (0, 0, p), (0, 0, q), (0, 0, c)] ∧ NM σ A ∧ σ 95 3 = A 49 14 ∧ v_bd A p q 0 c ∧ ∀ σ' : ab_SG, ab_okM dm_M σ σ' → (∀ i : Nat, i < 20 → σ' 109 i = 2520 * (v_du A p q c).1 i ∧ σ' 111 i = (v_du A p q c).2 i) → K none σ'
def sp_m_lowOf : fw_SP := fun as σ K => ∃ (A : ab_SG) (p q c : Int), as = [(2, 93, 0), (0, 0, p), (0, 0, q), (0, 0, c)] ∧ NM σ A ∧ σ 95 3 = A 49 14 ∧ v_bd A p q 0 c ∧ ∀ σ' : ab_SG, ab_okM dm_M σ σ' → K (some (0, 0, lo_f (v_du A p q c).2 10 0 0)) σ'
def sp_m_best : fw_SP := fun as σ K => ∃ (A : ab_SG) (p q n c : Int), as = [(2, 93, 0), (0, 0, p), (0, 0, q), (0, 0, n), (0, 0, c)] ∧ (fw_c p = p ∧ fw_c q = q ∧ fw_c n = n ∧ fw_c c = c) ∧ NM σ A ∧ (0 < A 49 13 → σ 95 3 = A 49 14) ∧ ∀ σ' : ab_SG, ab_okM dm_N σ σ' → K (some (0, 0, v_best A p q n c)) σ'
def sp_m_fair : fw_SP := fun as σ K => ∃ (A : ab_SG) (p q c : Int), as = [(2, 93, 0), (0, 0, p), (0, 0, q), (0, 0, c)] ∧ (fw_c p = p ∧ fw_c q = q ∧ fw_c c = c) ∧ NM σ A ∧ (0 < A 49 13 → σ 95 3 = A 49 14) ∧ ∀ σ' : ab_SG, ab_okM dm_N σ σ' → K (some (0, 0, v_fair A p q c)) σ'
def sp_m_low : fw_SP := fun as σ K => ∃ (A : ab_SG) (p q c : Int), as = [(2, 93, 0), (0, 0, p), (0, 0, q), (0, 0, c)] ∧ (fw_c p = p ∧ fw_c q = q ∧ fw_c c = c) ∧ NM σ A ∧ (0 < A 49 13 → σ 95 3 = A 49 14) ∧ ∀ σ' : ab_SG, ab_okM dm_N σ σ' → K (some (0, 0, v_low A p q c)) σ'
theorem v_chm {σ A : ab_SG} (hN : NM σ A) {p q : Nat} (hp : p < 5) (hq : q < 5) {s : Int} (hs : 1 ≤ s ∧ s < 512) : dl_C (v_ch A p q s) := fun i _ _ => by
  unfold v_ch
  split
  · exact oz_odds_bm hN hp hs
  · exact oz_odds_bm hN hq hs
theorem dm_B20 {σ A : ab_SG} {p q c : Int} (hN : NM σ A) (hb : v_bd A p q 0 c) : dl_B (v_du A p q c) := by
  have nn := N_n hN.1
  have fb := hN.2.1.2.2.2.2
  exact dl_nb (v_chm hN (by omega) (by omega) (oz_clue hN.1 hN.2.1 hb.2.2.2.2.1 hb.2.2.2.2.2).1) ⟨by omega, by omega⟩ 10
abbrev fk_m_highest : List fw_CR := []
abbrev st_m_highest : fw_K → fw_KR → fw_K := fw_st vwCl nn_sh nn_kd fw_kv fw_wc (nn_KI20.map (fun x => x.1)) (nn_KJ20.map (fun x => x.1)) (nn_PF20.map (fun x => x.1)) (nn_PS20.map (fun x => x.1)) fk_m_highest 0 nn_dt298 2 0
theorem fs_m_highest_0 {G : fw_K} {R : fw_KR} (hG : fw_cls st_m_highest R G) {n : Int} {σ : ab_SG} (h : (fw_c n ≠ 0 → R (some (0, 0, n - 1)) σ) ∧ (fw_c n = 0 → (0 ≤ fw_c 3 ∧ fw_c 3 < ((474 : Nat) : Int)) ∧ (R (some (0, 0, σ 95 (fw_c 3).toNat)) σ))) : G 0 [some (2, 93, 0), some (0, 0, n)] [] σ := fw_on hG [] 200 h
abbrev fk_m_layOdds : List fw_CR := [(303, 1, true, 11, 1, sp_m_left), (355, 3, true, 11, 8, sp_m_oddsOf)]
abbrev st_m_layOdds : fw_K → fw_KR → fw_K := fw_st vwCl nn_sh nn_kd fw_kv fw_wc (nn_KI20.map (fun x => x.1)) (nn_KJ20.map (fun x => x.1)) (nn_PF20.map (fun x => x.1)) (nn_PS20.map (fun x => x.1)) fk_m_layOdds 9 nn_dt297 5 4
theorem fs_m_layOdds_0 {G : fw_K} {R : fw_KR} (hG : fw_cls st_m_layOdds R G) {p q c : Int} {σ : ab_SG} (h : G 3 [some (2, 93, 0), some (0, 0, p), some (0, 0, q), some (0, 0, c), some (0, 0, 1)] [] σ) : G 0 [some (2, 93, 0), some (0, 0, p), some (0, 0, q), some (0, 0, c), none] [] σ := fw_on hG [3, 25, 28, 47, 50] 200 h
theorem fs_m_layOdds_3 {G : fw_K} {R : fw_KR} (hG : fw_cls st_m_layOdds R G) {a1 a2 a3 a4 : Int} {σ : ab_SG} (h : (fw_c 9 < fw_c a4 → R none σ) ∧ (fw_c a4 ≤ fw_c 9 → sp_m_left [(2, 93, 0), (0, 0, a3)] σ (fun rv σ2 => G 25 [some (2, 93, 0), some (0, 0, a1), some (0, 0, a2), some (0, 0, a3), some (0, 0, a4)] (rv.toList ++ [(0, 0, a4), (0, 0, a1), (2, 93, 0), (0, 0, a4), (2, 108, 0)]) σ2))) : G 3 [some (2, 93, 0), some (0, 0, a1), some (0, 0, a2), some (0, 0, a3), some (0, 0, a4)] [] σ := fw_on hG [3, 25, 28, 47, 50] 200 h
theorem fs_m_layOdds_25 {G : fw_K} {R : fw_KR} (hG : fw_cls st_m_layOdds R G) {a1 a2 a3 a4 b0 b1 b2 b4 : Int} {σ : ab_SG} (h : sp_m_oddsOf [(2, 93, 0), (0, 0, b2), (0, 0, b1), (0, 0, b0)] σ (fun rv σ2 => G 28 [some (2, 93, 0), some (0, 0, a1), some (0, 0, a2), some (0, 0, a3), some (0, 0, a4)] (rv.toList ++ [(0, 0, b4), (2, 108, 0)]) σ2)) : G 25 [some (2, 93, 0), some (0, 0, a1), some (0, 0, a2), some (0, 0, a3), some (0, 0, a4)] [(0, 0, b0), (0, 0, b1), (0, 0, b2), (2, 93, 0), (0, 0, b4), (2, 108, 0)] σ := fw_on hG [3, 25, 28, 47, 50] 200 h
theorem fs_m_layOdds_28 {G : fw_K} {R : fw_KR} (hG : fw_cls st_m_layOdds R G) {a1 a2 a3 a4 b0 b1 : Int} {σ : ab_SG} (h : (0 ≤ fw_c b1 ∧ fw_c b1 < ((20 : Nat) : Int)) ∧ True ∧ (sp_m_left [(2, 93, 0), (0, 0, a3)] (ab_ups σ 108 (fw_c b1).toNat (fw_d b0)) (fun rv σ2 => G 47 [some (2, 93, 0), some (0, 0, a1), some (0, 0, a2), some (0, 0, a3), some (0, 0, a4)] (rv.toList ++ [(0, 0, a4), (0, 0, a2), (2, 93, 0), (0, 0, 10 + a4), (2, 108, 0)]) σ2))) : G 28 [some (2, 93, 0), some (0, 0, a1), some (0, 0, a2), some (0, 0, a3), some (0, 0, a4)] [(1, 0, b0), (0, 0, b1), (2, 108, 0)] σ := fw_on hG [3, 25, 28, 47, 50] 200 h
theorem fs_m_layOdds_47 {G : fw_K} {R : fw_KR} (hG : fw_cls st_m_layOdds R G) {a1 a2 a3 a4 b0 b1 b2 b4 : Int} {σ : ab_SG} (h : sp_m_oddsOf [(2, 93, 0), (0, 0, b2), (0, 0, b1), (0, 0, b0)] σ (fun rv σ2 => G 50 [some (2, 93, 0), some (0, 0, a1), some (0, 0, a2), some (0, 0, a3), some (0, 0, a4)] (rv.toList ++ [(0, 0, b4), (2, 108, 0)]) σ2)) : G 47 [some (2, 93, 0), some (0, 0, a1), some (0, 0, a2), some (0, 0, a3), some (0, 0, a4)] [(0, 0, b0), (0, 0, b1), (0, 0, b2), (2, 93, 0), (0, 0, b4), (2, 108, 0)] σ := fw_on hG [3, 25, 28, 47, 50] 200 h
theorem fs_m_layOdds_50 {G : fw_K} {R : fw_KR} (hG : fw_cls st_m_layOdds R G) {a1 a2 a3 a4 b0 b1 : Int} {σ : ab_SG} (h : (0 ≤ fw_c b1 ∧ fw_c b1 < ((20 : Nat) : Int)) ∧ True ∧ (G 3 [some (2, 93, 0), some (0, 0, a1), some (0, 0, a2), some (0, 0, a3), some (0, 0, a4 + 1)] [] (ab_ups σ 108 (fw_c b1).toNat (fw_d b0)))) : G 50 [some (2, 93, 0), some (0, 0, a1), some (0, 0, a2), some (0, 0, a3), some (0, 0, a4)] [(1, 0, b0), (0, 0, b1), (2, 108, 0)] σ := fw_on hG [3, 25, 28, 47, 50] 200 h
abbrev fk_m_layBest : List fw_CR := [(374, 3, true, 11, 9, sp_m_layOdds), (378, 1, true, 11, 0, sp_m_highest)]
abbrev st_m_layBest : fw_K → fw_KR → fw_K := fw_st vwCl nn_sh nn_kd fw_kv fw_wc (nn_KI20.map (fun x => x.1)) (nn_KJ20.map (fun x => x.1)) (nn_PF20.map (fun x => x.1)) (nn_PS20.map (fun x => x.1)) fk_m_layBest 10 nn_dt296 13 4
theorem fs_m_layBest_0 {G : fw_K} {R : fw_KR} (hG : fw_cls st_m_layBest R G) {p q c : Int} {σ : ab_SG} (h : sp_m_layOdds [(2, 93, 0), (0, 0, p), (0, 0, q), (0, 0, c)] σ (fun rv σ2 => G 7 [some (2, 93, 0), some (0, 0, p), some (0, 0, q), some (0, 0, c), none, none, none, none, none, none, none, none, none] (rv.toList ++ []) σ2)) : G 0 [some (2, 93, 0), some (0, 0, p), some (0, 0, q), some (0, 0, c), none, none, none, none, none, none, none, none, none] [] σ := fw_on hG [7, 10, 27, 74, 90, 92, 144] 200 h
theorem fs_m_layBest_7 {G : fw_K} {R : fw_KR} (hG : fw_cls st_m_layBest R G) {a3 : Int} {o1 o2 o4 o5 o6 o7 o8 o10 o11 o12 : Option ab_AV} {σ : ab_SG} (h : G 10 [some (2, 93, 0), o1, o2, some (0, 0, a3), some (0, 0, 1), o5, o6, o7, o8, none, o10, o11, o12] [] σ) : G 7 [some (2, 93, 0), o1, o2, some (0, 0, a3), o4, o5, o6, o7, o8, none, o10, o11, o12] [] σ := fw_on hG [7, 10, 27, 74, 90, 92, 144] 200 h
theorem fs_m_layBest_10 {G : fw_K} {R : fw_KR} (hG : fw_cls st_m_layBest R G) {a3 a4 : Int} {o1 o2 o5 o6 o7 o8 o10 o11 o12 : Option ab_AV} {σ : ab_SG} (h : (fw_c 10 < fw_c a4 → R none σ) ∧ (fw_c a4 ≤ fw_c 10 → fw_c 10 ≠ 0 ∧ (G 27 [some (2, 93, 0), o1, o2, some (0, 0, a3), some (0, 0, a4), some (0, 0, fw_op 4 a4 10), some (0, 0, 0), o7, o8, none, o10, o11, o12] [] σ))) : G 10 [some (2, 93, 0), o1, o2, some (0, 0, a3), some (0, 0, a4), o5, o6, o7, o8, none, o10, o11, o12] [] σ := fw_on hG [7, 10, 27, 74, 90, 92, 144] 200 h
theorem fs_m_layBest_27 {G : fw_K} {R : fw_KR} (hG : fw_cls st_m_layBest R G) {a3 a4 a5 a6 : Int} {o1 o2 o7 o8 o10 o11 o12 : Option ab_AV} {σ : ab_SG} (h : (fw_c 2 ≤ fw_c a6 → G 10 [some (2, 93, 0), o1, o2, some (0, 0, a3), some (0, 0, a4 + 1), some (0, 0, a5), some (0, 0, a6), o7, o8, none, o10, o11, o12] [] σ) ∧ (fw_c a6 < fw_c 2 → (fw_c a5 ≠ 0 → (0 ≤ fw_c ((10 - (10 * a6)) + a5) ∧ fw_c ((10 - (10 * a6)) + a5) < ((20 : Nat) : Int)) ∧ (G 74 [some (2, 93, 0), o1, o2, some (0, 0, a3), some (0, 0, a4), some (0, 0, a5), some (0, 0, a6), some (0, 0, (10 * a6) + a5), o8, none, o10, o11, o12] [(1, 0, 2460275073345600 - (σ 108 (fw_c ((10 - (10 * a6)) + a5)).toNat))] σ)) ∧ (fw_c a5 = 0 → G 74 [some (2, 93, 0), o1, o2, some (0, 0, a3), some (0, 0, a4), some (0, 0, a5), some (0, 0, a6), some (0, 0, (10 * a6) + a5), o8, none, o10, o11, o12] [(1, 0, (-1))] σ))) : G 27 [some (2, 93, 0), o1, o2, some (0, 0, a3), some (0, 0, a4), some (0, 0, a5), some (0, 0, a6), o7, o8, none, o10, o11, o12] [] σ := fw_on hG [7, 10, 27, 74, 90, 92, 144] 200 h
theorem fs_m_layBest_74 {G : fw_K} {R : fw_KR} (hG : fw_cls st_m_layBest R G) {a3 a4 a5 a6 a7 b0 : Int} {o1 o2 o8 o10 o11 o12 : Option ab_AV} {σ : ab_SG} (h : (0 ≤ fw_c a7 ∧ fw_c a7 < ((20 : Nat) : Int)) ∧ True ∧ (sp_m_highest [(2, 93, 0), (0, 0, a5)] (ab_ups σ 111 (fw_c a7).toNat (fw_c 0)) (fun rv σ2 => G 90 [some (2, 93, 0), o1, o2, some (0, 0, a3), some (0, 0, a4), some (0, 0, a5), some (0, 0, a6), some (0, 0, a7), some (1, 0, b0), none, o10, o11, o12] (rv.toList ++ []) σ2))) : G 74 [some (2, 93, 0), o1, o2, some (0, 0, a3), some (0, 0, a4), some (0, 0, a5), some (0, 0, a6), some (0, 0, a7), o8, none, o10, o11, o12] [(1, 0, b0)] σ := fw_on hG [7, 10, 27, 74, 90, 92, 144] 200 h
theorem fs_m_layBest_90 {G : fw_K} {R : fw_KR} (hG : fw_cls st_m_layBest R G) {a3 a4 a5 a6 a7 a8 b0 : Int} {o1 o2 o10 o11 o12 : Option ab_AV} {σ : ab_SG} (h : G 92 [some (2, 93, 0), o1, o2, some (0, 0, a3), some (0, 0, a4), some (0, 0, a5), some (0, 0, a6), some (0, 0, a7), some (1, 0, a8), none, some (0, 0, b0), o11, o12] [] σ) : G 90 [some (2, 93, 0), o1, o2, some (0, 0, a3), some (0, 0, a4), some (0, 0, a5), some (0, 0, a6), some (0, 0, a7), some (1, 0, a8), none, o10, o11, o12] [(0, 0, b0)] σ := fw_on hG [7, 10, 27, 74, 90, 92, 144] 200 h
theorem fs_m_layBest_92 {G : fw_K} {R : fw_KR} (hG : fw_cls st_m_layBest R G) {a3 a4 a5 a6 a7 a8 a10 : Int} {o1 o2 o11 o12 : Option ab_AV} {σ : ab_SG} (h : (fw_c a10 < fw_c 1 → (0 ≤ fw_c a7 ∧ fw_c a7 < ((20 : Nat) : Int)) ∧ True ∧ (G 27 [some (2, 93, 0), o1, o2, some (0, 0, a3), some (0, 0, a4), some (0, 0, a5), some (0, 0, a6 + 1), some (0, 0, a7), some (1, 0, a8), none, some (0, 0, a10), o11, o12] [] (ab_ups σ 109 (fw_c a7).toNat (fw_d a8)))) ∧ (fw_c 1 ≤ fw_c a10 → (0 ≤ fw_c ((10 - (10 * a6)) + a10) ∧ fw_c ((10 - (10 * a6)) + a10) < ((20 : Nat) : Int)) ∧ ((fw_d a8 < fw_d (2460275073345600 - (σ 109 (fw_c ((10 - (10 * a6)) + a10)).toNat)) → (0 ≤ fw_c a7 ∧ fw_c a7 < ((20 : Nat) : Int)) ∧ True ∧ (G 144 [some (2, 93, 0), o1, o2, some (0, 0, a3), some (0, 0, a4), some (0, 0, a5), some (0, 0, a6), some (0, 0, a7), some (1, 0, 2460275073345600 - (σ 109 (fw_c ((10 - (10 * a6)) + a10)).toNat)), none, some (0, 0, a10), some (1, 0, 2460275073345600 - (σ 109 (fw_c ((10 - (10 * a6)) + a10)).toNat)), none] [] (ab_ups σ 111 (fw_c a7).toNat (fw_c a10)))) ∧ (fw_d (2460275073345600 - (σ 109 (fw_c ((10 - (10 * a6)) + a10)).toNat)) ≤ fw_d a8 → G 144 [some (2, 93, 0), o1, o2, some (0, 0, a3), some (0, 0, a4), some (0, 0, a5), some (0, 0, a6), some (0, 0, a7), some (1, 0, a8), none, some (0, 0, a10), some (1, 0, 2460275073345600 - (σ 109 (fw_c ((10 - (10 * a6)) + a10)).toNat)), none] [] σ)))) : G 92 [some (2, 93, 0), o1, o2, some (0, 0, a3), some (0, 0, a4), some (0, 0, a5), some (0, 0, a6), some (0, 0, a7), some (1, 0, a8), none, some (0, 0, a10), o11, o12] [] σ := fw_on hG [7, 10, 27, 74, 90, 92, 144] 200 h
theorem fs_m_layBest_144 {G : fw_K} {R : fw_KR} (hG : fw_cls st_m_layBest R G) {a3 a4 a5 a6 a7 a8 a10 : Int} {o1 o2 o11 o12 : Option ab_AV} {σ : ab_SG} (h : G 92 [some (2, 93, 0), o1, o2, some (0, 0, a3), some (0, 0, a4), some (0, 0, a5), some (0, 0, a6), some (0, 0, a7), some (1, 0, a8), none, some (0, 0, a10 + (-1)), o11, o12] [] σ) : G 144 [some (2, 93, 0), o1, o2, some (0, 0, a3), some (0, 0, a4), some (0, 0, a5), some (0, 0, a6), some (0, 0, a7), some (1, 0, a8), none, some (0, 0, a10), o11, o12] [] σ := fw_on hG [7, 10, 27, 74, 90, 92, 144] 200 h
abbrev fk_m_isRound : List fw_CR := [(264, 1, true, 11, 0, sp_m_isClue), (281, 1, true, 11, 0, sp_m_isPerson)]
abbrev st_m_isRound : fw_K → fw_KR → fw_K := fw_st vwCl nn_sh nn_kd fw_kv fw_wc (nn_KI20.map (fun x => x.1)) (nn_KJ20.map (fun x => x.1)) (nn_PF20.map (fun x => x.1)) (nn_PS20.map (fun x => x.1)) fk_m_isRound 1 nn_dt295 4 1
theorem fs_m_isRound_0 {G : fw_K} {R : fw_KR} (hG : fw_cls st_m_isRound R G) {p q c : Int} {σ : ab_SG} (h : sp_m_isPerson [(2, 93, 0), (0, 0, p)] σ (fun rv σ2 => G 5 [some (2, 93, 0), some (0, 0, p), some (0, 0, q), some (0, 0, c)] (rv.toList ++ []) σ2)) : G 0 [some (2, 93, 0), some (0, 0, p), some (0, 0, q), some (0, 0, c)] [] σ := fw_on hG [5, 13, 26] 200 h
theorem fs_m_isRound_5 {G : fw_K} {R : fw_KR} (hG : fw_cls st_m_isRound R G) {a1 a2 a3 b0 : Int} {σ : ab_SG} (h : (fw_c b0 = 0 → (0 ≤ fw_c 0 ∧ fw_c 0 ≤ 1) ∧ R (some (0, 0, 0)) σ) ∧ (fw_c b0 ≠ 0 → sp_m_isPerson [(2, 93, 0), (0, 0, a2)] σ (fun rv σ2 => G 13 [some (2, 93, 0), some (0, 0, a1), some (0, 0, a2), some (0, 0, a3)] (rv.toList ++ []) σ2))) : G 5 [some (2, 93, 0), some (0, 0, a1), some (0, 0, a2), some (0, 0, a3)] [(0, 0, b0)] σ := fw_on hG [5, 13, 26] 200 h
theorem fs_m_isRound_13 {G : fw_K} {R : fw_KR} (hG : fw_cls st_m_isRound R G) {a1 a2 a3 b0 : Int} {σ : ab_SG} (h : (fw_c b0 = 0 → (0 ≤ fw_c 0 ∧ fw_c 0 ≤ 1) ∧ R (some (0, 0, 0)) σ) ∧ (fw_c b0 ≠ 0 → (fw_c a1 = fw_c a2 → (0 ≤ fw_c 0 ∧ fw_c 0 ≤ 1) ∧ R (some (0, 0, 0)) σ) ∧ (fw_c a1 ≠ fw_c a2 → sp_m_isClue [(2, 93, 0), (0, 0, a3)] σ (fun rv σ2 => G 26 [some (2, 93, 0), some (0, 0, a1), some (0, 0, a2), some (0, 0, a3)] (rv.toList ++ []) σ2)))) : G 13 [some (2, 93, 0), some (0, 0, a1), some (0, 0, a2), some (0, 0, a3)] [(0, 0, b0)] σ := fw_on hG [5, 13, 26] 200 h
theorem fs_m_isRound_26 {G : fw_K} {R : fw_KR} (hG : fw_cls st_m_isRound R G) {a1 a2 a3 b0 : Int} {σ : ab_SG} (h : (fw_c b0 = 0 → (0 ≤ fw_c 0 ∧ fw_c 0 ≤ 1) ∧ R (some (0, 0, 0)) σ) ∧ (fw_c b0 ≠ 0 → (0 ≤ fw_c 1 ∧ fw_c 1 ≤ 1) ∧ R (some (0, 0, 1)) σ)) : G 26 [some (2, 93, 0), some (0, 0, a1), some (0, 0, a2), some (0, 0, a3)] [(0, 0, b0)] σ := fw_on hG [5, 13, 26] 200 h
abbrev fk_m_isSpeech : List fw_CR := [(171, 3, false, 0, 0, sp_m_isIn), (381, 3, true, 11, 1, sp_m_isRound)]
abbrev st_m_isSpeech : fw_K → fw_KR → fw_K := fw_st vwCl nn_sh nn_kd fw_kv fw_wc (nn_KI20.map (fun x => x.1)) (nn_KJ20.map (fun x => x.1)) (nn_PF20.map (fun x => x.1)) (nn_PS20.map (fun x => x.1)) fk_m_isSpeech 2 nn_dt294 5 1
theorem fs_m_isSpeech_0 {G : fw_K} {R : fw_KR} (hG : fw_cls st_m_isSpeech R G) {p q n c : Int} {σ : ab_SG} (h : sp_m_isRound [(2, 93, 0), (0, 0, p), (0, 0, q), (0, 0, c)] σ (fun rv σ2 => G 8 [some (2, 93, 0), some (0, 0, p), some (0, 0, q), some (0, 0, n), some (0, 0, c)] (rv.toList ++ []) σ2)) : G 0 [some (2, 93, 0), some (0, 0, p), some (0, 0, q), some (0, 0, n), some (0, 0, c)] [] σ := fw_on hG [8, 18] 200 h
theorem fs_m_isSpeech_8 {G : fw_K} {R : fw_KR} (hG : fw_cls st_m_isSpeech R G) {a1 a2 a3 a4 b0 : Int} {σ : ab_SG} (h : (fw_c b0 = 0 → (0 ≤ fw_c 0 ∧ fw_c 0 ≤ 1) ∧ R (some (0, 0, 0)) σ) ∧ (fw_c b0 ≠ 0 → sp_m_isIn [(0, 0, a3), (0, 0, 0), (0, 0, 9)] σ (fun rv σ2 => G 18 [some (2, 93, 0), some (0, 0, a1), some (0, 0, a2), some (0, 0, a3), some (0, 0, a4)] (rv.toList ++ []) σ2))) : G 8 [some (2, 93, 0), some (0, 0, a1), some (0, 0, a2), some (0, 0, a3), some (0, 0, a4)] [(0, 0, b0)] σ := fw_on hG [8, 18] 200 h
theorem fs_m_isSpeech_18 {G : fw_K} {R : fw_KR} (hG : fw_cls st_m_isSpeech R G) {a1 a2 a3 a4 b0 : Int} {σ : ab_SG} (h : (fw_c b0 = 0 → (0 ≤ fw_c 0 ∧ fw_c 0 ≤ 1) ∧ R (some (0, 0, 0)) σ) ∧ (fw_c b0 ≠ 0 → (0 ≤ fw_c 1 ∧ fw_c 1 ≤ 1) ∧ R (some (0, 0, 1)) σ)) : G 18 [some (2, 93, 0), some (0, 0, a1), some (0, 0, a2), some (0, 0, a3), some (0, 0, a4)] [(0, 0, b0)] σ := fw_on hG [8, 18] 200 h
abbrev fk_m_best : List fw_CR := [(384, 4, true, 11, 2, sp_m_isSpeech), (387, 3, true, 11, 10, sp_m_layBest)]
abbrev st_m_best : fw_K → fw_KR → fw_K := fw_st vwCl nn_sh nn_kd fw_kv fw_wc (nn_KI20.map (fun x => x.1)) (nn_KJ20.map (fun x => x.1)) (nn_PF20.map (fun x => x.1)) (nn_PS20.map (fun x => x.1)) fk_m_best 11 nn_dt293 5 0
theorem fs_m_best_0 {G : fw_K} {R : fw_KR} (hG : fw_cls st_m_best R G) {p q n c : Int} {σ : ab_SG} (h : sp_m_isSpeech [(2, 93, 0), (0, 0, p), (0, 0, q), (0, 0, n), (0, 0, c)] (ab_ups σ 93 0 (fw_c 0)) (fun rv σ2 => G 14 [some (2, 93, 0), some (0, 0, p), some (0, 0, q), some (0, 0, n), some (0, 0, c)] (rv.toList ++ []) σ2)) : G 0 [some (2, 93, 0), some (0, 0, p), some (0, 0, q), some (0, 0, n), some (0, 0, c)] [] σ := fw_on hG [14, 27] 200 h
theorem fs_m_best_14 {G : fw_K} {R : fw_KR} (hG : fw_cls st_m_best R G) {a1 a2 a3 a4 b0 : Int} {σ : ab_SG} (h : (fw_c b0 ≠ 0 → sp_m_layBest [(2, 93, 0), (0, 0, a1), (0, 0, a2), (0, 0, a4)] σ (fun rv σ2 => G 27 [some (2, 93, 0), some (0, 0, a1), some (0, 0, a2), some (0, 0, a3), some (0, 0, a4)] (rv.toList ++ []) σ2)) ∧ (fw_c b0 = 0 → R (some (0, 0, (-1))) σ)) : G 14 [some (2, 93, 0), some (0, 0, a1), some (0, 0, a2), some (0, 0, a3), some (0, 0, a4)] [(0, 0, b0)] σ := fw_on hG [14, 27] 200 h
theorem fs_m_best_27 {G : fw_K} {R : fw_KR} (hG : fw_cls st_m_best R G) {a1 a2 a3 a4 : Int} {σ : ab_SG} (h : (0 ≤ fw_c a3 ∧ fw_c a3 < ((20 : Nat) : Int)) ∧ (R (some (0, 0, σ 111 (fw_c a3).toNat)) σ)) : G 27 [some (2, 93, 0), some (0, 0, a1), some (0, 0, a2), some (0, 0, a3), some (0, 0, a4)] [] σ := fw_on hG [14, 27] 200 h
abbrev fk_m_fair : List fw_CR := [(381, 3, true, 11, 1, sp_m_isRound), (387, 3, true, 11, 10, sp_m_layBest)]
abbrev st_m_fair : fw_K → fw_KR → fw_K := fw_st vwCl nn_sh nn_kd fw_kv fw_wc (nn_KI20.map (fun x => x.1)) (nn_KJ20.map (fun x => x.1)) (nn_PF20.map (fun x => x.1)) (nn_PS20.map (fun x => x.1)) fk_m_fair 11 nn_dt304 8 0
theorem fs_m_fair_0 {G : fw_K} {R : fw_KR} (hG : fw_cls st_m_fair R G) {p q c : Int} {σ : ab_SG} (h : sp_m_isRound [(2, 93, 0), (0, 0, p), (0, 0, q), (0, 0, c)] (ab_ups σ 93 0 (fw_c 0)) (fun rv σ2 => G 12 [some (2, 93, 0), some (0, 0, p), some (0, 0, q), some (0, 0, c), none, none, none, none] (rv.toList ++ []) σ2)) : G 0 [some (2, 93, 0), some (0, 0, p), some (0, 0, q), some (0, 0, c), none, none, none, none] [] σ := fw_on hG [12, 24, 73] 200 h
theorem fs_m_fair_12 {G : fw_K} {R : fw_KR} (hG : fw_cls st_m_fair R G) {a1 a2 a3 b0 : Int} {σ : ab_SG} (h : (fw_c b0 ≠ 0 → sp_m_layBest [(2, 93, 0), (0, 0, a1), (0, 0, a2), (0, 0, a3)] σ (fun rv σ2 => G 24 [some (2, 93, 0), some (0, 0, a1), some (0, 0, a2), some (0, 0, a3), none, none, none, none] (rv.toList ++ []) σ2)) ∧ (fw_c b0 = 0 → R (some (0, 0, (-1))) σ)) : G 12 [some (2, 93, 0), some (0, 0, a1), some (0, 0, a2), some (0, 0, a3), none, none, none, none] [(0, 0, b0)] σ := fw_on hG [12, 24, 73] 200 h
theorem fs_m_fair_24 {G : fw_K} {R : fw_KR} (hG : fw_cls st_m_fair R G) {a1 a2 a3 : Int} {σ : ab_SG} (h : (0 ≤ fw_c 0 ∧ fw_c 0 < ((20 : Nat) : Int)) ∧ ((0 ≤ fw_c 10 ∧ fw_c 10 < ((20 : Nat) : Int)) ∧ ((fw_d (2 * (σ 109 (fw_c 0).toNat)) ≤ fw_d 2460275073345600 → G 73 [some (2, 93, 0), some (0, 0, a1), some (0, 0, a2), some (0, 0, a3), some (1, 0, 2 * (σ 109 (fw_c 0).toNat)), none, some (1, 0, 2 * (2460275073345600 - (σ 109 (fw_c 10).toNat))), none] [] σ) ∧ (fw_d 2460275073345600 < fw_d (2 * (σ 109 (fw_c 0).toNat)) → (fw_d (2 * (2460275073345600 - (σ 109 (fw_c 10).toNat))) ≤ fw_d 2460275073345600 → G 73 [some (2, 93, 0), some (0, 0, a1), some (0, 0, a2), some (0, 0, a3), some (1, 0, 2 * (σ 109 (fw_c 0).toNat)), none, some (1, 0, 2 * (2460275073345600 - (σ 109 (fw_c 10).toNat))), none] [] σ) ∧ (fw_d 2460275073345600 < fw_d (2 * (2460275073345600 - (σ 109 (fw_c 10).toNat))) → R (some (0, 0, 1)) σ))))) : G 24 [some (2, 93, 0), some (0, 0, a1), some (0, 0, a2), some (0, 0, a3), none, none, none, none] [] σ := fw_on hG [12, 24, 73] 200 h
theorem fs_m_fair_73 {G : fw_K} {R : fw_KR} (hG : fw_cls st_m_fair R G) {a1 a2 a3 a4 a6 : Int} {σ : ab_SG} (h : (fw_d 2460275073345600 ≤ fw_d a4 → R (some (0, 0, 0)) σ) ∧ (fw_d a4 < fw_d 2460275073345600 → (fw_d 2460275073345600 ≤ fw_d a6 → R (some (0, 0, 0)) σ) ∧ (fw_d a6 < fw_d 2460275073345600 → R (some (0, 0, (-1))) σ))) : G 73 [some (2, 93, 0), some (0, 0, a1), some (0, 0, a2), some (0, 0, a3), some (1, 0, a4), none, some (1, 0, a6), none] [] σ := fw_on hG [12, 24, 73] 200 h
abbrev fk_m_lowOf : List fw_CR := [(387, 3, true, 11, 10, sp_m_layBest)]
abbrev st_m_lowOf : fw_K → fw_KR → fw_K := fw_st vwCl nn_sh nn_kd fw_kv fw_wc (nn_KI20.map (fun x => x.1)) (nn_KJ20.map (fun x => x.1)) (nn_PF20.map (fun x => x.1)) (nn_PS20.map (fun x => x.1)) fk_m_lowOf 11 nn_dt306 6 0
theorem fs_m_lowOf_0 {G : fw_K} {R : fw_KR} (hG : fw_cls st_m_lowOf R G) {p q c : Int} {σ : ab_SG} (h : sp_m_layBest [(2, 93, 0), (0, 0, p), (0, 0, q), (0, 0, c)] σ (fun rv σ2 => G 7 [some (2, 93, 0), some (0, 0, p), some (0, 0, q), some (0, 0, c), none, none] (rv.toList ++ []) σ2)) : G 0 [some (2, 93, 0), some (0, 0, p), some (0, 0, q), some (0, 0, c), none, none] [] σ := fw_on hG [7, 13] 200 h
theorem fs_m_lowOf_7 {G : fw_K} {R : fw_KR} (hG : fw_cls st_m_lowOf R G) {a1 a2 a3 : Int} {σ : ab_SG} (h : G 13 [some (2, 93, 0), some (0, 0, a1), some (0, 0, a2), some (0, 0, a3), some (0, 0, 0), some (0, 0, 0)] [] σ) : G 7 [some (2, 93, 0), some (0, 0, a1), some (0, 0, a2), some (0, 0, a3), none, none] [] σ := fw_on hG [7, 13] 200 h
theorem fs_m_lowOf_13 {G : fw_K} {R : fw_KR} (hG : fw_cls st_m_lowOf R G) {a1 a2 a3 a4 a5 : Int} {σ : ab_SG} (h : (0 ≤ fw_c ((10 * a5) + a4) ∧ fw_c ((10 * a5) + a4) < ((20 : Nat) : Int)) ∧ ((fw_c (σ 111 (fw_c ((10 * a5) + a4)).toNat) = 0 → R (some (0, 0, a4)) σ) ∧ (fw_c (σ 111 (fw_c ((10 * a5) + a4)).toNat) ≠ 0 → (0 ≤ fw_c ((10 * a5) + a4) ∧ fw_c ((10 * a5) + a4) < ((20 : Nat) : Int)) ∧ (G 13 [some (2, 93, 0), some (0, 0, a1), some (0, 0, a2), some (0, 0, a3), some (0, 0, σ 111 (fw_c ((10 * a5) + a4)).toNat), some (0, 0, 1 - a5)] [] σ)))) : G 13 [some (2, 93, 0), some (0, 0, a1), some (0, 0, a2), some (0, 0, a3), some (0, 0, a4), some (0, 0, a5)] [] σ := fw_on hG [7, 13] 200 h
abbrev fk_m_low : List fw_CR := [(381, 3, true, 11, 1, sp_m_isRound), (398, 3, true, 11, 11, sp_m_lowOf)]
abbrev st_m_low : fw_K → fw_KR → fw_K := fw_st vwCl nn_sh nn_kd fw_kv fw_wc (nn_KI20.map (fun x => x.1)) (nn_KJ20.map (fun x => x.1)) (nn_PF20.map (fun x => x.1)) (nn_PS20.map (fun x => x.1)) fk_m_low 12 nn_dt305 4 0
theorem fs_m_low_0 {G : fw_K} {R : fw_KR} (hG : fw_cls st_m_low R G) {p q c : Int} {σ : ab_SG} (h : sp_m_isRound [(2, 93, 0), (0, 0, p), (0, 0, q), (0, 0, c)] (ab_ups σ 93 0 (fw_c 0)) (fun rv σ2 => G 12 [some (2, 93, 0), some (0, 0, p), some (0, 0, q), some (0, 0, c)] (rv.toList ++ []) σ2)) : G 0 [some (2, 93, 0), some (0, 0, p), some (0, 0, q), some (0, 0, c)] [] σ := fw_on hG [12, 22] 200 h
theorem fs_m_low_12 {G : fw_K} {R : fw_KR} (hG : fw_cls st_m_low R G) {a1 a2 a3 b0 : Int} {σ : ab_SG} (h : (fw_c b0 = 0 → R (some (0, 0, (-1))) σ) ∧ (fw_c b0 ≠ 0 → sp_m_lowOf [(2, 93, 0), (0, 0, a1), (0, 0, a2), (0, 0, a3)] σ (fun rv σ2 => G 22 [some (2, 93, 0), some (0, 0, a1), some (0, 0, a2), some (0, 0, a3)] (rv.toList ++ []) σ2))) : G 12 [some (2, 93, 0), some (0, 0, a1), some (0, 0, a2), some (0, 0, a3)] [(0, 0, b0)] σ := fw_on hG [12, 22] 200 h
theorem fs_m_low_22 {G : fw_K} {R : fw_KR} (hG : fw_cls st_m_low R G) {a1 a2 a3 b0 : Int} {σ : ab_SG} (h : R (some (0, 0, b0)) σ) : G 22 [some (2, 93, 0), some (0, 0, a1), some (0, 0, a2), some (0, 0, a3)] [(0, 0, b0)] σ := fw_on hG [12, 22] 200 h

section
variable {l : Launch} {cy : Nat → ClassId} {ad wr cr : Nat → Nat} {D : va_G}
theorem fm_m_highest (hinj : nn_inj ad) : fw_H l cy ad wr cr D 298 0 sp_m_highest := fw_mk hinj (⟨"NameNotesModel", "highest", "(I)I"⟩, prog_14_method_93_code, 2, (Option.some Jvm.ClassFile.FieldType.int), 1, true, 0) rfl rfl nn_KI20_ok nn_KJ20_ok nn_PF20_ok nn_PS20_ok (by decide +kernel) rfl rfl (fun _ h => absurd h List.not_mem_nil) (fun as σ K h => by
  obtain ⟨n, rfl, hn, h1, h2⟩ := h
  refine ⟨rfl, fun G hG => fs_m_highest_0 hG ?_⟩
  rw [oz_c9 n hn, show fw_c 3 = 3 from fw_s (by decide) (by decide)]
  refine ⟨fun z => ?_, fun z => ⟨by decide, h2 (by omega)⟩⟩
  have k := h1 (by omega)
  rw [show ((n - 1 : Nat) : Int) = (n : Int) - 1 by omega] at k
  exact k)
theorem fm_m_layOdds (hinj : nn_inj ad) : fw_H l cy ad wr cr D 297 9 sp_m_layOdds := fw_mk hinj (⟨"NameNotesModel", "layOdds", "(III)V"⟩, prog_14_method_92_code, 5, (Option.none : Option Jvm.ClassFile.FieldType), 3, true, 4) rfl rfl nn_KI20_ok nn_KJ20_ok nn_PF20_ok nn_PS20_ok (by decide +kernel) rfl rfl (List.forall_mem_cons.mpr ⟨fw_row nn_PM20_ok (x := 303) (k := 0) (mn := 255) (np := 1) (ob := true) (ci := 11) (⟨"NameNotesModel", "left", "(I)I"⟩, prog_14_method_47_code, 2, (Option.some Jvm.ClassFile.FieldType.int), 1, true, 0) rfl (by decide +kernel) rfl rfl (by decide) (fun _ => ⟨_, _, rfl⟩) (fm_m_left hinj), (List.forall_mem_cons.mpr ⟨fw_row nn_PM20_ok (x := 355) (k := 0) (mn := 283) (np := 3) (ob := true) (ci := 11) (⟨"NameNotesModel", "oddsOf", "(III)J"⟩, prog_14_method_79_code, 4, (Option.some Jvm.ClassFile.FieldType.long), 3, true, 2) rfl (by decide +kernel) rfl rfl (by decide) (fun _ => ⟨_, _, rfl⟩) (fm_m_oddsOf hinj), (fun _ h => absurd h List.not_mem_nil)⟩)⟩) (fun as σ K h => by
  obtain ⟨A, p, q, c, rfl, hN, hp, hq, hc, h⟩ := h
  have nn := N_n hN.1
  have c9 : fw_c 9 = 9 := fw_s (by decide) (by decide)
  have cl := oz_clue hN.1 hN.2.1 hc.1 hc.2
  refine ⟨rfl, fun G hG => fs_m_layOdds_0 hG ?_⟩
  have loop : ∀ (f n : Nat) (τ : ab_SG), n + f = 10 → 1 ≤ n → ab_okM dm_H σ τ → (∀ m : Nat, 1 ≤ m → m < n → τ 108 m = 2520 * oz_odds A p (m : Int) (v_set A c) ∧ τ 108 (10 + m) = 2520 * oz_odds A q (m : Int) (v_set A c)) → G 3 [some (2, 93, 0), some (0, 0, (p : Int)), some (0, 0, (q : Int)), some (0, 0, c), some (0, 0, (n : Int))] [] τ := by
    intro f
    induction f with
    | zero =>
      intro n τ hn h0 M I
      refine fs_m_layOdds_3 hG ?_
      rw [c9, fw_s (x := (n : Int)) (by omega) (by omega)]
      refine ⟨fun _ => h τ M (fun i hi hm => ?_), fun z => absurd z (by omega)⟩
      unfold v_ch
      by_cases c : i < 10
      · rw [if_pos c]
        exact (I i (by omega) (by omega)).1
      · rw [if_neg c]
        have e := (I (i - 10) (by omega) (by omega)).2
        rw [show 10 + (i - 10) = i by omega] at e
        exact e
    | succ f ih =>
      intro n τ hn h0 M I
      have cn : fw_c (n : Int) = (n : Int) := fw_s (by omega) (by omega)
      have c10 : fw_c (10 + (n : Int)) = ((10 + n : Nat) : Int) := by
        rw [show 10 + (n : Int) = ((10 + n : Nat) : Int) by omega]
        exact fw_s (by omega) (by omega)
      have Nt := oz_NMM M (by decide +kernel) hN
      have bp := oz_odds_bm Nt hp (n := (n : Int)) cl.1
      have bq := oz_odds_bm Nt hq (n := (n : Int)) cl.1
      refine fs_m_layOdds_3 hG ?_
      rw [c9, cn]
      refine ⟨fun z => absurd z (by omega), fun _ => ⟨A, c, rfl, Nt, by omega, fs_m_layOdds_25 hG ⟨A, p, (n : Int), v_set A c, rfl, Nt, hp, by omega, cl.1, cl.2, fun σ1 M1 => fs_m_layOdds_28 hG ⟨by rw [cn]; omega, trivial, ?_⟩⟩⟩⟩
      rw [cn, Int.toNat_natCast, fw_d_id (x := 2520 * oz_odds A p (n : Int) (v_set A c)) (by omega) (by omega)]
      have Mm : ab_okM dm_H τ (ab_ups σ1 108 n (2520 * oz_odds A p (n : Int) (v_set A c))) := fw_okM_upa (od_up M1 (by decide)) (by decide)
      have m108 : ∀ j : Nat, (ab_ups σ1 108 n (2520 * oz_odds A p (n : Int) (v_set A c))) 108 j = if j = n then 2520 * oz_odds A p (n : Int) (v_set A c) else τ 108 j := fun j => by
        by_cases c : j = n
        · rw [if_pos c, c, ab_ups_eq]
        · rw [if_neg c, ab_ups_ne (fun z => c z.2), dm_108 M1]
      generalize ab_ups σ1 108 n (2520 * oz_odds A p (n : Int) (v_set A c)) = ρ at Mm m108 ⊢
      have Nr := oz_NMM Mm (by decide +kernel) Nt
      refine ⟨A, c, rfl, Nr, by omega, fs_m_layOdds_47 hG ⟨A, q, (n : Int), v_set A c, rfl, Nr, hq, by omega, cl.1, cl.2, fun σ3 M3 => fs_m_layOdds_50 hG ⟨by rw [c10]; omega, trivial, ?_⟩⟩⟩
      rw [c10, Int.toNat_natCast, fw_d_id (x := 2520 * oz_odds A q (n : Int) (v_set A c)) (by omega) (by omega)]
      have k := ih (n + 1) (ab_ups σ3 108 (10 + n) (2520 * oz_odds A q (n : Int) (v_set A c))) (by omega) (by omega) (on_trans M (fw_okM_upa (on_trans Mm (od_up M3 (by decide))) (by decide))) (fun m h1 h2 => by
        rw [ab_ups_ne (b := m) (fun z => by have := z.2; omega), dm_108 M3, m108 m]
        by_cases c : m = n
        · rw [if_pos c, c, ab_ups_eq]
          exact ⟨rfl, rfl⟩
        · rw [if_neg c, ab_ups_ne (fun z => by have := z.2; omega), dm_108 M3, m108, if_neg (by omega)]
          exact I m h1 (by omega))
      rw [show ((n + 1 : Nat) : Int) = (n : Int) + 1 from rfl] at k
      exact k
  exact loop 9 1 σ rfl (Nat.le_refl 1) (fw_okM_refl _ _) (fun m h1 h2 => absurd h1 (by omega)))
theorem fm_m_layBest (hinj : nn_inj ad) : fw_H l cy ad wr cr D 296 10 sp_m_layBest := fw_mk hinj (⟨"NameNotesModel", "layBest", "(III)V"⟩, prog_14_method_94_code, 13, (Option.none : Option Jvm.ClassFile.FieldType), 3, true, 4) rfl rfl nn_KI20_ok nn_KJ20_ok nn_PF20_ok nn_PS20_ok (by decide +kernel) rfl rfl (List.forall_mem_cons.mpr ⟨fw_row nn_PM20_ok (x := 374) (k := 0) (mn := 297) (np := 3) (ob := true) (ci := 11) (⟨"NameNotesModel", "layOdds", "(III)V"⟩, prog_14_method_92_code, 5, (Option.none : Option Jvm.ClassFile.FieldType), 3, true, 4) rfl (by decide +kernel) rfl rfl (by decide) (fun _ => ⟨_, _, rfl⟩) (fm_m_layOdds hinj), (List.forall_mem_cons.mpr ⟨fw_row nn_PM20_ok (x := 378) (k := 0) (mn := 298) (np := 1) (ob := true) (ci := 11) (⟨"NameNotesModel", "highest", "(I)I"⟩, prog_14_method_93_code, 2, (Option.some Jvm.ClassFile.FieldType.int), 1, true, 0) rfl (by decide +kernel) rfl rfl (by decide) (fun _ => ⟨_, _, rfl⟩) (fm_m_highest hinj), (fun _ h => absurd h List.not_mem_nil)⟩)⟩) (fun as σ K h => by
  obtain ⟨A, p, q, c, rfl, hN, h3, hb, h⟩ := h
  have nn := N_n hN.1
  obtain ⟨h1, h2, -, -, h5⟩ := hb
  obtain ⟨p, rfl⟩ := Int.eq_ofNat_of_zero_le h1.1
  obtain ⟨q, rfl⟩ := Int.eq_ofNat_of_zero_le h2.1
  have fb := hN.2.1.2.2.2.2
  obtain ⟨f, ef⟩ := Int.eq_ofNat_of_zero_le (show 0 ≤ A 49 14 by omega)
  have cl := oz_clue hN.1 hN.2.1 h5.1 h5.2
  have hCC := v_chm hN (show p < 5 by omega) (show q < 5 by omega) cl.1
  unfold v_du at h
  rw [ef] at h fb h3
  rw [Int.toNat_natCast, Int.toNat_natCast, Int.toNat_natCast] at h
  obtain ⟨C, eC⟩ : ∃ C : Nat → Int, C = v_ch A p q (v_set A c) := ⟨_, rfl⟩
  rw [← eC] at h hCC
  have c1 : fw_c 1 = 1 := fw_s (by decide) (by decide)
  have c2 : fw_c 2 = 2 := fw_s (by decide) (by decide)
  have c10 : fw_c 10 = 10 := fw_s (by decide) (by decide)
  refine ⟨rfl, fun G hG => fs_m_layBest_0 hG ⟨A, p, q, c, rfl, hN, by omega, by omega, h5, fun σ1 M0 I0 => fs_m_layBest_7 hG ?_⟩⟩
  have side : ∀ (S : Nat → Prop) (st : (Nat → Int) × (Nat → Int)) (sd n m : Nat) (k a : Int) (τ : ab_SG) (o7 o8 o10 o11 o12 : Option ab_AV), a = (sd : Int) → sd < 2 → n < 10 → m < 10 → (n = 0 → 1 ≤ m) → ((n ≠ 0 → m = n - 1) ∧ (n = 0 → τ 95 3 = (m : Int))) → dm_A S τ st → dl_B st → (∀ i : Nat, i < 20 → 1 ≤ i % 10 → τ 108 i = 2520 * C i) → (∀ b : Nat, 1 ≤ b → b ≤ m → S (10 - 10 * sd + b)) →
      (∀ (τ' : ab_SG) (o7 o8 o10 o11 o12 : Option ab_AV), ab_okM dm_B τ τ' → dm_A (fun i => S i ∨ i = 10 * sd + n) τ' (dl_1 C sd n m st) → G 27 [some (2, 93, 0), some (0, 0, (p : Int)), some (0, 0, (q : Int)), some (0, 0, c), some (0, 0, k), some (0, 0, (n : Int)), some (0, 0, a + 1), o7, o8, none, o10, o11, o12] [] τ') →
      G 27 [some (2, 93, 0), some (0, 0, (p : Int)), some (0, 0, (q : Int)), some (0, 0, c), some (0, 0, k), some (0, 0, (n : Int)), some (0, 0, a), o7, o8, none, o10, o11, o12] [] τ := by
    intro S st sd n m k a τ o7 o8 o10 o11 o12 ea hs hn hm hz hg hA hB hC hS kont
    subst ea
    have cell : ∀ b : Nat, 1 ≤ b → b ≤ m → τ 109 (10 - 10 * sd + b) = 2520 * st.1 (10 - 10 * sd + b) := fun b h1 h2 => (hA _ (hS b h1 h2)).1
    have e := dl_rz (C := C) (C' := τ 108) (V := st.1) (V' := τ 109) (side := sd) (n := n) (m := m) hz (fun z => hC _ (by omega) (by omega)) cell (fun b _ _ => (hB _).1)
    have c0 : n ≠ 0 → 0 ≤ C (10 - 10 * sd + n) ∧ C (10 - 10 * sd + n) ≤ 976299632280 := fun z => hCC _ (by omega) (by omega)
    have e108 : n ≠ 0 → τ 108 (10 - 10 * sd + n) = 2520 * C (10 - 10 * sd + n) := fun z => hC _ (by omega) (by omega)
    have vb : ∀ b : Nat, 1 ≤ b → b ≤ m → 0 ≤ τ 109 (10 - 10 * sd + b) ∧ τ 109 (10 - 10 * sd + b) ≤ 2460275073345600 := fun b h1 h2 => by
      have := (hB (10 - 10 * sd + b)).1
      rw [cell b h1 h2]
      omega
    unfold dm_A dl_1 at kont
    generalize dl_r 976299632280 C st.1 sd n m = r at e kont
    unfold dl_r dl_st at e
    obtain ⟨i, ei⟩ : ∃ i : Nat, i = 10 * sd + n := ⟨_, rfl⟩
    obtain ⟨o, eo⟩ : ∃ o : Nat, o = 10 - 10 * sd := ⟨_, rfl⟩
    rw [← ei] at kont
    rw [← eo] at e c0 e108 vb
    clear cell
    obtain ⟨V, eV⟩ : ∃ V : Nat → Int, V = fun b => τ 109 (o + b) := ⟨_, rfl⟩
    have hVb : ∀ b : Nat, τ 109 (o + b) = V b := fun b => by rw [eV]
    rw [← eV] at e
    have ci : fw_c (10 * (sd : Int) + (n : Int)) = (i : Int) := by
      rw [show 10 * (sd : Int) + (n : Int) = (i : Int) by omega]
      exact fw_s (by omega) (by omega)
    have cj : ∀ b : Nat, b < 10 → fw_c ((10 - (10 * (sd : Int))) + (b : Int)) = ((o + b : Nat) : Int) := fun b hb => by
      rw [show (10 - (10 * (sd : Int))) + (b : Int) = ((o + b : Nat) : Int) by omega]
      exact fw_s (by omega) (by omega)
    have loop : ∀ (g b : Nat) (v mv : Int) (τ' : ab_SG) (o11 o12 : Option ab_AV), b = g → b ≤ m → (-1 ≤ v ∧ v ≤ 2460275073345600) → ab_okM dm_B τ τ' → (∀ j : Nat, τ' 109 j = τ 109 j) → (∀ j : Nat, j ≠ i → τ' 111 j = τ 111 j) → τ' 111 i = mv → dl_s 2460275073345600 V b (v, mv) = (2520 * r.1, r.2) → G 92 [some (2, 93, 0), some (0, 0, (p : Int)), some (0, 0, (q : Int)), some (0, 0, c), some (0, 0, k), some (0, 0, (n : Int)), some (0, 0, (sd : Int)), some (0, 0, 10 * (sd : Int) + (n : Int)), some (1, 0, v), none, some (0, 0, (b : Int)), o11, o12] [] τ' := by
      intro g
      induction g with
      | zero =>
        intro b v mv τ' o11 o12 hbg hbm hv M h109 h111 hmv ee
        have cb : fw_c (b : Int) = (b : Int) := oz_c9 b (by omega)
        have e2 : (v, mv) = (2520 * r.1, r.2) := by rw [← ee, hbg]; rfl
        have ev : v = 2520 * r.1 := congrArg Prod.fst e2
        have em : mv = r.2 := congrArg Prod.snd e2
        refine fs_m_layBest_92 hG ?_
        rw [cb, c1]
        refine ⟨fun _ => ⟨by rw [ci]; omega, trivial, ?_⟩, fun z => absurd z (by omega)⟩
        rw [ci, Int.toNat_natCast, fw_d_id (x := v) (by omega) (by omega)]
        refine kont _ _ _ _ _ _ (fw_okM_upa M (by decide)) (fun j hj => ?_)
        show _ = 2520 * dl_put _ _ _ j ∧ _ = dl_put _ _ _ j
        by_cases z : j = i
        · subst z
          rw [ab_ups_eq, ab_ups_ne (fun z => absurd z.1 (by decide)), dl_put_eq, dl_put_eq]
          exact ⟨ev, hmv.trans em⟩
        · have s := hA j (hj.resolve_right z)
          rw [ab_ups_ne (fun y => z y.2), ab_ups_ne (fun z => absurd z.1 (by decide)), dl_put_ne _ _ z, dl_put_ne _ _ z, h109, h111 j z]
          exact s
      | succ g ih =>
        intro b v mv τ' o11 o12 hbg hbm hv M h109 h111 hmv ee
        subst hbg
        have cb : fw_c ((g + 1 : Nat) : Int) = ((g + 1 : Nat) : Int) := oz_c9 (g + 1) (by omega)
        have vb1 := vb (g + 1) (by omega) hbm
        rw [hVb (g + 1)] at vb1
        refine fs_m_layBest_92 hG ?_
        rw [cb, c1]
        refine ⟨fun z => absurd z (by omega), fun _ => ⟨by rw [cj (g + 1) (by omega)]; omega, ?_⟩⟩
        rw [cj (g + 1) (by omega), Int.toNat_natCast, h109, hVb (g + 1), fw_d_id (x := 2460275073345600 - V (g + 1)) (by omega) (by omega), fw_d_id (x := v) (by omega) (by omega)]
        rw [dl_ss] at ee
        refine ⟨fun z => ⟨by rw [ci]; omega, trivial, fs_m_layBest_144 hG ?_⟩, fun z => fs_m_layBest_144 hG ?_⟩
        · rw [if_pos z] at ee
          rw [ci, Int.toNat_natCast]
          have w := ih g (2460275073345600 - V (g + 1)) ((g + 1 : Nat) : Int) (ab_ups τ' 111 i ((g + 1 : Nat) : Int)) (some (1, 0, 2460275073345600 - V (g + 1))) none rfl (by omega) (by omega) (fw_okM_upa M (by decide)) (fun j => by rw [ab_ups_ne (fun z => absurd z.1 (by decide)), h109]) (fun j hj => by rw [ab_ups_ne (fun y => hj y.2), h111 j hj]) ab_ups_eq ee
          rw [show ((g : Nat) : Int) = ((g + 1 : Nat) : Int) + (-1) by omega] at w
          exact w
        · rw [if_neg (by omega)] at ee
          have w := ih g v mv τ' (some (1, 0, 2460275073345600 - V (g + 1))) none rfl (by omega) hv M h109 h111 hmv ee
          rw [show ((g : Nat) : Int) = ((g + 1 : Nat) : Int) + (-1) by omega] at w
          exact w
    have at74 : ∀ (v : Int) (o8 o10 o11 o12 : Option ab_AV), (-1 ≤ v ∧ v ≤ 2460275073345600) → dl_s 2460275073345600 V m (v, 0) = (2520 * r.1, r.2) → G 74 [some (2, 93, 0), some (0, 0, (p : Int)), some (0, 0, (q : Int)), some (0, 0, c), some (0, 0, k), some (0, 0, (n : Int)), some (0, 0, (sd : Int)), some (0, 0, 10 * (sd : Int) + (n : Int)), o8, none, o10, o11, o12] [(1, 0, v)] τ := by
      intro v o8 o10 o11 o12 hv ee
      refine fs_m_layBest_74 hG ⟨by rw [ci]; omega, trivial, ?_⟩
      rw [ci, Int.toNat_natCast, fw_c0]
      have go : ∀ (w : Int) (o10 : Option ab_AV), w = (m : Int) → G 90 [some (2, 93, 0), some (0, 0, (p : Int)), some (0, 0, (q : Int)), some (0, 0, c), some (0, 0, k), some (0, 0, (n : Int)), some (0, 0, (sd : Int)), some (0, 0, 10 * (sd : Int) + (n : Int)), some (1, 0, v), none, o10, o11, o12] [(0, 0, w)] (ab_ups τ 111 i 0) := by
        intro w o10 ew
        subst ew
        exact fs_m_layBest_90 hG (loop m m v 0 _ _ _ rfl (Nat.le_refl m) hv (fw_okM_upa (fw_okM_refl _ _) (by decide)) (fun j => ab_ups_ne (fun z => absurd z.1 (by decide))) (fun j hj => ab_ups_ne (fun z => hj z.2)) ab_ups_eq ee)
      refine ⟨n, rfl, hn, fun z => go _ _ (by rw [hg.1 z]), fun z => go _ _ ?_⟩
      rw [ab_ups_ne (fun z => absurd z.1 (by decide))]
      exact hg.2 z
    refine fs_m_layBest_27 hG ?_
    rw [c2, oz_c9 sd (by omega), oz_c9 n hn]
    refine ⟨fun z => absurd z (by omega), fun _ => ⟨fun z => ⟨by rw [cj n hn]; omega, ?_⟩, fun z => ?_⟩⟩
    · rw [cj n hn, Int.toNat_natCast]
      have a1 := c0 (by omega)
      have a2 := e108 (by omega)
      rw [if_neg (show ¬ n = 0 by omega)] at e
      exact at74 _ _ _ _ _ (by omega) e
    · rw [if_pos (show n = 0 by omega)] at e
      exact at74 _ _ _ _ _ (by decide) e
  have e95 : ∀ τ : ab_SG, ab_okM dm_B σ1 τ → τ 95 3 = (f : Int) := fun τ M => by
    rw [dm_k (by decide) M 3, M0 95 3 (fun q hq hh => by
      have : ∀ q ∈ dm_H, q.1 ≠ 95 := by decide
      exact this q hq hh.1)]
    exact h3
  have e108 : ∀ τ : ab_SG, ab_okM dm_B σ1 τ → ∀ i : Nat, i < 20 → 1 ≤ i % 10 → τ 108 i = 2520 * C i := fun τ M i hi hm => by
    rw [dm_k (by decide) M i, eC]
    exact I0 i hi hm
  have loop : ∀ (g k : Nat) (τ : ab_SG) (o5 o6 o7 o8 o10 o11 o12 : Option ab_AV), k + g = 9 → ab_okM dm_B σ1 τ → dm_A (fun i => i < 20 ∧ 1 ≤ i % 10 ∧ i % 10 ≤ k) τ (dl_n C f k) → G 10 [some (2, 93, 0), some (0, 0, (p : Int)), some (0, 0, (q : Int)), some (0, 0, c), some (0, 0, ((k + 1 : Nat) : Int)), o5, o6, o7, o8, none, o10, o11, o12] [] τ := by
    intro g
    induction g with
    | zero =>
      intro k τ o5 o6 o7 o8 o10 o11 o12 hk M I
      have ek : k = 9 := by omega
      subst ek
      refine fs_m_layBest_10 hG ?_
      rw [c10, fw_s (x := ((9 + 1 : Nat) : Int)) (by decide) (by decide), dm_op (9 + 1) (by decide)]
      refine ⟨fun z => absurd z (by decide), fun _ => ⟨by decide, ?_⟩⟩
      refine side _ _ 0 0 f _ 0 τ _ _ _ _ _ rfl (by decide) (by decide) (by omega) (fun _ => fb.1 |> fun w => by omega) ⟨fun z => absurd rfl z, fun _ => e95 τ M⟩ I (dl_nb hCC (by omega) 9) (e108 τ M) (fun b h1 h2 => by show _ ∧ _ ∧ _; omega) (fun τ1 o7 o8 o10 o11 o12 M1 A1 => ?_)
      have Ma := on_trans M M1
      refine side _ _ 1 0 f _ _ τ1 _ _ _ _ _ rfl (by decide) (by decide) (by omega) (fun _ => by omega) ⟨fun z => absurd rfl z, fun _ => e95 τ1 Ma⟩ A1 (dl_1b (dl_nb hCC (by omega) 9) hCC (by decide) (by decide) (by omega) (fun _ => by omega) (fun z => absurd rfl z)) (e108 τ1 Ma) (fun b h1 h2 => Or.inl (by show _ ∧ _ ∧ _; omega)) (fun τ2 o7 o8 o10 o11 o12 M2 A2 => ?_)
      refine fs_m_layBest_27 hG ?_
      rw [c2, fw_s (x := (0 + 1 + 1 : Int)) (by decide) (by decide)]
      refine ⟨fun _ => fs_m_layBest_10 hG ?_, fun z => absurd z (by decide)⟩
      rw [c10, fw_s (x := ((9 + 1 : Nat) : Int) + 1) (by decide) (by decide)]
      refine ⟨fun _ => h τ2 (on_trans (od_up M0 (by decide)) (od_up (on_trans Ma M2) (by decide))) (fun i hi => ?_), fun z => absurd z (by decide)⟩
      have w := A2 i (by show (_ ∨ _) ∨ _; omega)
      rw [show (10 : Nat) = 9 + 1 from rfl, dl_nt]
      exact w
    | succ g ih =>
      intro k τ o5 o6 o7 o8 o10 o11 o12 hk M I
      refine fs_m_layBest_10 hG ?_
      rw [c10, oz_c9 (k + 1) (by omega), dm_op (k + 1) (by omega), Nat.mod_eq_of_lt (show k + 1 < 10 by omega)]
      refine ⟨fun z => absurd z (by omega), fun _ => ⟨by decide, ?_⟩⟩
      refine side _ _ 0 (k + 1) k _ 0 τ _ _ _ _ _ rfl (by decide) (by omega) (by omega) (fun z => absurd z (Nat.succ_ne_zero k)) ⟨fun _ => rfl, fun z => absurd z (Nat.succ_ne_zero k)⟩ I (dl_nb hCC (by omega) k) (e108 τ M) (fun b h1 h2 => by show _ ∧ _ ∧ _; omega) (fun τ1 o7 o8 o10 o11 o12 M1 A1 => ?_)
      have Ma := on_trans M M1
      refine side _ _ 1 (k + 1) k _ _ τ1 _ _ _ _ _ rfl (by decide) (by omega) (by omega) (fun z => absurd z (Nat.succ_ne_zero k)) ⟨fun _ => rfl, fun z => absurd z (Nat.succ_ne_zero k)⟩ A1 (dl_1b (dl_nb hCC (by omega) k) hCC (by decide) (by omega) (by omega) (fun z => absurd z (Nat.succ_ne_zero k)) (fun _ => Nat.le_refl _)) (e108 τ1 Ma) (fun b h1 h2 => Or.inl (by show _ ∧ _ ∧ _; omega)) (fun τ2 o7 o8 o10 o11 o12 M2 A2 => ?_)
      refine fs_m_layBest_27 hG ?_
      rw [c2, fw_s (x := (0 + 1 + 1 : Int)) (by decide) (by decide)]
      refine ⟨fun _ => ?_, fun z => absurd z (by decide)⟩
      have w := ih (k + 1) τ2 (some (0, 0, ((k + 1 : Nat) : Int))) (some (0, 0, 0 + 1 + 1)) o7 o8 o10 o11 o12 (by omega) (on_trans Ma M2) (fun i hi => by
        rw [dl_nn _ _ (by omega)]
        exact A2 i (by have := hi.1; have := hi.2.1; have := hi.2.2; show (_ ∨ _) ∨ _; omega))
      rw [show ((k + 1 + 1 : Nat) : Int) = ((k + 1 : Nat) : Int) + 1 from rfl] at w
      exact w
  exact loop 9 0 σ1 _ _ _ _ _ _ _ rfl (fw_okM_refl _ _) (fun i hi => absurd hi.2.1 (by have := hi.2.2; omega)))
theorem fm_m_isRound (hinj : nn_inj ad) : fw_H l cy ad wr cr D 295 1 sp_m_isRound := fw_mk hinj (⟨"NameNotesModel", "isRound", "(III)Z"⟩, prog_14_method_91_code, 4, (Option.some Jvm.ClassFile.FieldType.boolean), 3, true, 1) rfl rfl nn_KI20_ok nn_KJ20_ok nn_PF20_ok nn_PS20_ok (by decide +kernel) rfl rfl (List.forall_mem_cons.mpr ⟨fw_row nn_PM20_ok (x := 264) (k := 0) (mn := 247) (np := 1) (ob := true) (ci := 11) (⟨"NameNotesModel", "isClue", "(I)Z"⟩, prog_14_method_43_code, 2, (Option.some Jvm.ClassFile.FieldType.boolean), 1, true, 1) rfl (by decide +kernel) rfl rfl (by decide) (fun _ => ⟨_, _, rfl⟩) (fm_m_isClue hinj), (List.forall_mem_cons.mpr ⟨fw_row nn_PM20_ok (x := 281) (k := 0) (mn := 249) (np := 1) (ob := true) (ci := 11) (⟨"NameNotesModel", "isPerson", "(I)Z"⟩, prog_14_method_44_code, 2, (Option.some Jvm.ClassFile.FieldType.boolean), 1, true, 1) rfl (by decide +kernel) rfl rfl (by decide) (fun _ => ⟨_, _, rfl⟩) (fm_m_isPerson hinj), (fun _ h => absurd h List.not_mem_nil)⟩)⟩) (fun as σ K h => by
  obtain ⟨A, p, q, c, rfl, ⟨ep, eq, ec⟩, hN, h⟩ := h
  have no : ¬ v_bd A p q 0 c → (0 ≤ fw_c 0 ∧ fw_c 0 ≤ 1) ∧ K (some (0, 0, 0)) σ := fun z => ⟨fw_01, by rw [fw_bo_f z] at h; exact h⟩
  refine ⟨rfl, fun G hG => fs_m_isRound_0 hG ⟨p, rfl, fs_m_isRound_5 hG ?_⟩⟩
  rw [oz_m_pe hN ep]
  refine ⟨fun z => no (fun w => fw_bo_eq z w.1), fun z1 => ⟨q, rfl, fs_m_isRound_13 hG ?_⟩⟩
  rw [oz_m_pe hN eq]
  refine ⟨fun z => no (fun w => fw_bo_eq z w.2.1), fun z2 => ⟨fun z => no (fun w => w.2.2.1 (by rw [ep, eq] at z; exact z)), fun z3 => ⟨A, c, rfl, ec, hN, fs_m_isRound_26 hG ⟨fun z => no (fun w => fw_bo_eq z w.2.2.2.2), fun z4 => ⟨by rw [fw_c1]; decide, ?_⟩⟩⟩⟩⟩
  rw [ep, eq] at z3
  rw [fw_bo_t ⟨fw_bo_ne z1, fw_bo_ne z2, z3, by decide, fw_bo_ne z4⟩] at h
  exact h)
theorem fm_m_isSpeech (hinj : nn_inj ad) : fw_H l cy ad wr cr D 294 2 sp_m_isSpeech := fw_mk hinj (⟨"NameNotesModel", "isSpeech", "(IIII)Z"⟩, prog_14_method_95_code, 5, (Option.some Jvm.ClassFile.FieldType.boolean), 4, true, 1) rfl rfl nn_KI20_ok nn_KJ20_ok nn_PF20_ok nn_PS20_ok (by decide +kernel) rfl rfl (List.forall_mem_cons.mpr ⟨fw_row nn_PM20_ok (x := 171) (k := 0) (mn := 226) (np := 3) (ob := false) (ci := 0) (⟨"NameNotesModel", "isIn", "(III)Z"⟩, prog_14_method_8_code, 3, (Option.some Jvm.ClassFile.FieldType.boolean), 3, false, 1) rfl (by decide +kernel) rfl rfl (by decide) (fun q => by cases q) (fm_m_isIn hinj), (List.forall_mem_cons.mpr ⟨fw_row nn_PM20_ok (x := 381) (k := 0) (mn := 295) (np := 3) (ob := true) (ci := 11) (⟨"NameNotesModel", "isRound", "(III)Z"⟩, prog_14_method_91_code, 4, (Option.some Jvm.ClassFile.FieldType.boolean), 3, true, 1) rfl (by decide +kernel) rfl rfl (by decide) (fun _ => ⟨_, _, rfl⟩) (fm_m_isRound hinj), (fun _ h => absurd h List.not_mem_nil)⟩)⟩) (fun as σ K h => by
  obtain ⟨A, p, q, n, c, rfl, ⟨ep, eq, en, ec⟩, hN, h⟩ := h
  have c9 : fw_c 9 = 9 := fw_s (by decide) (by decide)
  have no : ¬ v_bd A p q n c → (0 ≤ fw_c 0 ∧ fw_c 0 ≤ 1) ∧ K (some (0, 0, 0)) σ := fun z => ⟨fw_01, by rw [fw_bo_f z] at h; exact h⟩
  refine ⟨rfl, fun G hG => fs_m_isSpeech_0 hG ⟨A, p, q, c, rfl, ⟨ep, eq, ec⟩, hN, fs_m_isSpeech_8 hG ⟨fun z => no (fun w => fw_bo_eq z ⟨w.1, w.2.1, w.2.2.1, by decide, w.2.2.2.2⟩), fun z1 => ⟨n, 0, 9, rfl, fs_m_isSpeech_18 hG ?_⟩⟩⟩⟩
  rw [en, fw_c0, c9]
  have b := fw_bo_ne z1
  refine ⟨fun z => ⟨by decide, (no (fun w => fw_bo_eq z w.2.2.2.1)).2⟩, fun z => ⟨by rw [fw_c1]; decide, ?_⟩⟩
  rw [fw_bo_t ⟨b.1, b.2.1, b.2.2.1, fw_bo_ne z, b.2.2.2.2⟩] at h
  exact h)
theorem fm_m_best (hinj : nn_inj ad) : fw_H l cy ad wr cr D 293 11 sp_m_best := fw_mk hinj (⟨"NameNotesModel", "best", "(IIII)I"⟩, prog_14_method_96_code, 5, (Option.some Jvm.ClassFile.FieldType.int), 4, true, 0) rfl rfl nn_KI20_ok nn_KJ20_ok nn_PF20_ok nn_PS20_ok (by decide +kernel) rfl rfl (List.forall_mem_cons.mpr ⟨fw_row nn_PM20_ok (x := 384) (k := 0) (mn := 294) (np := 4) (ob := true) (ci := 11) (⟨"NameNotesModel", "isSpeech", "(IIII)Z"⟩, prog_14_method_95_code, 5, (Option.some Jvm.ClassFile.FieldType.boolean), 4, true, 1) rfl (by decide +kernel) rfl rfl (by decide) (fun _ => ⟨_, _, rfl⟩) (fm_m_isSpeech hinj), (List.forall_mem_cons.mpr ⟨fw_row nn_PM20_ok (x := 387) (k := 0) (mn := 296) (np := 3) (ob := true) (ci := 11) (⟨"NameNotesModel", "layBest", "(III)V"⟩, prog_14_method_94_code, 13, (Option.none : Option Jvm.ClassFile.FieldType), 3, true, 4) rfl (by decide +kernel) rfl rfl (by decide) (fun _ => ⟨_, _, rfl⟩) (fm_m_layBest hinj), (fun _ h => absurd h List.not_mem_nil)⟩)⟩) (fun as σ0 K h => by
  obtain ⟨A, p, q, n, c, rfl, ee, hN0, h30, h⟩ := h
  refine ⟨rfl, fun G hG => fs_m_best_0 hG ?_⟩
  rw [fw_c0]
  have hN : NM (ab_ups σ0 93 0 0) A := oz_NMM (dm_93 σ0) (by decide +kernel) hN0
  have h3 : 0 < A 49 13 → (ab_ups σ0 93 0 0) 95 3 = A 49 14 := fun z => by rw [ab_ups_ne (fun z => absurd z.1 (by decide))]; exact h30 z
  have h : ∀ σ' : ab_SG, ab_okM dm_N (ab_ups σ0 93 0 0) σ' → K (some (0, 0, v_best A p q n c)) σ' := fun σ' M => h σ' (on_trans (dm_93 σ0) M)
  generalize ab_ups σ0 93 0 0 = σ at hN h3 h ⊢
  unfold v_best at h
  refine ⟨A, p, q, n, c, rfl, ee, hN, fs_m_best_14 hG ⟨fun z => ?_, fun z => ?_⟩⟩
  · have hb := fw_bo_ne z
    have hn := hb.2.2.2.1
    rw [if_pos hb] at h
    refine ⟨A, p, q, c, rfl, hN, h3 (by have := hb.1; omega), ⟨hb.1, hb.2.1, hb.2.2.1, by decide, hb.2.2.2.2⟩, fun σ1 M1 I1 => fs_m_best_27 hG ?_⟩
    rw [ee.2.2.1]
    refine ⟨by omega, ?_⟩
    rw [(I1 n.toNat (by omega)).2]
    exact h σ1 (od_up M1 (by decide))
  · rw [if_neg (fw_bo_eq z)] at h
    exact h σ (fw_okM_refl _ _))
theorem fm_m_fair (hinj : nn_inj ad) : fw_H l cy ad wr cr D 304 11 sp_m_fair := fw_mk hinj (⟨"NameNotesModel", "fair", "(III)I"⟩, prog_14_method_102_code, 8, (Option.some Jvm.ClassFile.FieldType.int), 3, true, 0) rfl rfl nn_KI20_ok nn_KJ20_ok nn_PF20_ok nn_PS20_ok (by decide +kernel) rfl rfl (List.forall_mem_cons.mpr ⟨fw_row nn_PM20_ok (x := 381) (k := 0) (mn := 295) (np := 3) (ob := true) (ci := 11) (⟨"NameNotesModel", "isRound", "(III)Z"⟩, prog_14_method_91_code, 4, (Option.some Jvm.ClassFile.FieldType.boolean), 3, true, 1) rfl (by decide +kernel) rfl rfl (by decide) (fun _ => ⟨_, _, rfl⟩) (fm_m_isRound hinj), (List.forall_mem_cons.mpr ⟨fw_row nn_PM20_ok (x := 387) (k := 0) (mn := 296) (np := 3) (ob := true) (ci := 11) (⟨"NameNotesModel", "layBest", "(III)V"⟩, prog_14_method_94_code, 13, (Option.none : Option Jvm.ClassFile.FieldType), 3, true, 4) rfl (by decide +kernel) rfl rfl (by decide) (fun _ => ⟨_, _, rfl⟩) (fm_m_layBest hinj), (fun _ h => absurd h List.not_mem_nil)⟩)⟩) (fun as σ0 K h => by
  obtain ⟨A, p, q, c, rfl, ee, hN0, h30, h⟩ := h
  have d1 : fw_d 2460275073345600 = 2460275073345600 := fw_d_id (by decide) (by decide)
  have c10 : fw_c 10 = 10 := fw_s (by decide) (by decide)
  refine ⟨rfl, fun G hG => fs_m_fair_0 hG ?_⟩
  rw [fw_c0]
  have hN : NM (ab_ups σ0 93 0 0) A := oz_NMM (dm_93 σ0) (by decide +kernel) hN0
  have h3 : 0 < A 49 13 → (ab_ups σ0 93 0 0) 95 3 = A 49 14 := fun z => by rw [ab_ups_ne (fun z => absurd z.1 (by decide))]; exact h30 z
  have h : ∀ σ' : ab_SG, ab_okM dm_N (ab_ups σ0 93 0 0) σ' → K (some (0, 0, v_fair A p q c)) σ' := fun σ' M => h σ' (on_trans (dm_93 σ0) M)
  generalize ab_ups σ0 93 0 0 = σ at hN h3 h ⊢
  unfold v_fair v_fairV at h
  refine ⟨A, p, q, c, rfl, ee, hN, fs_m_fair_12 hG ⟨fun z => ?_, fun z => ?_⟩⟩
  · have hb := fw_bo_ne z
    have B := dm_B20 hN hb
    have b0 := (B 0).1
    have b1 := (B 10).1
    rw [if_pos hb] at h
    refine ⟨A, p, q, c, rfl, hN, h3 (by have := hb.1; omega), hb, fun σ1 M1 I1 => fs_m_fair_24 hG ?_⟩
    have k := h σ1 (od_up M1 (by decide))
    rw [fw_c0, c10, show (0 : Int).toNat = 0 from rfl, show (10 : Int).toNat = 10 from rfl, (I1 0 (by decide)).1, (I1 10 (by decide)).1]
    generalize (v_du A p q c).1 0 = a at b0 k ⊢
    generalize (v_du A p q c).1 10 = b at b1 k ⊢
    have f73 : ¬ (976299632280 < 2 * a ∧ 976299632280 < 2 * (976299632280 - b)) → G 73 [some (2, 93, 0), some (0, 0, p), some (0, 0, q), some (0, 0, c), some (1, 0, 2 * (2520 * a)), none, some (1, 0, 2 * (2460275073345600 - 2520 * b)), none] [] σ1 := fun no => by
      rw [if_neg no] at k
      refine fs_m_fair_73 hG ?_
      rw [d1, fw_d_id (x := 2 * (2520 * a)) (by omega) (by omega), fw_d_id (x := 2 * (2460275073345600 - 2520 * b)) (by omega) (by omega)]
      refine ⟨fun y => ?_, fun y => ⟨fun y2 => ?_, fun y2 => ?_⟩⟩
      · rw [if_neg (by omega)] at k; exact k
      · rw [if_neg (by omega)] at k; exact k
      · rw [if_pos (by omega)] at k; exact k
    refine ⟨by decide, by decide, ?_⟩
    rw [d1, fw_d_id (x := 2 * (2520 * a)) (by omega) (by omega), fw_d_id (x := 2 * (2460275073345600 - 2520 * b)) (by omega) (by omega)]
    refine ⟨fun y => f73 (by omega), fun y => ⟨fun y2 => f73 (by omega), fun y2 => ?_⟩⟩
    rw [if_pos (by omega)] at k
    exact k
  · rw [if_neg (fw_bo_eq z)] at h
    exact h σ (fw_okM_refl _ _))
theorem fm_m_lowOf (hinj : nn_inj ad) : fw_H l cy ad wr cr D 306 11 sp_m_lowOf := fw_mk hinj (⟨"NameNotesModel", "lowOf", "(III)I"⟩, prog_14_method_103_code, 6, (Option.some Jvm.ClassFile.FieldType.int), 3, true, 0) rfl rfl nn_KI20_ok nn_KJ20_ok nn_PF20_ok nn_PS20_ok (by decide +kernel) rfl rfl (List.forall_mem_cons.mpr ⟨fw_row nn_PM20_ok (x := 387) (k := 0) (mn := 296) (np := 3) (ob := true) (ci := 11) (⟨"NameNotesModel", "layBest", "(III)V"⟩, prog_14_method_94_code, 13, (Option.none : Option Jvm.ClassFile.FieldType), 3, true, 4) rfl (by decide +kernel) rfl rfl (by decide) (fun _ => ⟨_, _, rfl⟩) (fm_m_layBest hinj), (fun _ h => absurd h List.not_mem_nil)⟩) (fun as σ K h => by
  obtain ⟨A, p, q, c, rfl, hN, h3, hb, h⟩ := h
  have B := dm_B20 hN hb
  refine ⟨rfl, fun G hG => fs_m_lowOf_0 hG ⟨A, p, q, c, rfl, hN, h3, hb, fun σ1 M1 I1 => fs_m_lowOf_7 hG ?_⟩⟩
  have k := h σ1 M1
  have loop : ∀ (f side last : Nat), side < 2 → last < 10 → (v_du A p q c).2 (10 * side + last) ≤ (f : Int) → lo_f (v_du A p q c).2 (f + 1) side last = lo_f (v_du A p q c).2 10 0 0 → G 13 [some (2, 93, 0), some (0, 0, p), some (0, 0, q), some (0, 0, c), some (0, 0, (last : Int)), some (0, 0, (side : Int))] [] σ1 := by
    intro f
    induction f with
    | zero =>
      intro side last hs hl hm e
      have b := (B (10 * side + last)).2.1
      have ci : fw_c (10 * (side : Int) + (last : Int)) = ((10 * side + last : Nat) : Int) := by
        rw [show 10 * (side : Int) + (last : Int) = ((10 * side + last : Nat) : Int) by omega]
        exact fw_s (by omega) (by omega)
      refine fs_m_lowOf_13 hG ?_
      rw [ci, Int.toNat_natCast, (I1 (10 * side + last) (by omega)).2, fw_s (x := (v_du A p q c).2 (10 * side + last)) (by omega) (by omega)]
      refine ⟨by omega, fun z => ?_, fun z => absurd z (by omega)⟩
      rw [lo_s, if_pos z] at e
      rw [← e] at k
      exact k
    | succ f ih =>
      intro side last hs hl hm e
      have b := (B (10 * side + last)).2.1
      have ci : fw_c (10 * (side : Int) + (last : Int)) = ((10 * side + last : Nat) : Int) := by
        rw [show 10 * (side : Int) + (last : Int) = ((10 * side + last : Nat) : Int) by omega]
        exact fw_s (by omega) (by omega)
      refine fs_m_lowOf_13 hG ?_
      rw [ci, Int.toNat_natCast, (I1 (10 * side + last) (by omega)).2, fw_s (x := (v_du A p q c).2 (10 * side + last)) (by omega) (by omega)]
      refine ⟨by omega, fun z => ?_, fun z => ⟨by omega, ?_⟩⟩
      · rw [lo_s, if_pos z] at e
        rw [← e] at k
        exact k
      · rw [lo_s, if_neg z] at e
        obtain ⟨j, ej⟩ := Int.eq_ofNat_of_zero_le b.1
        rw [ej] at z e hm b ⊢
        rw [Int.toNat_natCast] at e
        have b2 := (B (10 * (1 - side) + j)).2
        have g := ih (1 - side) j (by omega) (by omega) (by have := b2.2 (by omega); omega) e
        rw [show ((1 - side : Nat) : Int) = 1 - (side : Int) by omega] at g
        exact g
  exact loop 9 0 0 (by decide) (by decide) (B 0).2.1.2 rfl)
theorem fm_m_low (hinj : nn_inj ad) : fw_H l cy ad wr cr D 305 12 sp_m_low := fw_mk hinj (⟨"NameNotesModel", "low", "(III)I"⟩, prog_14_method_104_code, 4, (Option.some Jvm.ClassFile.FieldType.int), 3, true, 0) rfl rfl nn_KI20_ok nn_KJ20_ok nn_PF20_ok nn_PS20_ok (by decide +kernel) rfl rfl (List.forall_mem_cons.mpr ⟨fw_row nn_PM20_ok (x := 381) (k := 0) (mn := 295) (np := 3) (ob := true) (ci := 11) (⟨"NameNotesModel", "isRound", "(III)Z"⟩, prog_14_method_91_code, 4, (Option.some Jvm.ClassFile.FieldType.boolean), 3, true, 1) rfl (by decide +kernel) rfl rfl (by decide) (fun _ => ⟨_, _, rfl⟩) (fm_m_isRound hinj), (List.forall_mem_cons.mpr ⟨fw_row nn_PM20_ok (x := 398) (k := 0) (mn := 306) (np := 3) (ob := true) (ci := 11) (⟨"NameNotesModel", "lowOf", "(III)I"⟩, prog_14_method_103_code, 6, (Option.some Jvm.ClassFile.FieldType.int), 3, true, 0) rfl (by decide +kernel) rfl rfl (by decide) (fun _ => ⟨_, _, rfl⟩) (fm_m_lowOf hinj), (fun _ h => absurd h List.not_mem_nil)⟩)⟩) (fun as σ0 K h => by
  obtain ⟨A, p, q, c, rfl, ee, hN0, h30, h⟩ := h
  refine ⟨rfl, fun G hG => fs_m_low_0 hG ?_⟩
  rw [fw_c0]
  have hN : NM (ab_ups σ0 93 0 0) A := oz_NMM (dm_93 σ0) (by decide +kernel) hN0
  have h3 : 0 < A 49 13 → (ab_ups σ0 93 0 0) 95 3 = A 49 14 := fun z => by rw [ab_ups_ne (fun z => absurd z.1 (by decide))]; exact h30 z
  have h : ∀ σ' : ab_SG, ab_okM dm_N (ab_ups σ0 93 0 0) σ' → K (some (0, 0, v_low A p q c)) σ' := fun σ' M => h σ' (on_trans (dm_93 σ0) M)
  generalize ab_ups σ0 93 0 0 = σ at hN h3 h ⊢
  unfold v_low at h
  refine ⟨A, p, q, c, rfl, ee, hN, fs_m_low_12 hG ⟨fun z => ?_, fun z => ?_⟩⟩
  · rw [if_neg (fw_bo_eq z)] at h
    exact h σ (fw_okM_refl _ _)
  · have hb := fw_bo_ne z
    rw [if_pos hb] at h
    exact ⟨A, p, q, c, rfl, hN, h3 (by have := hb.1; omega), hb, fun σ1 M1 => fs_m_low_22 hG (h σ1 (od_up M1 (by decide)))⟩)
end
