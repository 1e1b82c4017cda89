/-! questions that ask for odds -/
theorem oz_c_pe {σ A : ab_SG} (h : NC σ A) {x : Int} (hx : fw_c x = x) : m_b (c_pe σ x) = fw_bo (0 ≤ x ∧ x < A 49 13) := by
  have n := N_n h.1
  unfold c_pe
  rw [hx, (NC_n h).2.2, fw_s (x := A 49 13) (by omega) (by omega)]
  by_cases q : 0 ≤ x ∧ x < A 49 13
  · rw [fw_bo_t q, m_b1 q.1 q.2]
  · rw [fw_bo_f q, m_b0 q]
theorem oz_m_pe {σ A : ab_SG} (h : NM σ A) {x : Int} (hx : fw_c x = x) : m_b (m_pe σ x) = fw_bo (0 ≤ x ∧ x < A 49 13) := by
  have n := N_n h.1
  unfold m_pe
  rw [hx, (NM_n h).2.2, fw_s (x := A 49 13) (by omega) (by omega)]
  by_cases q : 0 ≤ x ∧ x < A 49 13
  · rw [fw_bo_t q, m_b1 q.1 q.2]
  · rw [fw_bo_f q, m_b0 q]
theorem oz_nine {k : Int} (hk : fw_c k = k) : m_b (decide (0 ≤ fw_c k) && decide (fw_c k ≤ 9)) = fw_bo (0 ≤ k ∧ k ≤ 9) := by
  rw [hk]
  by_cases q : 0 ≤ k ∧ k ≤ 9
  · rw [fw_bo_t q, m_b1 q.1 q.2]
  · rw [fw_bo_f q, m_b0 q]
theorem oz_clue {A : ab_SG} (hi : RI A) (hb : nb_is A) {c : Int} (h1 : 0 ≤ c) (h2 : c < A 49 12) : (1 ≤ v_set A c ∧ v_set A c < 512) ∧ ∀ z : Nat, z < 9 → pr_hs (v_set A c) (z : Int) = true → (z : Int) < A 49 11 := by
  have b := v_set_512 hi hb (c := c) (by omega) h2
  refine ⟨⟨?_, b.2⟩, fun z hz q => v_set_top hi hb (by omega) h2 hz q⟩
  unfold v_set
  rw [if_neg (by omega)]
  have := (hb.2.1 c.toNat (by omega)).1
  exact this
def sp_m_oddsBy : fw_SP := fun as σ K => ∃ (A : ab_SG) (n s : Int), as = [(2, 93, 0), (0, 0, n), (0, 0, s)] ∧ NM σ A ∧ (1 ≤ n ∧ n ≤ 9) ∧ (1 ≤ s ∧ s < 512) ∧ (∀ z : Nat, z < 9 → pr_hs s (z : Int) = true → (z : Int) < A 49 11) ∧ (∀ y : Nat, y < 9 → 0 ≤ σ 106 y ∧ σ 106 y ≤ 9) ∧ ∀ σ' : ab_SG, ab_okM [(107, 1000000)] σ σ' → K (some (1, 0, oz_ro (σ 106) A n s)) σ'
def sp_m_oddsOf : fw_SP := fun as σ K => ∃ (A : ab_SG) (p : Nat) (n s : Int), as = [(2, 93, 0), (0, 0, (p : Int)), (0, 0, n), (0, 0, s)] ∧ NM σ A ∧ p < 5 ∧ (1 ≤ n ∧ n ≤ 9) ∧ (1 ≤ s ∧ s < 512) ∧ (∀ z : Nat, z < 9 → pr_hs s (z : Int) = true → (z : Int) < A 49 11) ∧ ∀ σ' : ab_SG, ab_okM on_M σ σ' → K (some (1, 0, 2520 * oz_odds A p n s)) σ'
def sp_m_isNines : fw_SP := fun as σ K => ∃ v k : Int, as = [(1, 0, 2520 * v), (0, 0, k)] ∧ (0 ≤ v ∧ v ≤ 976299632280) ∧ (0 ≤ k ∧ k ≤ 9) ∧ K (some (0, 0, fw_bo (k * 976299632280 ≤ v * 9))) σ
/-- the fewest notes from n on by which the odds are k of 9 -/
def nd_f (A : ab_SG) (p : Nat) (k s : Int) : Nat → Nat → Int
  | 0, _ => -1
  | f + 1, n => if k * 976299632280 ≤ oz_odds A p (n : Int) s * 9 then (n : Int) else nd_f A p k s f (n + 1)
theorem nd_s (A : ab_SG) (p : Nat) (k s : Int) (f n : Nat) : nd_f A p k s (f + 1) n = if k * 976299632280 ≤ oz_odds A p (n : Int) s * 9 then (n : Int) else nd_f A p k s f (n + 1) := rfl
def v_needs (A : ab_SG) (p k c : Int) : Int := if (0 ≤ p ∧ p < A 49 13) ∧ (0 ≤ k ∧ k ≤ 9) ∧ (0 ≤ c ∧ c < A 49 12) then nd_f A p.toNat k (v_set A c) 9 1 else -1
/-- the ablest of the first persons, and her odds -/
def ol_f (A : ab_SG) (n s : Int) : Nat → Int × Int
  | 0 => (-1, -1)
  | p + 1 => if (ol_f A n s p).2 < oz_odds A p n s then ((p : Int), oz_odds A p n s) else ol_f A n s p
theorem ol_s (A : ab_SG) (n s : Int) (p : Nat) : ol_f A n s (p + 1) = if (ol_f A n s p).2 < oz_odds A p n s then ((p : Int), oz_odds A p n s) else ol_f A n s p := rfl
def v_ablest (A : ab_SG) (n c : Int) : Int := if (1 ≤ n ∧ n ≤ 9) ∧ (0 ≤ c ∧ c < A 49 12) then (ol_f A n (v_set A c) (A 49 13).toNat).1 else -1
theorem ol_b {A σ : ab_SG} (hN : NC σ A) {n s : Int} (hs : 1 ≤ s ∧ s < 512) : ∀ p : Nat, p ≤ 5 → -1 ≤ (ol_f A n s p).2 ∧ (ol_f A n s p).2 ≤ 976299632280
  | 0, _ => by
    show (-1 : Int) ≤ -1 ∧ (-1 : Int) ≤ 976299632280
    decide
  | p + 1, h => by
    have e := ol_b hN (n := n) hs p (by omega)
    have b := oz_odds_b hN (p := p) (by omega) (n := n) hs
    rw [ol_s]
    split
    · exact ⟨by show -1 ≤ oz_odds A p n s; omega, b.2⟩
    · exact e
def od_N : ab_ML := [(93, 0), (106, 1000000), (107, 1000000)]
def sp_needs : fw_SP := fun as σ K => ∃ (A : ab_SG) (p k c : Int), as = [(2, 0, 0), (0, 0, p), (0, 0, k), (0, 0, c)] ∧ (fw_c p = p ∧ fw_c k = k ∧ fw_c c = c) ∧ NC σ A ∧ ∀ σ' : ab_SG, ab_okM oz_M σ σ' → K (some (0, 0, v_needs A p k c)) σ'
def sp_m_needs : fw_SP := fun as σ K => ∃ (A : ab_SG) (p k c : Int), as = [(2, 93, 0), (0, 0, p), (0, 0, k), (0, 0, c)] ∧ (fw_c p = p ∧ fw_c k = k ∧ fw_c c = c) ∧ NM σ A ∧ ∀ σ' : ab_SG, ab_okM od_N σ σ' → K (some (0, 0, v_needs A p k c)) σ'
def sp_ablest : fw_SP := fun as σ K => ∃ (A : ab_SG) (n c : Int), as = [(2, 0, 0), (0, 0, n), (0, 0, c)] ∧ (fw_c n = n ∧ fw_c c = c) ∧ NC σ A ∧ ∀ σ' : ab_SG, ab_okM oz_M σ σ' → K (some (0, 0, v_ablest A n c)) σ'
def sp_m_ablest : fw_SP := fun as σ K => ∃ (A : ab_SG) (n c : Int), as = [(2, 93, 0), (0, 0, n), (0, 0, c)] ∧ (fw_c n = n ∧ fw_c c = c) ∧ NM σ A ∧ ∀ σ' : ab_SG, ab_okM od_N σ σ' → K (some (0, 0, v_ablest A n c)) σ'
theorem od_up {M N : ab_ML} {σ σ' : ab_SG} (h : ab_okM M σ σ') (hm : M.all (fun q => N.any (fun r => r.1.beq q.1 && (r.2.beq q.2 || r.2.beq 1000000))) = true) : ab_okM N σ σ' := by
  intro a b q
  refine h a b (fun r hr w => ?_)
  obtain ⟨t, ht, h2⟩ := List.any_eq_true.mp (List.all_eq_true.mp hm r hr)
  rw [Bool.and_eq_true, Bool.or_eq_true] at h2
  refine q t ht ⟨(Nat.eq_of_beq_eq_true h2.1).trans w.1, ?_⟩
  rcases h2.2 with e | e
  · rw [Nat.eq_of_beq_eq_true e]; exact w.2
  · exact Or.inr (Nat.eq_of_beq_eq_true e)
/-- rows that nothing speaks of -/
def fr_L : List Nat := [1, 2, 3, 18, 33, 85, 93, 94, 95, 97, 102] ++ (sw_T.map (fun q => q.1) ++ sw_L.map (fun q => q.1))
theorem vW_free {M : ab_ML} {σ σ1 σm : ab_SG} (hm : M.all (fun q => fr_L.all (fun k => !(q.1.beq k))) = true) (h1 : ab_okM M σ σ1) (hv : vW σm σ1) : vW σm σ := by
  have e : ∀ k j : Nat, k ∈ fr_L → σ1 k j = σ k j := fun k j hk => h1 k j (fun q hq hh => by
    have g := List.all_eq_true.mp (List.all_eq_true.mp hm q hq) k hk
    rw [hh.1, show k.beq k = true from Nat.beq_refl k] at g
    cases g)
  have hT : ∀ q ∈ sw_T, q.1 ∈ fr_L := fun q hq => List.mem_append_right _ (List.mem_append_left _ (List.mem_map.mpr ⟨q, hq, rfl⟩))
  have hL : ∀ q ∈ sw_L, q.1 ∈ fr_L := fun q hq => List.mem_append_right _ (List.mem_append_right _ (List.mem_map.mpr ⟨q, hq, rfl⟩))
  have c : ∀ k : Nat, k ∈ [1, 2, 3, 18, 33, 85, 93, 94, 95, 97, 102] → k ∈ fr_L := fun k hk => List.mem_append_left _ hk
  have su_in : ∀ k j : Nat, su k j → k ∈ fr_L := by
    intro k j h
    unfold su at h
    rcases h with h | h | h | h | h | h | h | h | h | h <;> (rw [h.1]; exact c _ (by decide))
  have sw_in : ∀ k j : Nat, sw k j → k ∈ fr_L := by
    intro k j h
    rcases h with ⟨q, hq, rfl, -⟩ | ⟨rfl, -⟩ | ⟨rfl, -⟩
    · exact hT q hq
    · exact c _ (by decide)
    · exact c _ (by decide)
  refine ⟨fun k j hs => ?_, fun k j hs => ?_⟩
  · rw [hv.1 k j hs, e k j (hs.elim (su_in k j) (sw_in k j))]
  · obtain ⟨q, hq, rfl, hj⟩ := hs
    rw [hv.2 _ j ⟨q, hq, rfl, hj⟩, e _ j (hL q hq)]
theorem vW_od {σ σ1 σm : ab_SG} (hc : cN σ) (h1 : ab_okM oz_M σ σ1) (hv : vW σm σ1) : vW σm σ := vW_free (by decide +kernel) h1 hv
theorem RQ_od {σ σ1 σm σ2 σ5 : ab_SG} (hc : cN σ) (hR : RQ σ) (h1 : ab_okM oz_M σ σ1) (hv : vW σm σ1) (h2 : ab_okM od_N σm σ2) (hw : vW σ5 σ2) : RQ σ5 :=
  ⟨RQ9_tr (vw_W hw) ⟨ra_two (cn_N hc) h1 (vw_W hv) h2 (by decide) (by decide) hR.1.1, rb_two (cn_N hc) h1 (vw_W hv) h2 (by decide) (by decide) hR.1.2.1, rk_two (cn_N hc) h1 (vw_W hv) h2 (by decide) (by decide) hR.1.2.2⟩, rx_two hc h1 hv h2 hw (by decide +kernel) (by decide +kernel) hR.2⟩
theorem od_93 (σ : ab_SG) : ab_okM od_N σ (ab_ups σ 93 0 0) := fun a b q => ab_ups_ne (fun z => q (93, 0) (by decide) ⟨z.1.symm, Or.inl z.2.symm⟩)
abbrev fk_m_oddsBy : List fw_CR := [(216, 2, false, 0, 0, sp_m_has), (261, 0, true, 11, 0, sp_m_tunes), (322, 1, false, 0, 0, sp_m_bits9), (331, 3, true, 11, 6, sp_m_namedBy)]
abbrev st_m_oddsBy : fw_K → fw_KR → fw_K := fw_st vwCl nn_sh nn_kd fw_kv fw_wc (nn_KI20.map (fun x => x.1)) (nn_KJ20.map (fun x => x.1)) (nn_PF20.map (fun x => x.1)) (nn_PS20.map (fun x => x.1)) fk_m_oddsBy 7 nn_dt284 6 2
theorem fs_m_oddsBy_0 {G : fw_K} {R : fw_KR} (hG : fw_cls st_m_oddsBy R G) {n s : Int} {σ : ab_SG} (h : G 5 [some (2, 93, 0), some (0, 0, n), some (0, 0, s), some (1, 0, ((0 : Nat) : Int)), none, some (0, 0, 0)] [] σ) : G 0 [some (2, 93, 0), some (0, 0, n), some (0, 0, s), none, none, none] [] σ := fw_on hG [5, 11, 20, 32, 34, 48] 200 h
theorem fs_m_oddsBy_5 {G : fw_K} {R : fw_KR} (hG : fw_cls st_m_oddsBy R G) {a1 a2 a3 a5 : Int} {σ : ab_SG} (h : sp_m_tunes [(2, 93, 0)] σ (fun rv σ2 => G 11 [some (2, 93, 0), some (0, 0, a1), some (0, 0, a2), some (1, 0, a3), none, some (0, 0, a5)] (rv.toList ++ [(0, 0, a5)]) σ2)) : G 5 [some (2, 93, 0), some (0, 0, a1), some (0, 0, a2), some (1, 0, a3), none, some (0, 0, a5)] [] σ := fw_on hG [5, 11, 20, 32, 34, 48] 200 h
theorem fs_m_oddsBy_11 {G : fw_K} {R : fw_KR} (hG : fw_cls st_m_oddsBy R G) {a1 a2 a3 a5 b0 b1 : Int} {σ : ab_SG} (h : (fw_c b0 ≤ fw_c b1 → sp_m_bits9 [(0, 0, a2)] σ (fun rv σ2 => G 48 [some (2, 93, 0), some (0, 0, a1), some (0, 0, a2), some (1, 0, a3), none, some (0, 0, a5)] (rv.toList ++ [(1, 0, 2520), (1, 0, a3)]) σ2)) ∧ (fw_c b1 < fw_c b0 → sp_m_has [(0, 0, a2), (0, 0, a5)] σ (fun rv σ2 => G 20 [some (2, 93, 0), some (0, 0, a1), some (0, 0, a2), some (1, 0, a3), none, some (0, 0, a5)] (rv.toList ++ []) σ2))) : G 11 [some (2, 93, 0), some (0, 0, a1), some (0, 0, a2), some (1, 0, a3), none, some (0, 0, a5)] [(0, 0, b0), (0, 0, b1)] σ := fw_on hG [5, 11, 20, 32, 34, 48] 200 h
theorem fs_m_oddsBy_48 {G : fw_K} {R : fw_KR} (hG : fw_cls st_m_oddsBy R G) {b0 b1 b2 : Int} {o1 o2 o3 o5 : Option ab_AV} {σ : ab_SG} (h : fw_d (fw_c b0) ≠ 0 ∧ (R (some (1, 0, b2 * (fw_lop 3 b1 (fw_c b0)))) σ)) : G 48 [some (2, 93, 0), o1, o2, o3, none, o5] [(0, 0, b0), (1, 0, b1), (1, 0, b2)] σ := fw_on hG [5, 11, 20, 32, 34, 48] 200 h
theorem fs_m_oddsBy_20 {G : fw_K} {R : fw_KR} (hG : fw_cls st_m_oddsBy R G) {a1 a2 a3 a5 b0 : Int} {σ : ab_SG} (h : (fw_c b0 = 0 → G 34 [some (2, 93, 0), some (0, 0, a1), some (0, 0, a2), some (1, 0, a3), none, some (0, 0, a5)] [] σ) ∧ (fw_c b0 ≠ 0 → sp_m_namedBy [(2, 93, 0), (0, 0, a5), (0, 0, a1), (0, 0, a2)] σ (fun rv σ2 => G 32 [some (2, 93, 0), some (0, 0, a1), some (0, 0, a2), some (1, 0, a3), none, some (0, 0, a5)] (rv.toList ++ [(1, 0, a3)]) σ2))) : G 20 [some (2, 93, 0), some (0, 0, a1), some (0, 0, a2), some (1, 0, a3), none, some (0, 0, a5)] [(0, 0, b0)] σ := fw_on hG [5, 11, 20, 32, 34, 48] 200 h
theorem fs_m_oddsBy_34 {G : fw_K} {R : fw_KR} (hG : fw_cls st_m_oddsBy R G) {a1 a2 a3 a5 : Int} {σ : ab_SG} (h : G 5 [some (2, 93, 0), some (0, 0, a1), some (0, 0, a2), some (1, 0, a3), none, some (0, 0, a5 + 1)] [] σ) : G 34 [some (2, 93, 0), some (0, 0, a1), some (0, 0, a2), some (1, 0, a3), none, some (0, 0, a5)] [] σ := fw_on hG [5, 11, 20, 32, 34, 48] 200 h
theorem fs_m_oddsBy_32 {G : fw_K} {R : fw_KR} (hG : fw_cls st_m_oddsBy R G) {a1 a2 a5 b0 b1 : Int} {o3 : Option ab_AV} {σ : ab_SG} (h : G 34 [some (2, 93, 0), some (0, 0, a1), some (0, 0, a2), some (1, 0, b1 + b0), none, some (0, 0, a5)] [] σ) : G 32 [some (2, 93, 0), some (0, 0, a1), some (0, 0, a2), o3, none, some (0, 0, a5)] [(1, 0, b0), (1, 0, b1)] σ := fw_on hG [5, 11, 20, 32, 34, 48] 200 h
abbrev fk_m_oddsOf : List fw_CR := [(335, 1, true, 11, 2, sp_m_layMind), (338, 2, true, 11, 7, sp_m_oddsBy)]
abbrev st_m_oddsOf : fw_K → fw_KR → fw_K := fw_st vwCl nn_sh nn_kd fw_kv fw_wc (nn_KI20.map (fun x => x.1)) (nn_KJ20.map (fun x => x.1)) (nn_PF20.map (fun x => x.1)) (nn_PS20.map (fun x => x.1)) fk_m_oddsOf 8 nn_dt283 4 2
theorem fs_m_oddsOf_0 {G : fw_K} {R : fw_KR} (hG : fw_cls st_m_oddsOf R G) {p n s : Int} {σ : ab_SG} (h : sp_m_layMind [(2, 93, 0), (0, 0, p)] σ (fun rv σ2 => G 5 [some (2, 93, 0), some (0, 0, p), some (0, 0, n), some (0, 0, s)] (rv.toList ++ []) σ2)) : G 0 [some (2, 93, 0), some (0, 0, p), some (0, 0, n), some (0, 0, s)] [] σ := fw_on hG [5, 11] 200 h
theorem fs_m_oddsOf_5 {G : fw_K} {R : fw_KR} (hG : fw_cls st_m_oddsOf R G) {a1 a2 a3 : Int} {σ : ab_SG} (h : sp_m_oddsBy [(2, 93, 0), (0, 0, a2), (0, 0, a3)] σ (fun rv σ2 => G 11 [some (2, 93, 0), some (0, 0, a1), some (0, 0, a2), some (0, 0, a3)] (rv.toList ++ []) σ2)) : G 5 [some (2, 93, 0), some (0, 0, a1), some (0, 0, a2), some (0, 0, a3)] [] σ := fw_on hG [5, 11] 200 h
theorem fs_m_oddsOf_11 {G : fw_K} {R : fw_KR} (hG : fw_cls st_m_oddsOf R G) {a1 a2 a3 b0 : Int} {σ : ab_SG} (h : R (some (1, 0, b0)) σ) : G 11 [some (2, 93, 0), some (0, 0, a1), some (0, 0, a2), some (0, 0, a3)] [(1, 0, b0)] σ := fw_on hG [5, 11] 200 h
abbrev fk_m_isNines : List fw_CR := []
abbrev st_m_isNines : fw_K → fw_KR → fw_K := fw_st vwCl nn_sh nn_kd fw_kv fw_wc (nn_KI20.map (fun x => x.1)) (nn_KJ20.map (fun x => x.1)) (nn_PF20.map (fun x => x.1)) (nn_PS20.map (fun x => x.1)) fk_m_isNines 0 nn_dt287 3 1
theorem fs_m_isNines_0 {G : fw_K} {R : fw_KR} (hG : fw_cls st_m_isNines R G) {v k : Int} {σ : ab_SG} (h : (fw_d v < fw_d (273363897038400 * (fw_c k)) → (0 ≤ fw_c 0 ∧ fw_c 0 ≤ 1) ∧ R (some (0, 0, 0)) σ) ∧ (fw_d (273363897038400 * (fw_c k)) ≤ fw_d v → (0 ≤ fw_c 1 ∧ fw_c 1 ≤ 1) ∧ R (some (0, 0, 1)) σ)) : G 0 [some (1, 0, v), none, some (0, 0, k)] [] σ := fw_on hG [] 200 h
abbrev fk_needs : List fw_CR := [(166, 1, true, 6, 0, sp_isClue3), (169, 1, true, 6, 1, sp_setOf3), (173, 1, true, 6, 0, sp_isPerson3), (228, 3, true, 10, 4, sp_chanceOf), (232, 1, false, 0, 0, sp_isNinth), (235, 2, false, 0, 0, sp_reaches)]
abbrev st_needs : fw_K → fw_KR → fw_K := fw_st vwCl nn_sh nn_kd fw_kv fw_wc (nn_KI1.map (fun x => x.1)) (nn_KJ1.map (fun x => x.1)) (nn_PF1.map (fun x => x.1)) (nn_PS1.map (fun x => x.1)) fk_needs 5 nn_dt80 5 0
theorem fs_needs_0 {G : fw_K} {R : fw_KR} (hG : fw_cls st_needs R G) {p k c : Int} {σ : ab_SG} (h : sp_isPerson3 [(2, 3, 0), (0, 0, p)] σ (fun rv σ2 => G 8 [some (2, 0, 0), some (0, 0, p), some (0, 0, k), some (0, 0, c), none] (rv.toList ++ []) σ2)) : G 0 [some (2, 0, 0), some (0, 0, p), some (0, 0, k), some (0, 0, c), none] [] σ := fw_on hG [8, 15, 26, 34, 53, 56, 60] 200 h
theorem fs_needs_8 {G : fw_K} {R : fw_KR} (hG : fw_cls st_needs R G) {a1 a2 a3 b0 : Int} {o4 : Option ab_AV} {σ : ab_SG} (h : (fw_c b0 = 0 → R (some (0, 0, (-1))) σ) ∧ (fw_c b0 ≠ 0 → sp_isNinth [(0, 0, a2)] σ (fun rv σ2 => G 15 [some (2, 0, 0), some (0, 0, a1), some (0, 0, a2), some (0, 0, a3), o4] (rv.toList ++ []) σ2))) : G 8 [some (2, 0, 0), some (0, 0, a1), some (0, 0, a2), some (0, 0, a3), o4] [(0, 0, b0)] σ := fw_on hG [8, 15, 26, 34, 53, 56, 60] 200 h
theorem fs_needs_15 {G : fw_K} {R : fw_KR} (hG : fw_cls st_needs R G) {a1 a2 a3 b0 : Int} {o4 : Option ab_AV} {σ : ab_SG} (h : (fw_c b0 = 0 → R (some (0, 0, (-1))) σ) ∧ (fw_c b0 ≠ 0 → sp_isClue3 [(2, 3, 0), (0, 0, a3)] σ (fun rv σ2 => G 26 [some (2, 0, 0), some (0, 0, a1), some (0, 0, a2), some (0, 0, a3), o4] (rv.toList ++ []) σ2))) : G 15 [some (2, 0, 0), some (0, 0, a1), some (0, 0, a2), some (0, 0, a3), o4] [(0, 0, b0)] σ := fw_on hG [8, 15, 26, 34, 53, 56, 60] 200 h
theorem fs_needs_26 {G : fw_K} {R : fw_KR} (hG : fw_cls st_needs R G) {a1 a2 a3 b0 : Int} {o4 : Option ab_AV} {σ : ab_SG} (h : (fw_c b0 ≠ 0 → G 34 [some (2, 0, 0), some (0, 0, a1), some (0, 0, a2), some (0, 0, a3), some (0, 0, 1)] [] σ) ∧ (fw_c b0 = 0 → R (some (0, 0, (-1))) σ)) : G 26 [some (2, 0, 0), some (0, 0, a1), some (0, 0, a2), some (0, 0, a3), o4] [(0, 0, b0)] σ := fw_on hG [8, 15, 26, 34, 53, 56, 60] 200 h
theorem fs_needs_34 {G : fw_K} {R : fw_KR} (hG : fw_cls st_needs R G) {a1 a2 a3 a4 : Int} {σ : ab_SG} (h : (fw_c 9 < fw_c a4 → R (some (0, 0, (-1))) σ) ∧ (fw_c a4 ≤ fw_c 9 → sp_setOf3 [(2, 3, 0), (0, 0, a3)] σ (fun rv σ2 => G 53 [some (2, 0, 0), some (0, 0, a1), some (0, 0, a2), some (0, 0, a3), some (0, 0, a4)] (rv.toList ++ [(0, 0, a4), (0, 0, a1), (2, 0, 0)]) σ2))) : G 34 [some (2, 0, 0), some (0, 0, a1), some (0, 0, a2), some (0, 0, a3), some (0, 0, a4)] [] σ := fw_on hG [8, 15, 26, 34, 53, 56, 60] 200 h
theorem fs_needs_53 {G : fw_K} {R : fw_KR} (hG : fw_cls st_needs R G) {a1 a2 a3 a4 b0 b1 b2 : Int} {σ : ab_SG} (h : sp_chanceOf [(2, 0, 0), (0, 0, b2), (0, 0, b1), (0, 0, b0)] σ (fun rv σ2 => G 56 [some (2, 0, 0), some (0, 0, a1), some (0, 0, a2), some (0, 0, a3), some (0, 0, a4)] (rv.toList ++ []) σ2)) : G 53 [some (2, 0, 0), some (0, 0, a1), some (0, 0, a2), some (0, 0, a3), some (0, 0, a4)] [(0, 0, b0), (0, 0, b1), (0, 0, b2), (2, 0, 0)] σ := fw_on hG [8, 15, 26, 34, 53, 56, 60] 200 h
theorem fs_needs_56 {G : fw_K} {R : fw_KR} (hG : fw_cls st_needs R G) {a1 a2 a3 a4 b0 : Int} {σ : ab_SG} (h : sp_reaches [(1, 0, b0), (0, 0, a2)] σ (fun rv σ2 => G 60 [some (2, 0, 0), some (0, 0, a1), some (0, 0, a2), some (0, 0, a3), some (0, 0, a4)] (rv.toList ++ []) σ2)) : G 56 [some (2, 0, 0), some (0, 0, a1), some (0, 0, a2), some (0, 0, a3), some (0, 0, a4)] [(1, 0, b0)] σ := fw_on hG [8, 15, 26, 34, 53, 56, 60] 200 h
theorem fs_needs_60 {G : fw_K} {R : fw_KR} (hG : fw_cls st_needs R G) {a1 a2 a3 a4 b0 : Int} {σ : ab_SG} (h : (fw_c b0 = 0 → G 34 [some (2, 0, 0), some (0, 0, a1), some (0, 0, a2), some (0, 0, a3), some (0, 0, a4 + 1)] [] σ) ∧ (fw_c b0 ≠ 0 → R (some (0, 0, a4)) σ)) : G 60 [some (2, 0, 0), some (0, 0, a1), some (0, 0, a2), some (0, 0, a3), some (0, 0, a4)] [(0, 0, b0)] σ := fw_on hG [8, 15, 26, 34, 53, 56, 60] 200 h
abbrev fk_m_needs : List fw_CR := [(171, 3, false, 0, 0, sp_m_isIn), (264, 1, true, 11, 0, sp_m_isClue), (281, 1, true, 11, 0, sp_m_isPerson), (303, 1, true, 11, 1, sp_m_left), (355, 3, true, 11, 8, sp_m_oddsOf), (362, 2, false, 0, 0, sp_m_isNines)]
abbrev st_m_needs : fw_K → fw_KR → fw_K := fw_st vwCl nn_sh nn_kd fw_kv fw_wc (nn_KI20.map (fun x => x.1)) (nn_KJ20.map (fun x => x.1)) (nn_PF20.map (fun x => x.1)) (nn_PS20.map (fun x => x.1)) fk_m_needs 9 nn_dt286 5 0
theorem fs_m_needs_0 {G : fw_K} {R : fw_KR} (hG : fw_cls st_m_needs R G) {p k c : Int} {σ : ab_SG} (h : sp_m_isPerson [(2, 93, 0), (0, 0, p)] (ab_ups σ 93 0 (fw_c 0)) (fun rv σ2 => G 10 [some (2, 93, 0), some (0, 0, p), some (0, 0, k), some (0, 0, c), none] (rv.toList ++ []) σ2)) : G 0 [some (2, 93, 0), some (0, 0, p), some (0, 0, k), some (0, 0, c), none] [] σ := fw_on hG [10, 20, 28, 36, 52, 55, 59] 200 h
theorem fs_m_needs_10 {G : fw_K} {R : fw_KR} (hG : fw_cls st_m_needs R G) {a1 a2 a3 b0 : Int} {o4 : Option ab_AV} {σ : ab_SG} (h : (fw_c b0 = 0 → R (some (0, 0, (-1))) σ) ∧ (fw_c b0 ≠ 0 → sp_m_isIn [(0, 0, a2), (0, 0, 0), (0, 0, 9)] σ (fun rv σ2 => G 20 [some (2, 93, 0), some (0, 0, a1), some (0, 0, a2), some (0, 0, a3), o4] (rv.toList ++ []) σ2))) : G 10 [some (2, 93, 0), some (0, 0, a1), some (0, 0, a2), some (0, 0, a3), o4] [(0, 0, b0)] σ := fw_on hG [10, 20, 28, 36, 52, 55, 59] 200 h
theorem fs_m_needs_20 {G : fw_K} {R : fw_KR} (hG : fw_cls st_m_needs R G) {a1 a2 a3 b0 : Int} {o4 : Option ab_AV} {σ : ab_SG} (h : (fw_c b0 = 0 → R (some (0, 0, (-1))) σ) ∧ (fw_c b0 ≠ 0 → sp_m_isClue [(2, 93, 0), (0, 0, a3)] σ (fun rv σ2 => G 28 [some (2, 93, 0), some (0, 0, a1), some (0, 0, a2), some (0, 0, a3), o4] (rv.toList ++ []) σ2))) : G 20 [some (2, 93, 0), some (0, 0, a1), some (0, 0, a2), some (0, 0, a3), o4] [(0, 0, b0)] σ := fw_on hG [10, 20, 28, 36, 52, 55, 59] 200 h
theorem fs_m_needs_28 {G : fw_K} {R : fw_KR} (hG : fw_cls st_m_needs R G) {a1 a2 a3 b0 : Int} {o4 : Option ab_AV} {σ : ab_SG} (h : (fw_c b0 ≠ 0 → G 36 [some (2, 93, 0), some (0, 0, a1), some (0, 0, a2), some (0, 0, a3), some (0, 0, 1)] [] σ) ∧ (fw_c b0 = 0 → R (some (0, 0, (-1))) σ)) : G 28 [some (2, 93, 0), some (0, 0, a1), some (0, 0, a2), some (0, 0, a3), o4] [(0, 0, b0)] σ := fw_on hG [10, 20, 28, 36, 52, 55, 59] 200 h
theorem fs_m_needs_36 {G : fw_K} {R : fw_KR} (hG : fw_cls st_m_needs R G) {a1 a2 a3 a4 : Int} {σ : ab_SG} (h : (fw_c 9 < fw_c a4 → R (some (0, 0, (-1))) σ) ∧ (fw_c a4 ≤ fw_c 9 → sp_m_left [(2, 93, 0), (0, 0, a3)] σ (fun rv σ2 => G 52 [some (2, 93, 0), some (0, 0, a1), some (0, 0, a2), some (0, 0, a3), some (0, 0, a4)] (rv.toList ++ [(0, 0, a4), (0, 0, a1), (2, 93, 0)]) σ2))) : G 36 [some (2, 93, 0), some (0, 0, a1), some (0, 0, a2), some (0, 0, a3), some (0, 0, a4)] [] σ := fw_on hG [10, 20, 28, 36, 52, 55, 59] 200 h
theorem fs_m_needs_52 {G : fw_K} {R : fw_KR} (hG : fw_cls st_m_needs R G) {a1 a2 a3 a4 b0 b1 b2 : Int} {σ : ab_SG} (h : sp_m_oddsOf [(2, 93, 0), (0, 0, b2), (0, 0, b1), (0, 0, b0)] σ (fun rv σ2 => G 55 [some (2, 93, 0), some (0, 0, a1), some (0, 0, a2), some (0, 0, a3), some (0, 0, a4)] (rv.toList ++ []) σ2)) : G 52 [some (2, 93, 0), some (0, 0, a1), some (0, 0, a2), some (0, 0, a3), some (0, 0, a4)] [(0, 0, b0), (0, 0, b1), (0, 0, b2), (2, 93, 0)] σ := fw_on hG [10, 20, 28, 36, 52, 55, 59] 200 h
theorem fs_m_needs_55 {G : fw_K} {R : fw_KR} (hG : fw_cls st_m_needs R G) {a1 a2 a3 a4 b0 : Int} {σ : ab_SG} (h : sp_m_isNines [(1, 0, b0), (0, 0, a2)] σ (fun rv σ2 => G 59 [some (2, 93, 0), some (0, 0, a1), some (0, 0, a2), some (0, 0, a3), some (0, 0, a4)] (rv.toList ++ []) σ2)) : G 55 [some (2, 93, 0), some (0, 0, a1), some (0, 0, a2), some (0, 0, a3), some (0, 0, a4)] [(1, 0, b0)] σ := fw_on hG [10, 20, 28, 36, 52, 55, 59] 200 h
theorem fs_m_needs_59 {G : fw_K} {R : fw_KR} (hG : fw_cls st_m_needs R G) {a1 a2 a3 a4 b0 : Int} {σ : ab_SG} (h : (fw_c b0 = 0 → G 36 [some (2, 93, 0), some (0, 0, a1), some (0, 0, a2), some (0, 0, a3), some (0, 0, a4 + 1)] [] σ) ∧ (fw_c b0 ≠ 0 → R (some (0, 0, a4)) σ)) : G 59 [some (2, 93, 0), some (0, 0, a1), some (0, 0, a2), some (0, 0, a3), some (0, 0, a4)] [(0, 0, b0)] σ := fw_on hG [10, 20, 28, 36, 52, 55, 59] 200 h
abbrev fk_ablest : List fw_CR := [(166, 1, true, 6, 0, sp_isClue3), (169, 1, true, 6, 1, sp_setOf3), (184, 1, false, 0, 0, sp_isBid), (228, 3, true, 10, 4, sp_chanceOf)]
abbrev st_ablest : fw_K → fw_KR → fw_K := fw_st vwCl nn_sh nn_kd fw_kv fw_wc (nn_KI1.map (fun x => x.1)) (nn_KJ1.map (fun x => x.1)) (nn_PF1.map (fun x => x.1)) (nn_PS1.map (fun x => x.1)) fk_ablest 5 nn_dt126 9 0
theorem fs_ablest_0 {G : fw_K} {R : fw_KR} (hG : fw_cls st_ablest R G) {n c : Int} {σ : ab_SG} (h : sp_isBid [(0, 0, n)] σ (fun rv σ2 => G 4 [some (2, 0, 0), some (0, 0, n), some (0, 0, c), none, none, none, none, none, none] (rv.toList ++ []) σ2)) : G 0 [some (2, 0, 0), some (0, 0, n), some (0, 0, c), none, none, none, none, none, none] [] σ := fw_on hG [4, 15, 30, 54, 57, 74] 200 h
theorem fs_ablest_4 {G : fw_K} {R : fw_KR} (hG : fw_cls st_ablest R G) {a1 a2 b0 : Int} {o3 o4 o6 o7 o8 : Option ab_AV} {σ : ab_SG} (h : (fw_c b0 = 0 → R (some (0, 0, (-1))) σ) ∧ (fw_c b0 ≠ 0 → sp_isClue3 [(2, 3, 0), (0, 0, a2)] σ (fun rv σ2 => G 15 [some (2, 0, 0), some (0, 0, a1), some (0, 0, a2), o3, o4, none, o6, o7, o8] (rv.toList ++ []) σ2))) : G 4 [some (2, 0, 0), some (0, 0, a1), some (0, 0, a2), o3, o4, none, o6, o7, o8] [(0, 0, b0)] σ := fw_on hG [4, 15, 30, 54, 57, 74] 200 h
theorem fs_ablest_15 {G : fw_K} {R : fw_KR} (hG : fw_cls st_ablest R G) {a1 a2 b0 : Int} {o3 o4 o6 o7 o8 : Option ab_AV} {σ : ab_SG} (h : (fw_c b0 ≠ 0 → G 30 [some (2, 0, 0), some (0, 0, a1), some (0, 0, a2), some (0, 0, (-1)), some (1, 0, (-1)), none, some (0, 0, 0), o7, o8] [] σ) ∧ (fw_c b0 = 0 → R (some (0, 0, (-1))) σ)) : G 15 [some (2, 0, 0), some (0, 0, a1), some (0, 0, a2), o3, o4, none, o6, o7, o8] [(0, 0, b0)] σ := fw_on hG [4, 15, 30, 54, 57, 74] 200 h
theorem fs_ablest_30 {G : fw_K} {R : fw_KR} (hG : fw_cls st_ablest R G) {a1 a2 a3 a4 a6 : Int} {o7 o8 : Option ab_AV} {σ : ab_SG} (h : (fw_c (σ 3 13) ≤ fw_c a6 → R (some (0, 0, a3)) σ) ∧ (fw_c a6 < fw_c (σ 3 13) → sp_setOf3 [(2, 3, 0), (0, 0, a2)] σ (fun rv σ2 => G 54 [some (2, 0, 0), some (0, 0, a1), some (0, 0, a2), some (0, 0, a3), some (1, 0, a4), none, some (0, 0, a6), o7, o8] (rv.toList ++ [(0, 0, a1), (0, 0, a6), (2, 0, 0)]) σ2))) : G 30 [some (2, 0, 0), some (0, 0, a1), some (0, 0, a2), some (0, 0, a3), some (1, 0, a4), none, some (0, 0, a6), o7, o8] [] σ := fw_on hG [4, 15, 30, 54, 57, 74] 200 h
theorem fs_ablest_54 {G : fw_K} {R : fw_KR} (hG : fw_cls st_ablest R G) {a1 a2 a3 a4 a6 b0 b1 b2 : Int} {o7 o8 : Option ab_AV} {σ : ab_SG} (h : sp_chanceOf [(2, 0, 0), (0, 0, b2), (0, 0, b1), (0, 0, b0)] σ (fun rv σ2 => G 57 [some (2, 0, 0), some (0, 0, a1), some (0, 0, a2), some (0, 0, a3), some (1, 0, a4), none, some (0, 0, a6), o7, o8] (rv.toList ++ []) σ2)) : G 54 [some (2, 0, 0), some (0, 0, a1), some (0, 0, a2), some (0, 0, a3), some (1, 0, a4), none, some (0, 0, a6), o7, o8] [(0, 0, b0), (0, 0, b1), (0, 0, b2), (2, 0, 0)] σ := fw_on hG [4, 15, 30, 54, 57, 74] 200 h
theorem fs_ablest_57 {G : fw_K} {R : fw_KR} (hG : fw_cls st_ablest R G) {a1 a2 a3 a4 a6 b0 : Int} {o7 o8 : Option ab_AV} {σ : ab_SG} (h : (fw_d b0 ≤ fw_d a4 → G 74 [some (2, 0, 0), some (0, 0, a1), some (0, 0, a2), some (0, 0, a3), some (1, 0, a4), none, some (0, 0, a6), some (1, 0, b0), none] [] σ) ∧ (fw_d a4 < fw_d b0 → G 74 [some (2, 0, 0), some (0, 0, a1), some (0, 0, a2), some (0, 0, a6), some (1, 0, b0), none, some (0, 0, a6), some (1, 0, b0), none] [] σ)) : G 57 [some (2, 0, 0), some (0, 0, a1), some (0, 0, a2), some (0, 0, a3), some (1, 0, a4), none, some (0, 0, a6), o7, o8] [(1, 0, b0)] σ := fw_on hG [4, 15, 30, 54, 57, 74] 200 h
theorem fs_ablest_74 {G : fw_K} {R : fw_KR} (hG : fw_cls st_ablest R G) {a1 a2 a3 a4 a6 : Int} {o7 o8 : Option ab_AV} {σ : ab_SG} (h : G 30 [some (2, 0, 0), some (0, 0, a1), some (0, 0, a2), some (0, 0, a3), some (1, 0, a4), none, some (0, 0, a6 + 1), o7, o8] [] σ) : G 74 [some (2, 0, 0), some (0, 0, a1), some (0, 0, a2), some (0, 0, a3), some (1, 0, a4), none, some (0, 0, a6), o7, o8] [] σ := fw_on hG [4, 15, 30, 54, 57, 74] 200 h
abbrev fk_m_ablest : List fw_CR := [(171, 3, false, 0, 0, sp_m_isIn), (264, 1, true, 11, 0, sp_m_isClue), (303, 1, true, 11, 1, sp_m_left), (355, 3, true, 11, 8, sp_m_oddsOf)]
abbrev st_m_ablest : fw_K → fw_KR → fw_K := fw_st vwCl nn_sh nn_kd fw_kv fw_wc (nn_KI20.map (fun x => x.1)) (nn_KJ20.map (fun x => x.1)) (nn_PF20.map (fun x => x.1)) (nn_PS20.map (fun x => x.1)) fk_m_ablest 9 nn_dt288 9 0
theorem fs_m_ablest_0 {G : fw_K} {R : fw_KR} (hG : fw_cls st_m_ablest R G) {n c : Int} {σ : ab_SG} (h : sp_m_isIn [(0, 0, n), (0, 0, 1), (0, 0, 9)] (ab_ups σ 93 0 (fw_c 0)) (fun rv σ2 => G 12 [some (2, 93, 0), some (0, 0, n), some (0, 0, c), none, none, none, none, none, none] (rv.toList ++ []) σ2)) : G 0 [some (2, 93, 0), some (0, 0, n), some (0, 0, c), none, none, none, none, none, none] [] σ := fw_on hG [12, 20, 35, 55, 58, 78] 200 h
theorem fs_m_ablest_12 {G : fw_K} {R : fw_KR} (hG : fw_cls st_m_ablest R G) {a1 a2 b0 : Int} {o3 o4 o6 o7 o8 : Option ab_AV} {σ : ab_SG} (h : (fw_c b0 = 0 → R (some (0, 0, (-1))) σ) ∧ (fw_c b0 ≠ 0 → sp_m_isClue [(2, 93, 0), (0, 0, a2)] σ (fun rv σ2 => G 20 [some (2, 93, 0), some (0, 0, a1), some (0, 0, a2), o3, o4, none, o6, o7, o8] (rv.toList ++ []) σ2))) : G 12 [some (2, 93, 0), some (0, 0, a1), some (0, 0, a2), o3, o4, none, o6, o7, o8] [(0, 0, b0)] σ := fw_on hG [12, 20, 35, 55, 58, 78] 200 h
theorem fs_m_ablest_20 {G : fw_K} {R : fw_KR} (hG : fw_cls st_m_ablest R G) {a1 a2 b0 : Int} {o3 o4 o6 o7 o8 : Option ab_AV} {σ : ab_SG} (h : (fw_c b0 ≠ 0 → G 35 [some (2, 93, 0), some (0, 0, a1), some (0, 0, a2), some (0, 0, (-1)), some (1, 0, (-1)), none, some (0, 0, 0), o7, o8] [] σ) ∧ (fw_c b0 = 0 → R (some (0, 0, (-1))) σ)) : G 20 [some (2, 93, 0), some (0, 0, a1), some (0, 0, a2), o3, o4, none, o6, o7, o8] [(0, 0, b0)] σ := fw_on hG [12, 20, 35, 55, 58, 78] 200 h
theorem fs_m_ablest_35 {G : fw_K} {R : fw_KR} (hG : fw_cls st_m_ablest R G) {a1 a2 a3 a4 a6 : Int} {o7 o8 : Option ab_AV} {σ : ab_SG} (h : (0 ≤ fw_c 2 ∧ fw_c 2 < ((474 : Nat) : Int)) ∧ ((fw_c (σ 95 (fw_c 2).toNat) ≤ fw_c a6 → R (some (0, 0, a3)) σ) ∧ (fw_c a6 < fw_c (σ 95 (fw_c 2).toNat) → sp_m_left [(2, 93, 0), (0, 0, a2)] σ (fun rv σ2 => G 55 [some (2, 93, 0), some (0, 0, a1), some (0, 0, a2), some (0, 0, a3), some (1, 0, a4), none, some (0, 0, a6), o7, o8] (rv.toList ++ [(0, 0, a1), (0, 0, a6), (2, 93, 0)]) σ2)))) : G 35 [some (2, 93, 0), some (0, 0, a1), some (0, 0, a2), some (0, 0, a3), some (1, 0, a4), none, some (0, 0, a6), o7, o8] [] σ := fw_on hG [12, 20, 35, 55, 58, 78] 200 h
theorem fs_m_ablest_55 {G : fw_K} {R : fw_KR} (hG : fw_cls st_m_ablest R G) {a1 a2 a3 a4 a6 b0 b1 b2 : Int} {o7 o8 : Option ab_AV} {σ : ab_SG} (h : sp_m_oddsOf [(2, 93, 0), (0, 0, b2), (0, 0, b1), (0, 0, b0)] σ (fun rv σ2 => G 58 [some (2, 93, 0), some (0, 0, a1), some (0, 0, a2), some (0, 0, a3), some (1, 0, a4), none, some (0, 0, a6), o7, o8] (rv.toList ++ []) σ2)) : G 55 [some (2, 93, 0), some (0, 0, a1), some (0, 0, a2), some (0, 0, a3), some (1, 0, a4), none, some (0, 0, a6), o7, o8] [(0, 0, b0), (0, 0, b1), (0, 0, b2), (2, 93, 0)] σ := fw_on hG [12, 20, 35, 55, 58, 78] 200 h
theorem fs_m_ablest_58 {G : fw_K} {R : fw_KR} (hG : fw_cls st_m_ablest R G) {a1 a2 a3 a4 a6 b0 : Int} {o7 o8 : Option ab_AV} {σ : ab_SG} (h : (fw_d a4 < fw_d b0 → G 78 [some (2, 93, 0), some (0, 0, a1), some (0, 0, a2), some (0, 0, a6), some (1, 0, b0), none, some (0, 0, a6), some (1, 0, b0), none] [] σ) ∧ (fw_d b0 ≤ fw_d a4 → G 78 [some (2, 93, 0), some (0, 0, a1), some (0, 0, a2), some (0, 0, a3), some (1, 0, a4), none, some (0, 0, a6), some (1, 0, b0), none] [] σ)) : G 58 [some (2, 93, 0), some (0, 0, a1), some (0, 0, a2), some (0, 0, a3), some (1, 0, a4), none, some (0, 0, a6), o7, o8] [(1, 0, b0)] σ := fw_on hG [12, 20, 35, 55, 58, 78] 200 h
theorem fs_m_ablest_78 {G : fw_K} {R : fw_KR} (hG : fw_cls st_m_ablest R G) {a1 a2 a3 a4 a6 : Int} {o7 o8 : Option ab_AV} {σ : ab_SG} (h : G 35 [some (2, 93, 0), some (0, 0, a1), some (0, 0, a2), some (0, 0, a3), some (1, 0, a4), none, some (0, 0, a6 + 1), o7, o8] [] σ) : G 78 [some (2, 93, 0), some (0, 0, a1), some (0, 0, a2), some (0, 0, a3), some (1, 0, a4), none, some (0, 0, a6), o7, o8] [] σ := fw_on hG [12, 20, 35, 55, 58, 78] 200 h

section
variable {l : Launch} {cy : Nat → ClassId} {ad wr cr : Nat → Nat} {D : va_G}
theorem fm_m_oddsBy (hinj : nn_inj ad) : fw_H l cy ad wr cr D 284 7 sp_m_oddsBy := fw_mk hinj (⟨"NameNotesModel", "oddsBy", "(II)J"⟩, prog_14_method_78_code, 6, (Option.some Jvm.ClassFile.FieldType.long), 2, true, 2) rfl rfl nn_KI20_ok nn_KJ20_ok nn_PF20_ok nn_PS20_ok (by decide +kernel) rfl rfl (List.forall_mem_cons.mpr ⟨fw_row nn_PM20_ok (x := 216) (k := 0) (mn := 230) (np := 2) (ob := false) (ci := 0) (⟨"NameNotesModel", "has", "(II)Z"⟩, prog_14_method_9_code, 2, (Option.some Jvm.ClassFile.FieldType.boolean), 2, false, 1) rfl (by decide +kernel) rfl rfl (by decide) (fun q => by cases q) (fm_m_has hinj), (List.forall_mem_cons.mpr ⟨fw_row nn_PM20_ok (x := 261) (k := 0) (mn := 240) (np := 0) (ob := true) (ci := 11) (⟨"NameNotesModel", "tunes", "()I"⟩, prog_14_method_41_code, 1, (Option.some Jvm.ClassFile.FieldType.int), 0, true, 0) rfl (by decide +kernel) rfl rfl (by decide) (fun _ => ⟨_, _, rfl⟩) (fm_m_tunes hinj), (List.forall_mem_cons.mpr ⟨fw_row nn_PM20_ok (x := 322) (k := 0) (mn := 274) (np := 1) (ob := false) (ci := 0) (⟨"NameNotesModel", "bits", "(I)I"⟩, prog_14_method_10_code, 3, (Option.some Jvm.ClassFile.FieldType.int), 1, false, 0) rfl (by decide +kernel) rfl rfl (by decide) (fun q => by cases q) (fm_m_bits9 hinj), (List.forall_mem_cons.mpr ⟨fw_row nn_PM20_ok (x := 331) (k := 0) (mn := 279) (np := 3) (ob := true) (ci := 11) (⟨"NameNotesModel", "namedBy", "(III)J"⟩, prog_14_method_77_code, 9, (Option.some Jvm.ClassFile.FieldType.long), 3, true, 2) rfl (by decide +kernel) rfl rfl (by decide) (fun _ => ⟨_, _, rfl⟩) (fm_m_namedBy hinj), (fun _ h => absurd h List.not_mem_nil)⟩)⟩)⟩)⟩) (fun as σ K h => by
  obtain ⟨A, n, s, rfl, hN, hn, hs, ht, hk, h⟩ := h
  have nT := (N_n hN.1).1
  obtain ⟨T, eT⟩ := Int.eq_ofNat_of_zero_le nT.1
  have cT : fw_c (T : Int) = (T : Int) := fw_s (by omega) (by omega)
  have cp := oz_cnt_pos hs.1 hs.2
  have cl := oz_cnt_le (oz_P s) 9
  have m106 : ∀ τ : ab_SG, ab_okM [(107, 1000000)] σ τ → τ 106 = σ 106 := fun τ M => funext fun y => M 106 y (fun q hq => by rw [List.mem_singleton] at hq; rw [hq]; exact fun z => absurd z.1 (by decide))
  have m95 : ∀ τ : ab_SG, ab_okM [(107, 1000000)] σ τ → τ 95 0 = (T : Int) := fun τ M => ((M 95 0 (fun q hq => by rw [List.mem_singleton] at hq; rw [hq]; exact fun z => absurd z.1 (by decide))).trans (NM_n hN).1).trans eT
  have fin : oz_sum (fun x => cond (oz_P s x) (oz_nb (σ 106) (v_lk A (x : Int) n 0 s (A 49 11).toNat) x) 0) 9 = oz_sum (fun x => cond (oz_P s x) (oz_nb (σ 106) (v_lk A (x : Int) n 0 s (A 49 11).toNat) x) 0) T := by
    have tail : ∀ d : Nat, T + d ≤ 9 → oz_sum (fun x => cond (oz_P s x) (oz_nb (σ 106) (v_lk A (x : Int) n 0 s (A 49 11).toNat) x) 0) (T + d) = oz_sum (fun x => cond (oz_P s x) (oz_nb (σ 106) (v_lk A (x : Int) n 0 s (A 49 11).toNat) x) 0) T := by
      intro d
      induction d with
      | zero => intro _; rfl
      | succ d ih =>
        intro hd
        have q : oz_P s (T + d) = false := by
          rw [← Bool.not_eq_true]
          intro z
          have := ht (T + d) (by omega) z
          omega
        show oz_sum _ (T + d) + cond (oz_P s (T + d)) _ 0 = _
        rw [q, ih (by omega)]
        exact Int.add_zero _
    have := tail (9 - T) (by omega)
    rw [show T + (9 - T) = 9 by omega] at this
    exact this
  refine ⟨rfl, fun G hG => fs_m_oddsBy_0 hG ?_⟩
  have loop : ∀ (f x : Nat) (τ : ab_SG), x + f = T → ab_okM [(107, 1000000)] σ τ → G 5 [some (2, 93, 0), some (0, 0, n), some (0, 0, s), some (1, 0, oz_sum (fun x => cond (oz_P s x) (oz_nb (σ 106) (v_lk A (x : Int) n 0 s (A 49 11).toNat) x) 0) x), none, some (0, 0, (x : Int))] [] τ := by
    intro f
    induction f with
    | zero =>
      intro x τ hx M
      have e : x = T := by omega
      subst e
      refine fs_m_oddsBy_5 hG ⟨rfl, fs_m_oddsBy_11 hG ?_⟩
      rw [m95 τ M, cT]
      refine ⟨fun _ => ⟨s, rfl, by omega, fs_m_oddsBy_48 hG ?_⟩, fun z => absurd z (by omega)⟩
      have cc : fw_c ((oz_cnt (oz_P s) 9 : Nat) : Int) = ((oz_cnt (oz_P s) 9 : Nat) : Int) := fw_s (by omega) (by omega)
      have ee := oz_each (oz_cnt (oz_P s) 9 - 1) (by omega)
      rw [show ((oz_cnt (oz_P s) 9 - 1 : Nat) : Int) + 1 = ((oz_cnt (oz_P s) 9 : Nat) : Int) by omega, show oz_cnt (oz_P s) 9 - 1 + 1 = oz_cnt (oz_P s) 9 by omega] at ee
      rw [cc, ee, fw_d_id (by omega) (by omega)]
      refine ⟨by omega, ?_⟩
      have hh := h τ M
      unfold oz_ro at hh
      rw [fin] at hh
      exact hh
    | succ f ih =>
      intro x τ hx M
      have cx : fw_c (x : Int) = (x : Int) := fw_s (by omega) (by omega)
      refine fs_m_oddsBy_5 hG ⟨rfl, fs_m_oddsBy_11 hG ?_⟩
      rw [m95 τ M, cT, cx]
      refine ⟨fun z => absurd z (by omega), fun _ => ⟨s, (x : Int), rfl, fs_m_oddsBy_20 hG ⟨fun q => fs_m_oddsBy_34 hG ?_, fun q => ?_⟩⟩⟩
      · have q1 : oz_P s x = false := by
          rw [← Bool.not_eq_true]
          exact fun z => fw_bo_eq q z
        have k := ih (x + 1) τ (by omega) M
        have e : oz_sum (fun x => cond (oz_P s x) (oz_nb (σ 106) (v_lk A (x : Int) n 0 s (A 49 11).toNat) x) 0) (x + 1) = oz_sum (fun x => cond (oz_P s x) (oz_nb (σ 106) (v_lk A (x : Int) n 0 s (A 49 11).toNat) x) 0) x := by
          show oz_sum _ x + cond (oz_P s x) _ 0 = _
          rw [q1]
          exact Int.add_zero _
        rw [e, show ((x + 1 : Nat) : Int) = (x : Int) + 1 from rfl] at k
        exact k
      · have q1 : oz_P s x = true := fw_bo_ne q
        refine ⟨A, x, n, s, rfl, oz_NMM M (by decide +kernel) hN, by omega, hn, by omega, fun y hy => by rw [m106 τ M]; exact hk y hy, fun τ' M' => fs_m_oddsBy_32 hG (fs_m_oddsBy_34 hG ?_)⟩
        have k := ih (x + 1) τ' (by omega) (on_trans M M')
        have e : oz_sum (fun x => cond (oz_P s x) (oz_nb (σ 106) (v_lk A (x : Int) n 0 s (A 49 11).toNat) x) 0) (x + 1) = oz_sum (fun x => cond (oz_P s x) (oz_nb (σ 106) (v_lk A (x : Int) n 0 s (A 49 11).toNat) x) 0) x + oz_nb (σ 106) (v_lk A (x : Int) n 0 s (A 49 11).toNat) x := by
          show oz_sum _ x + cond (oz_P s x) _ 0 = _
          rw [q1]
          rfl
        rw [e, show ((x + 1 : Nat) : Int) = (x : Int) + 1 from rfl] at k
        rw [m106 τ M]
        exact k
  exact loop T 0 σ (Nat.zero_add T) (fw_okM_refl _ _))
theorem fm_m_oddsOf (hinj : nn_inj ad) : fw_H l cy ad wr cr D 283 8 sp_m_oddsOf := fw_mk hinj (⟨"NameNotesModel", "oddsOf", "(III)J"⟩, prog_14_method_79_code, 4, (Option.some Jvm.ClassFile.FieldType.long), 3, true, 2) rfl rfl nn_KI20_ok nn_KJ20_ok nn_PF20_ok nn_PS20_ok (by decide +kernel) rfl rfl (List.forall_mem_cons.mpr ⟨fw_row nn_PM20_ok (x := 335) (k := 0) (mn := 278) (np := 1) (ob := true) (ci := 11) (⟨"NameNotesModel", "layMind", "(I)V"⟩, prog_14_method_76_code, 3, (Option.none : Option Jvm.ClassFile.FieldType), 1, true, 4) rfl (by decide +kernel) rfl rfl (by decide) (fun _ => ⟨_, _, rfl⟩) (fm_m_layMind hinj), (List.forall_mem_cons.mpr ⟨fw_row nn_PM20_ok (x := 338) (k := 0) (mn := 284) (np := 2) (ob := true) (ci := 11) (⟨"NameNotesModel", "oddsBy", "(II)J"⟩, prog_14_method_78_code, 6, (Option.some Jvm.ClassFile.FieldType.long), 2, true, 2) rfl (by decide +kernel) rfl rfl (by decide) (fun _ => ⟨_, _, rfl⟩) (fm_m_oddsBy hinj), (fun _ h => absurd h List.not_mem_nil)⟩)⟩) (fun as σ K h => by
  obtain ⟨A, p, n, s, rfl, hN, hp, hn, hs, ht, h⟩ := h
  refine ⟨rfl, fun G hG => fs_m_oddsOf_0 hG ⟨A, p, rfl, hN, hp, fun σ1 M1 I1 => fs_m_oddsOf_5 hG ⟨A, n, s, rfl, oz_NMM M1 (by decide +kernel) hN, hn, hs, ht, fun y hy => by rw [I1 y hy]; exact on_kn_b hN (by omega), fun σ2 M2 => fs_m_oddsOf_11 hG ?_⟩⟩⟩
  have e : oz_ro (σ1 106) A n s = 2520 * oz_odds A p n s := by
    rw [oz_same hN.1 (σ1 106) hn hs ht]
    unfold oz_odds oz_ch
    rw [oz_sm_congr (κ' := oz_kp A p) (γ' := oz_grp A n s) (fun y hy => I1 y hy) (fun x _ => rfl)]
  rw [e]
  exact h σ2 (on_trans M1 (od_up M2 (by decide))))
theorem fm_m_isNines (hinj : nn_inj ad) : fw_H l cy ad wr cr D 287 0 sp_m_isNines := fw_mk hinj (⟨"NameNotesModel", "isNines", "(JI)Z"⟩, prog_14_method_84_code, 3, (Option.some Jvm.ClassFile.FieldType.boolean), 2, false, 1) rfl rfl nn_KI20_ok nn_KJ20_ok nn_PF20_ok nn_PS20_ok (by decide +kernel) rfl rfl (fun _ h => absurd h List.not_mem_nil) (fun as σ K h => by
  obtain ⟨v, k, rfl, hv, hk, h⟩ := h
  refine ⟨rfl, fun G hG => fs_m_isNines_0 hG ?_⟩
  rw [fw_s (x := k) (by omega) (by omega), fw_d_id (x := 2520 * v) (by omega) (by omega), fw_d_id (x := 273363897038400 * k) (by omega) (by omega)]
  refine ⟨fun q => ⟨fw_01, ?_⟩, fun q => ⟨by rw [fw_c1]; decide, ?_⟩⟩
  · rw [fw_bo_f (by omega)] at h
    exact h
  · rw [fw_bo_t (by omega)] at h
    exact h)
theorem fm_needs (hinj : nn_inj ad) : fw_H l cy ad wr cr D 80 5 sp_needs := fw_mk hinj (⟨"NameNotes", "needs", "(III)I"⟩, prog_1_method_17_code, 5, (Option.some Jvm.ClassFile.FieldType.int), 3, true, 0) rfl rfl nn_KI1_ok nn_KJ1_ok nn_PF1_ok nn_PS1_ok (by decide +kernel) rfl rfl (List.forall_mem_cons.mpr ⟨fw_row nn_PM1_ok (x := 166) (k := 0) (mn := 63) (np := 1) (ob := true) (ci := 6) (⟨"NameNotes$Studio", "isClue", "(I)Z"⟩, prog_8_method_5_code, 2, (Option.some Jvm.ClassFile.FieldType.boolean), 1, true, 1) rfl (by decide +kernel) rfl rfl (by decide) (fun _ => ⟨_, _, rfl⟩) (fm_isClue3 hinj), (List.forall_mem_cons.mpr ⟨fw_row nn_PM1_ok (x := 169) (k := 0) (mn := 64) (np := 1) (ob := true) (ci := 6) (⟨"NameNotes$Studio", "setOf", "(I)I"⟩, prog_8_method_8_code, 2, (Option.some Jvm.ClassFile.FieldType.int), 1, true, 0) rfl (by decide +kernel) rfl rfl (by decide) (fun _ => ⟨_, _, rfl⟩) (fm_setOf3 hinj), (List.forall_mem_cons.mpr ⟨fw_row nn_PM1_ok (x := 173) (k := 0) (mn := 67) (np := 1) (ob := true) (ci := 6) (⟨"NameNotes$Studio", "isPerson", "(I)Z"⟩, prog_8_method_6_code, 2, (Option.some Jvm.ClassFile.FieldType.boolean), 1, true, 1) rfl (by decide +kernel) rfl rfl (by decide) (fun _ => ⟨_, _, rfl⟩) (fm_isPerson3 hinj), (List.forall_mem_cons.mpr ⟨fw_row nn_PM1_ok (x := 228) (k := 0) (mn := 82) (np := 3) (ob := true) (ci := 10) (⟨"NameNotes", "chanceOf", "(III)J"⟩, prog_1_method_65_code, 4, (Option.some Jvm.ClassFile.FieldType.long), 3, true, 2) rfl (by decide +kernel) rfl rfl (by decide) (fun _ => ⟨_, _, rfl⟩) (fm_chanceOf hinj), (List.forall_mem_cons.mpr ⟨fw_row nn_PM1_ok (x := 232) (k := 0) (mn := 81) (np := 1) (ob := false) (ci := 0) (⟨"NameNotes", "isNinth", "(I)Z"⟩, prog_1_method_75_code, 1, (Option.some Jvm.ClassFile.FieldType.boolean), 1, false, 1) rfl (by decide +kernel) rfl rfl (by decide) (fun q => by cases q) (fm_isNinth hinj), (List.forall_mem_cons.mpr ⟨fw_row nn_PM1_ok (x := 235) (k := 0) (mn := 89) (np := 2) (ob := false) (ci := 0) (⟨"NameNotes", "reaches", "(JI)Z"⟩, prog_1_method_78_code, 3, (Option.some Jvm.ClassFile.FieldType.boolean), 2, false, 1) rfl (by decide +kernel) rfl rfl (by decide) (fun q => by cases q) (fm_reaches hinj), (fun _ h => absurd h List.not_mem_nil)⟩)⟩)⟩)⟩)⟩)⟩) (fun as σ K h => by
  obtain ⟨A, p, k, c, rfl, ⟨ep, ek, ec⟩, hN, h⟩ := h
  have nn := N_n hN.1
  have c9 : fw_c 9 = 9 := fw_s (by decide) (by decide)
  refine ⟨rfl, fun G hG => fs_needs_0 hG ⟨p, rfl, fs_needs_8 hG ?_⟩⟩
  unfold v_needs at h
  rw [oz_c_pe hN ep]
  refine ⟨fun q => ?_, fun q1 => ⟨k, rfl, fs_needs_15 hG ?_⟩⟩
  · rw [if_neg (fun z => fw_bo_eq q z.1)] at h
    exact h σ (fw_okM_refl _ _)
  rw [oz_nine ek]
  refine ⟨fun q => ?_, fun q2 => ⟨A, c, rfl, ec, hN, fs_needs_26 hG ⟨fun q3 => ?_, fun q => ?_⟩⟩⟩
  · rw [if_neg (fun z => fw_bo_eq q z.2.1)] at h
    exact h σ (fw_okM_refl _ _)
  · have h1 := fw_bo_ne q1
    have h2 := fw_bo_ne q2
    have h3 := fw_bo_ne q3
    rw [if_pos ⟨h1, h2, h3⟩] at h
    obtain ⟨p', rfl⟩ := Int.eq_ofNat_of_zero_le h1.1
    rw [Int.toNat_natCast] at h
    have cl := oz_clue hN.1 hN.2.1 h3.1 h3.2
    have loop : ∀ (f n : Nat) (τ : ab_SG), n + f = 10 → 1 ≤ n → ab_okM oz_M σ τ → nd_f A p' k (v_set A c) f n = nd_f A p' k (v_set A c) 9 1 → G 34 [some (2, 0, 0), some (0, 0, (p' : Int)), some (0, 0, k), some (0, 0, c), some (0, 0, (n : Int))] [] τ := by
      intro f
      induction f with
      | zero =>
        intro n τ hn h0 M e
        refine fs_needs_34 hG ?_
        rw [c9, fw_s (x := (n : Int)) (by omega) (by omega)]
        refine ⟨fun _ => ?_, fun z => absurd z (by omega)⟩
        rw [← e] at h
        exact h τ M
      | succ f ih =>
        intro n τ hn h0 M e
        have Nt := oz_NCM M (by decide +kernel) hN
        refine fs_needs_34 hG ?_
        rw [c9, fw_s (x := (n : Int)) (by omega) (by omega)]
        refine ⟨fun z => absurd z (by omega), fun _ => ⟨A, c, rfl, Nt, by omega, fs_needs_53 hG ⟨A, p', (n : Int), v_set A c, rfl, Nt, by omega, by omega, cl.1, cl.2, fun τ' M' => fs_needs_56 hG ⟨_, k, rfl, oz_odds_b Nt (by omega) cl.1, h2, fs_needs_60 hG ⟨fun q => ?_, fun q => ?_⟩⟩⟩⟩⟩
        · have z := fw_bo_eq q
          rw [nd_s, if_neg z] at e
          have g := ih (n + 1) τ' (by omega) (by omega) (fun a b q => (M' a b q).trans (M a b q)) e
          rw [show ((n + 1 : Nat) : Int) = (n : Int) + 1 from rfl] at g
          exact g
        · have z := fw_bo_ne q
          rw [nd_s, if_pos z] at e
          rw [← e] at h
          exact h τ' (fun a b q => (M' a b q).trans (M a b q))
    exact loop 9 1 σ rfl (Nat.le_refl 1) (fw_okM_refl _ _) rfl
  · rw [if_neg (fun z => fw_bo_eq q z.2.2)] at h
    exact h σ (fw_okM_refl _ _))
theorem fm_m_needs (hinj : nn_inj ad) : fw_H l cy ad wr cr D 286 9 sp_m_needs := fw_mk hinj (⟨"NameNotesModel", "needs", "(III)I"⟩, prog_14_method_85_code, 5, (Option.some Jvm.ClassFile.FieldType.int), 3, true, 0) rfl rfl nn_KI20_ok nn_KJ20_ok nn_PF20_ok nn_PS20_ok (by decide +kernel) rfl rfl (List.forall_mem_cons.mpr ⟨fw_row nn_PM20_ok (x := 171) (k := 0) (mn := 226) (np := 3) (ob := false) (ci := 0) (⟨"NameNotesModel", "isIn", "(III)Z"⟩, prog_14_method_8_code, 3, (Option.some Jvm.ClassFile.FieldType.boolean), 3, false, 1) rfl (by decide +kernel) rfl rfl (by decide) (fun q => by cases q) (fm_m_isIn hinj), (List.forall_mem_cons.mpr ⟨fw_row nn_PM20_ok (x := 264) (k := 0) (mn := 247) (np := 1) (ob := true) (ci := 11) (⟨"NameNotesModel", "isClue", "(I)Z"⟩, prog_14_method_43_code, 2, (Option.some Jvm.ClassFile.FieldType.boolean), 1, true, 1) rfl (by decide +kernel) rfl rfl (by decide) (fun _ => ⟨_, _, rfl⟩) (fm_m_isClue hinj), (List.forall_mem_cons.mpr ⟨fw_row nn_PM20_ok (x := 281) (k := 0) (mn := 249) (np := 1) (ob := true) (ci := 11) (⟨"NameNotesModel", "isPerson", "(I)Z"⟩, prog_14_method_44_code, 2, (Option.some Jvm.ClassFile.FieldType.boolean), 1, true, 1) rfl (by decide +kernel) rfl rfl (by decide) (fun _ => ⟨_, _, rfl⟩) (fm_m_isPerson hinj), (List.forall_mem_cons.mpr ⟨fw_row nn_PM20_ok (x := 303) (k := 0) (mn := 255) (np := 1) (ob := true) (ci := 11) (⟨"NameNotesModel", "left", "(I)I"⟩, prog_14_method_47_code, 2, (Option.some Jvm.ClassFile.FieldType.int), 1, true, 0) rfl (by decide +kernel) rfl rfl (by decide) (fun _ => ⟨_, _, rfl⟩) (fm_m_left hinj), (List.forall_mem_cons.mpr ⟨fw_row nn_PM20_ok (x := 355) (k := 0) (mn := 283) (np := 3) (ob := true) (ci := 11) (⟨"NameNotesModel", "oddsOf", "(III)J"⟩, prog_14_method_79_code, 4, (Option.some Jvm.ClassFile.FieldType.long), 3, true, 2) rfl (by decide +kernel) rfl rfl (by decide) (fun _ => ⟨_, _, rfl⟩) (fm_m_oddsOf hinj), (List.forall_mem_cons.mpr ⟨fw_row nn_PM20_ok (x := 362) (k := 0) (mn := 287) (np := 2) (ob := false) (ci := 0) (⟨"NameNotesModel", "isNines", "(JI)Z"⟩, prog_14_method_84_code, 3, (Option.some Jvm.ClassFile.FieldType.boolean), 2, false, 1) rfl (by decide +kernel) rfl rfl (by decide) (fun q => by cases q) (fm_m_isNines hinj), (fun _ h => absurd h List.not_mem_nil)⟩)⟩)⟩)⟩)⟩)⟩) (fun as σ0 K h => by
  obtain ⟨A, p, k, c, rfl, ⟨ep, ek, ec⟩, hN0, h⟩ := h
  have nn := N_n hN0.1
  have c9 : fw_c 9 = 9 := fw_s (by decide) (by decide)
  refine ⟨rfl, fun G hG => fs_m_needs_0 hG ?_⟩
  rw [fw_c0]
  have hN : NM (ab_ups σ0 93 0 0) A := oz_NMM (od_93 σ0) (by decide +kernel) hN0
  have h : ∀ σ' : ab_SG, ab_okM od_N (ab_ups σ0 93 0 0) σ' → K (some (0, 0, v_needs A p k c)) σ' := fun σ' M => h σ' (on_trans (od_93 σ0) M)
  generalize ab_ups σ0 93 0 0 = σ at hN h ⊢
  refine ⟨p, rfl, fs_m_needs_10 hG ?_⟩
  unfold v_needs at h
  rw [oz_m_pe hN ep]
  refine ⟨fun q => ?_, fun q1 => ⟨k, 0, 9, rfl, fs_m_needs_20 hG ?_⟩⟩
  · rw [if_neg (fun z => fw_bo_eq q z.1)] at h
    exact h σ (fw_okM_refl _ _)
  rw [ek, fw_c0, c9]
  refine ⟨fun q => ?_, fun q2 => ⟨A, c, rfl, ec, hN, fs_m_needs_28 hG ⟨fun q3 => ?_, fun q => ?_⟩⟩⟩
  · rw [if_neg (fun z => fw_bo_eq q z.2.1)] at h
    exact h σ (fw_okM_refl _ _)
  · have h1 := fw_bo_ne q1
    have h2 := fw_bo_ne q2
    have h3 := fw_bo_ne q3
    rw [if_pos ⟨h1, h2, h3⟩] at h
    obtain ⟨p', rfl⟩ := Int.eq_ofNat_of_zero_le h1.1
    rw [Int.toNat_natCast] at h
    have cl := oz_clue hN.1 hN.2.1 h3.1 h3.2
    have ob : ∀ n : Int, 0 ≤ oz_odds A p' n (v_set A c) ∧ oz_odds A p' n (v_set A c) ≤ 976299632280 := fun n => oz_odds_bm hN (by omega) cl.1
    have loop : ∀ (f n : Nat) (τ : ab_SG), n + f = 10 → 1 ≤ n → ab_okM od_N σ τ → nd_f A p' k (v_set A c) f n = nd_f A p' k (v_set A c) 9 1 → G 36 [some (2, 93, 0), some (0, 0, (p' : Int)), some (0, 0, k), some (0, 0, c), some (0, 0, (n : Int))] [] τ := by
      intro f
      induction f with
      | zero =>
        intro n τ hn h0 M e
        refine fs_m_needs_36 hG ?_
        rw [c9, fw_s (x := (n : Int)) (by omega) (by omega)]
        refine ⟨fun _ => ?_, fun z => absurd z (by omega)⟩
        rw [← e] at h
        exact h τ M
      | succ f ih =>
        intro n τ hn h0 M e
        have Nt := oz_NMM M (by decide +kernel) hN
        refine fs_m_needs_36 hG ?_
        rw [c9, fw_s (x := (n : Int)) (by omega) (by omega)]
        refine ⟨fun z => absurd z (by omega), fun _ => ⟨A, c, rfl, Nt, by omega, fs_m_needs_52 hG ⟨A, p', (n : Int), v_set A c, rfl, Nt, by omega, by omega, cl.1, cl.2, fun τ' M' => fs_m_needs_55 hG ⟨_, k, rfl, ob n, h2, fs_m_needs_59 hG ⟨fun q => ?_, fun q => ?_⟩⟩⟩⟩⟩
        · have z := fw_bo_eq q
          rw [nd_s, if_neg z] at e
          have g := ih (n + 1) τ' (by omega) (by omega) (on_trans M (od_up M' (by decide))) e
          rw [show ((n + 1 : Nat) : Int) = (n : Int) + 1 from rfl] at g
          exact g
        · have z := fw_bo_ne q
          rw [nd_s, if_pos z] at e
          rw [← e] at h
          exact h τ' (on_trans M (od_up M' (by decide)))
    exact loop 9 1 σ rfl (Nat.le_refl 1) (fw_okM_refl _ _) rfl
  · rw [if_neg (fun z => fw_bo_eq q z.2.2)] at h
    exact h σ (fw_okM_refl _ _))
theorem fm_ablest (hinj : nn_inj ad) : fw_H l cy ad wr cr D 126 5 sp_ablest := fw_mk hinj (⟨"NameNotes", "ablest", "(II)I"⟩, prog_1_method_29_code, 9, (Option.some Jvm.ClassFile.FieldType.int), 2, true, 0) rfl rfl nn_KI1_ok nn_KJ1_ok nn_PF1_ok nn_PS1_ok (by decide +kernel) rfl rfl (List.forall_mem_cons.mpr ⟨fw_row nn_PM1_ok (x := 166) (k := 0) (mn := 63) (np := 1) (ob := true) (ci := 6) (⟨"NameNotes$Studio", "isClue", "(I)Z"⟩, prog_8_method_5_code, 2, (Option.some Jvm.ClassFile.FieldType.boolean), 1, true, 1) rfl (by decide +kernel) rfl rfl (by decide) (fun _ => ⟨_, _, rfl⟩) (fm_isClue3 hinj), (List.forall_mem_cons.mpr ⟨fw_row nn_PM1_ok (x := 169) (k := 0) (mn := 64) (np := 1) (ob := true) (ci := 6) (⟨"NameNotes$Studio", "setOf", "(I)I"⟩, prog_8_method_8_code, 2, (Option.some Jvm.ClassFile.FieldType.int), 1, true, 0) rfl (by decide +kernel) rfl rfl (by decide) (fun _ => ⟨_, _, rfl⟩) (fm_setOf3 hinj), (List.forall_mem_cons.mpr ⟨fw_row nn_PM1_ok (x := 184) (k := 0) (mn := 71) (np := 1) (ob := false) (ci := 0) (⟨"NameNotes", "isBid", "(I)Z"⟩, prog_1_method_72_code, 1, (Option.some Jvm.ClassFile.FieldType.boolean), 1, false, 1) rfl (by decide +kernel) rfl rfl (by decide) (fun q => by cases q) (fm_isBid hinj), (List.forall_mem_cons.mpr ⟨fw_row nn_PM1_ok (x := 228) (k := 0) (mn := 82) (np := 3) (ob := true) (ci := 10) (⟨"NameNotes", "chanceOf", "(III)J"⟩, prog_1_method_65_code, 4, (Option.some Jvm.ClassFile.FieldType.long), 3, true, 2) rfl (by decide +kernel) rfl rfl (by decide) (fun _ => ⟨_, _, rfl⟩) (fm_chanceOf hinj), (fun _ h => absurd h List.not_mem_nil)⟩)⟩)⟩)⟩) (fun as σ K h => by
  obtain ⟨A, n, c, rfl, ⟨en, ec⟩, hN, h⟩ := h
  have nn := N_n hN.1
  obtain ⟨T, eT⟩ := Int.eq_ofNat_of_zero_le nn.2.2.1
  have cT : fw_c (T : Int) = (T : Int) := fw_s (by omega) (by omega)
  refine ⟨rfl, fun G hG => fs_ablest_0 hG ⟨n, rfl, en, fs_ablest_4 hG ⟨fun q => ?_, fun q1 => ⟨A, c, rfl, ec, hN, fs_ablest_15 hG ⟨fun q2 => ?_, fun q => ?_⟩⟩⟩⟩⟩
  · unfold v_ablest at h
    rw [if_neg (fun z => fw_bo_eq q z.1)] at h
    exact h σ (fw_okM_refl _ _)
  · have h1 := fw_bo_ne q1
    have h2 := fw_bo_ne q2
    unfold v_ablest at h
    rw [if_pos ⟨h1, h2⟩, eT, Int.toNat_natCast] at h
    have cl := oz_clue hN.1 hN.2.1 h2.1 h2.2
    have loop : ∀ (f p : Nat) (τ : ab_SG) (o7 o8 : Option ab_AV), p + f = T → ab_okM oz_M σ τ → G 30 [some (2, 0, 0), some (0, 0, n), some (0, 0, c), some (0, 0, (ol_f A n (v_set A c) p).1), some (1, 0, (ol_f A n (v_set A c) p).2), none, some (0, 0, (p : Int)), o7, o8] [] τ := by
      intro f
      induction f with
      | zero =>
        intro p τ o7 o8 hp M
        have e : p = T := by omega
        subst e
        have Nt := oz_NCM M (by decide +kernel) hN
        refine fs_ablest_30 hG ?_
        rw [(NC_n Nt).2.2, eT, cT]
        exact ⟨fun _ => h τ M, fun z => absurd z (by omega)⟩
      | succ f ih =>
        intro p τ o7 o8 hp M
        have Nt := oz_NCM M (by decide +kernel) hN
        have b1 := ol_b Nt (n := n) cl.1 p (by omega)
        have b2 := oz_odds_b Nt (p := p) (by omega) (n := n) cl.1
        refine fs_ablest_30 hG ?_
        rw [(NC_n Nt).2.2, eT, cT, fw_s (x := (p : Int)) (by omega) (by omega)]
        refine ⟨fun z => absurd z (by omega), fun _ => ⟨A, c, rfl, Nt, by omega, fs_ablest_54 hG ⟨A, p, n, v_set A c, rfl, Nt, by omega, h1, cl.1, cl.2, fun τ' M' => fs_ablest_57 hG ?_⟩⟩⟩
        rw [fw_d_id (x := oz_odds A p n (v_set A c)) (by omega) (by omega), fw_d_id (x := (ol_f A n (v_set A c) p).2) (by omega) (by omega)]
        refine ⟨fun q => fs_ablest_74 hG ?_, fun q => fs_ablest_74 hG ?_⟩
        · have g := ih (p + 1) τ' (some (1, 0, oz_odds A p n (v_set A c))) none (by omega) (fun a b q => (M' a b q).trans (M a b q))
          rw [ol_s, if_neg (by omega), show ((p + 1 : Nat) : Int) = (p : Int) + 1 from rfl] at g
          exact g
        · have g := ih (p + 1) τ' (some (1, 0, oz_odds A p n (v_set A c))) none (by omega) (fun a b q => (M' a b q).trans (M a b q))
          rw [ol_s, if_pos q, show ((p + 1 : Nat) : Int) = (p : Int) + 1 from rfl] at g
          exact g
    exact loop T 0 σ _ _ (Nat.zero_add T) (fw_okM_refl _ _)
  · unfold v_ablest at h
    rw [if_neg (fun z => fw_bo_eq q z.2)] at h
    exact h σ (fw_okM_refl _ _))
theorem fm_m_ablest (hinj : nn_inj ad) : fw_H l cy ad wr cr D 288 9 sp_m_ablest := fw_mk hinj (⟨"NameNotesModel", "ablest", "(II)I"⟩, prog_14_method_86_code, 9, (Option.some Jvm.ClassFile.FieldType.int), 2, true, 0) rfl rfl nn_KI20_ok nn_KJ20_ok nn_PF20_ok nn_PS20_ok (by decide +kernel) rfl rfl (List.forall_mem_cons.mpr ⟨fw_row nn_PM20_ok (x := 171) (k := 0) (mn := 226) (np := 3) (ob := false) (ci := 0) (⟨"NameNotesModel", "isIn", "(III)Z"⟩, prog_14_method_8_code, 3, (Option.some Jvm.ClassFile.FieldType.boolean), 3, false, 1) rfl (by decide +kernel) rfl rfl (by decide) (fun q => by cases q) (fm_m_isIn hinj), (List.forall_mem_cons.mpr ⟨fw_row nn_PM20_ok (x := 264) (k := 0) (mn := 247) (np := 1) (ob := true) (ci := 11) (⟨"NameNotesModel", "isClue", "(I)Z"⟩, prog_14_method_43_code, 2, (Option.some Jvm.ClassFile.FieldType.boolean), 1, true, 1) rfl (by decide +kernel) rfl rfl (by decide) (fun _ => ⟨_, _, rfl⟩) (fm_m_isClue hinj), (List.forall_mem_cons.mpr ⟨fw_row nn_PM20_ok (x := 303) (k := 0) (mn := 255) (np := 1) (ob := true) (ci := 11) (⟨"NameNotesModel", "left", "(I)I"⟩, prog_14_method_47_code, 2, (Option.some Jvm.ClassFile.FieldType.int), 1, true, 0) rfl (by decide +kernel) rfl rfl (by decide) (fun _ => ⟨_, _, rfl⟩) (fm_m_left hinj), (List.forall_mem_cons.mpr ⟨fw_row nn_PM20_ok (x := 355) (k := 0) (mn := 283) (np := 3) (ob := true) (ci := 11) (⟨"NameNotesModel", "oddsOf", "(III)J"⟩, prog_14_method_79_code, 4, (Option.some Jvm.ClassFile.FieldType.long), 3, true, 2) rfl (by decide +kernel) rfl rfl (by decide) (fun _ => ⟨_, _, rfl⟩) (fm_m_oddsOf hinj), (fun _ h => absurd h List.not_mem_nil)⟩)⟩)⟩)⟩) (fun as σ0 K h => by
  obtain ⟨A, n, c, rfl, ⟨en, ec⟩, hN0, h⟩ := h
  have nn := N_n hN0.1
  have c9 : fw_c 9 = 9 := fw_s (by decide) (by decide)
  have c2 : fw_c 2 = 2 := fw_s (by decide) (by decide)
  obtain ⟨T, eT⟩ := Int.eq_ofNat_of_zero_le nn.2.2.1
  have cT : fw_c (T : Int) = (T : Int) := fw_s (by omega) (by omega)
  refine ⟨rfl, fun G hG => fs_m_ablest_0 hG ?_⟩
  rw [fw_c0]
  have hN : NM (ab_ups σ0 93 0 0) A := oz_NMM (od_93 σ0) (by decide +kernel) hN0
  have h : ∀ σ' : ab_SG, ab_okM od_N (ab_ups σ0 93 0 0) σ' → K (some (0, 0, v_ablest A n c)) σ' := fun σ' M => h σ' (on_trans (od_93 σ0) M)
  generalize ab_ups σ0 93 0 0 = σ at hN h ⊢
  refine ⟨n, 1, 9, rfl, fs_m_ablest_12 hG ?_⟩
  rw [en, fw_c1, c9]
  refine ⟨fun q => ?_, fun q1 => ⟨A, c, rfl, ec, hN, fs_m_ablest_20 hG ⟨fun q2 => ?_, fun q => ?_⟩⟩⟩
  · unfold v_ablest at h
    rw [if_neg (fun z => fw_bo_eq q z.1)] at h
    exact h σ (fw_okM_refl _ _)
  · have h1 := fw_bo_ne q1
    have h2 := fw_bo_ne q2
    unfold v_ablest at h
    rw [if_pos ⟨h1, h2⟩, eT, Int.toNat_natCast] at h
    have cl := oz_clue hN.1 hN.2.1 h2.1 h2.2
    have ob : ∀ p : Nat, p < 5 → 0 ≤ oz_odds A p n (v_set A c) ∧ oz_odds A p n (v_set A c) ≤ 976299632280 := fun p hp => oz_odds_bm hN hp cl.1
    have bl : ∀ p : Nat, p ≤ 5 → (p = 0 → (ol_f A n (v_set A c) p).2 = -1) ∧ (0 < p → 0 ≤ (ol_f A n (v_set A c) p).2 ∧ (ol_f A n (v_set A c) p).2 ≤ 976299632280) := by
      intro p
      induction p with
      | zero => intro _; exact ⟨fun _ => rfl, fun z => absurd z (Nat.lt_irrefl 0)⟩
      | succ p ih =>
        intro hp
        have o := ob p (by omega)
        have i := ih (by omega)
        refine ⟨fun z => absurd z (Nat.succ_ne_zero p), fun _ => ?_⟩
        rw [ol_s]
        split
        · exact o
        · by_cases z : p = 0
          · have := i.1 z
            omega
          · exact i.2 (by omega)
    have loop : ∀ (f p : Nat) (τ : ab_SG) (m : Int) (o7 o8 : Option ab_AV), p + f = T → ab_okM od_N σ τ → (p = 0 → m = -1) → (0 < p → m = 2520 * (ol_f A n (v_set A c) p).2) → G 35 [some (2, 93, 0), some (0, 0, n), some (0, 0, c), some (0, 0, (ol_f A n (v_set A c) p).1), some (1, 0, m), none, some (0, 0, (p : Int)), o7, o8] [] τ := by
      intro f
      induction f with
      | zero =>
        intro p τ m o7 o8 hp M _ _
        have e : p = T := by omega
        subst e
        have Nt := oz_NMM M (by decide +kernel) hN
        refine fs_m_ablest_35 hG ⟨by rw [c2]; decide, ?_⟩
        rw [c2, show ((2 : Int)).toNat = 2 from rfl, (NM_n Nt).2.2, eT, cT]
        exact ⟨fun _ => h τ M, fun z => absurd z (by omega)⟩
      | succ f ih =>
        intro p τ m o7 o8 hp M m0 m1
        have Nt := oz_NMM M (by decide +kernel) hN
        have b1 := bl p (by omega)
        have b2 := ob p (by omega)
        have bm : -1 ≤ m ∧ m ≤ 2520 * 976299632280 := by
          by_cases z : p = 0
          · rw [m0 z]; omega
          · have := b1.2 (by omega)
            rw [m1 (by omega)]; omega
        refine fs_m_ablest_35 hG ⟨by rw [c2]; decide, ?_⟩
        rw [c2, show ((2 : Int)).toNat = 2 from rfl, (NM_n Nt).2.2, eT, cT, fw_s (x := (p : Int)) (by omega) (by omega)]
        refine ⟨fun z => absurd z (by omega), fun _ => ⟨A, c, rfl, Nt, by omega, fs_m_ablest_55 hG ⟨A, p, n, v_set A c, rfl, Nt, by omega, h1, cl.1, cl.2, fun τ' M' => fs_m_ablest_58 hG ?_⟩⟩⟩
        rw [fw_d_id (x := 2520 * oz_odds A p n (v_set A c)) (by omega) (by omega), fw_d_id (x := m) (by omega) (by omega)]
        have M2 : ab_okM od_N σ τ' := on_trans M (od_up M' (by decide))
        refine ⟨fun q => fs_m_ablest_78 hG ?_, fun q => fs_m_ablest_78 hG ?_⟩
        · have lt : (ol_f A n (v_set A c) p).2 < oz_odds A p n (v_set A c) := by
            by_cases z : p = 0
            · have := b1.1 z
              omega
            · have := m1 (by omega)
              omega
          have g := ih (p + 1) τ' (2520 * oz_odds A p n (v_set A c)) (some (1, 0, 2520 * oz_odds A p n (v_set A c))) none (by omega) M2 (fun z => absurd z (Nat.succ_ne_zero p)) (fun _ => by rw [ol_s, if_pos lt])
          rw [ol_s, if_pos lt, show ((p + 1 : Nat) : Int) = (p : Int) + 1 from rfl] at g
          exact g
        · have ge : ¬ (ol_f A n (v_set A c) p).2 < oz_odds A p n (v_set A c) := by
            by_cases z : p = 0
            · have := m0 z
              omega
            · have := m1 (by omega)
              omega
          have g := ih (p + 1) τ' m (some (1, 0, 2520 * oz_odds A p n (v_set A c))) none (by omega) M2 (fun z => absurd z (Nat.succ_ne_zero p)) (fun _ => by
            rw [ol_s, if_neg ge]
            by_cases z : p = 0
            · have := m0 z
              omega
            · exact m1 (by omega))
          rw [ol_s, if_neg ge, show ((p + 1 : Nat) : Int) = (p : Int) + 1 from rfl] at g
          exact g
    exact loop T 0 σ (-1) _ _ (Nat.zero_add T) (fw_okM_refl _ _) (fun _ => rfl) (fun z => absurd z (Nat.lt_irrefl 0))
  · unfold v_ablest at h
    rw [if_neg (fun z => fw_bo_eq q z.2)] at h
    exact h σ (fw_okM_refl _ _))
end
