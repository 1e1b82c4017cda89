/-! the clue with the lowest last bid; the closest one -/
theorem lo_b {M : Nat → Int} (hB : ∀ i : Nat, i < 20 → 0 ≤ M i ∧ M i ≤ 9) : ∀ (f side last : Nat), side < 2 → last < 10 → 0 ≤ lo_f M f side last ∧ lo_f M f side last ≤ 9
  | 0, _, last, _, hl => by show 0 ≤ (last : Int) ∧ (last : Int) ≤ 9; omega
  | f + 1, side, last, hs, hl => by
    have b := hB (10 * side + last) (by omega)
    rw [lo_s]
    split
    · omega
    · exact lo_b hB f (1 - side) _ (by omega) (by omega)
theorem v_low_b {A : ab_SG} {p q c : Int} (hB : v_bd A p q 0 c → dl_B (v_du A p q c)) : -1 ≤ v_low A p q c ∧ v_low A p q c ≤ 9 ∧ (v_bd A p q 0 c → 0 ≤ v_low A p q c) ∧ (¬ v_bd A p q 0 c → v_low A p q c = -1) := by
  unfold v_low
  by_cases h : v_bd A p q 0 c
  · have b := lo_b (M := (v_du A p q c).2) (fun i _ => (hB h i).2.1) 10 0 0 (by decide) (by decide)
    rw [if_pos h]
    exact ⟨by omega, b.2, fun _ => b.1, fun z => absurd h z⟩
  · rw [if_neg h]
    exact ⟨by decide, by decide, fun z => absurd z h, fun _ => rfl⟩
def ll_f (A : ab_SG) (p q : Int) : Nat → Int × Int
  | 0 => (-1, 0)
  | c + 1 => if v_low A p q (c : Int) ≠ -1 ∧ ((ll_f A p q c).1 = -1 ∨ v_low A p q (c : Int) < (ll_f A p q c).2) then ((c : Int), v_low A p q (c : Int)) else ll_f A p q c
theorem ll_s (A : ab_SG) (p q : Int) (c : Nat) : ll_f A p q (c + 1) = if v_low A p q (c : Int) ≠ -1 ∧ ((ll_f A p q c).1 = -1 ∨ v_low A p q (c : Int) < (ll_f A p q c).2) then ((c : Int), v_low A p q (c : Int)) else ll_f A p q c := rfl
theorem ll_b {A : ab_SG} {p q : Int} (hB : ∀ c : Nat, v_bd A p q 0 (c : Int) → dl_B (v_du A p q (c : Int))) : ∀ c : Nat, (-1 ≤ (ll_f A p q c).1 ∧ (ll_f A p q c).1 ≤ (c : Int)) ∧ 0 ≤ (ll_f A p q c).2 ∧ (ll_f A p q c).2 ≤ 9
  | 0 => by show ((-1 : Int) ≤ -1 ∧ (-1 : Int) ≤ ((0 : Nat) : Int)) ∧ (0 : Int) ≤ 0 ∧ (0 : Int) ≤ 9; decide
  | c + 1 => by
    have b := ll_b hB c
    have v := v_low_b (hB c)
    rw [ll_s]
    split
    · rename_i z
      exact ⟨⟨by show -1 ≤ (c : Int); omega, by show (c : Int) ≤ _; omega⟩, by show 0 ≤ v_low A p q (c : Int); have := z.1; omega, v.2.1⟩
    · exact ⟨⟨b.1.1, by omega⟩, b.2⟩
def v_lowest (A : ab_SG) (p q : Int) : Int := (ll_f A p q (A 49 12).toNat).1
def aw_a (v : Int) : Int := if 0 < 2 * v - 976299632280 then 2 * v - 976299632280 else -(2 * v - 976299632280)
def aw (A : ab_SG) (p q c : Int) : Int := aw_a ((v_du A p q c).1 0)
theorem aw_b {v : Int} (h : 0 ≤ v ∧ v ≤ 976299632280) : 0 ≤ aw_a v ∧ aw_a v ≤ 976299632280 := by
  unfold aw_a
  split <;> omega
def cc_f (A : ab_SG) (p q : Int) : Nat → Int × Int
  | 0 => (-1, 0)
  | c + 1 => if v_bd A p q 0 (c : Int) ∧ ((cc_f A p q c).1 = -1 ∨ aw A p q (c : Int) < (cc_f A p q c).2) then ((c : Int), aw A p q (c : Int)) else cc_f A p q c
theorem cc_s (A : ab_SG) (p q : Int) (c : Nat) : cc_f A p q (c + 1) = if v_bd A p q 0 (c : Int) ∧ ((cc_f A p q c).1 = -1 ∨ aw A p q (c : Int) < (cc_f A p q c).2) then ((c : Int), aw A p q (c : Int)) else cc_f A p q c := rfl
theorem cc_b {A : ab_SG} {p q : Int} (hB : ∀ c : Nat, v_bd A p q 0 (c : Int) → dl_B (v_du A p q (c : Int))) : ∀ c : Nat, (-1 ≤ (cc_f A p q c).1 ∧ (cc_f A p q c).1 ≤ (c : Int)) ∧ 0 ≤ (cc_f A p q c).2 ∧ (cc_f A p q c).2 ≤ 976299632280
  | 0 => by show ((-1 : Int) ≤ -1 ∧ (-1 : Int) ≤ ((0 : Nat) : Int)) ∧ (0 : Int) ≤ 0 ∧ (0 : Int) ≤ 976299632280; decide
  | c + 1 => by
    have b := cc_b hB c
    rw [cc_s]
    split
    · rename_i z
      have a := aw_b (hB c z.1 0).1
      exact ⟨⟨by show -1 ≤ (c : Int); omega, by show (c : Int) ≤ _; omega⟩, a⟩
    · exact ⟨⟨b.1.1, by omega⟩, b.2⟩
def v_closest (A : ab_SG) (p q : Int) : Int := (cc_f A p q (A 49 12).toNat).1
def sp_lowest : fw_SP := fun as σ K => ∃ (A : ab_SG) (p q : Int), as = [(2, 0, 0), (0, 0, p), (0, 0, q)] ∧ (fw_c p = p ∧ fw_c q = q) ∧ NC σ A ∧ ∀ σ' : ab_SG, ab_okM du_M σ σ' → K (some (0, 0, v_lowest A p q)) σ'
def sp_closest : fw_SP := fun as σ K => ∃ (A : ab_SG) (p q : Int), as = [(2, 0, 0), (0, 0, p), (0, 0, q)] ∧ (fw_c p = p ∧ fw_c q = q) ∧ NC σ A ∧ ∀ σ' : ab_SG, ab_okM du_M σ σ' → K (some (0, 0, v_closest A p q)) σ'
def sp_m_lowest : fw_SP := fun as σ K => ∃ (A : ab_SG) (p q : Int), as = [(2, 93, 0), (0, 0, p), (0, 0, q)] ∧ (fw_c p = p ∧ fw_c q = q) ∧ NM σ A ∧ (0 < A 49 13 → σ 95 3 = A 49 14) ∧ ∀ σ' : ab_SG, ab_okM dm_N σ σ' → K (some (0, 0, v_lowest A p q)) σ'
def sp_m_closest : fw_SP := fun as σ K => ∃ (A : ab_SG) (p q : Int), as = [(2, 93, 0), (0, 0, p), (0, 0, q)] ∧ (fw_c p = p ∧ fw_c q = q) ∧ NM σ A ∧ (0 < A 49 13 → σ 95 3 = A 49 14) ∧ ∀ σ' : ab_SG, ab_okM dm_N σ σ' → K (some (0, 0, v_closest A p q)) σ'
/-- nobody to play: no clue -/
theorem bd_c {A : ab_SG} {p q : Int} {C : Nat} (hC : A 49 12 = (C : Int)) {c d : Nat} (hc : c < C) (hd : d < C) (h : v_bd A p q 0 (c : Int)) : v_bd A p q 0 (d : Int) := ⟨h.1, h.2.1, h.2.2.1, h.2.2.2.1, by omega, by omega⟩
theorem ll_0 {A : ab_SG} {p q : Int} (hB : ∀ c : Nat, v_bd A p q 0 (c : Int) → dl_B (v_du A p q (c : Int))) (h : ∀ c : Nat, ¬ v_bd A p q 0 (c : Int)) : ∀ c : Nat, (ll_f A p q c).1 = -1
  | 0 => rfl
  | c + 1 => by
    rw [ll_s, if_neg (fun z => z.1 ((v_low_b (hB c)).2.2.2 (h c)))]
    exact ll_0 hB h c
theorem cc_0 {A : ab_SG} {p q : Int} (h : ∀ c : Nat, ¬ v_bd A p q 0 (c : Int)) : ∀ c : Nat, (cc_f A p q c).1 = -1
  | 0 => rfl
  | c + 1 => by
    rw [cc_s, if_neg (fun z => h c z.1)]
    exact cc_0 h c
abbrev fk_lowest : List fw_CR := [(272, 3, true, 10, 6, sp_low)]
abbrev st_lowest : fw_K → fw_KR → fw_K := fw_st vwCl nn_sh nn_kd fw_kv fw_wc (nn_KI1.map (fun x => x.1)) (nn_KJ1.map (fun x => x.1)) (nn_PF1.map (fun x => x.1)) (nn_PS1.map (fun x => x.1)) fk_lowest 7 nn_dt105 7 0
theorem fs_lowest_0 {G : fw_K} {R : fw_KR} (hG : fw_cls st_lowest R G) {p q : Int} {σ : ab_SG} (h : G 8 [some (2, 0, 0), some (0, 0, p), some (0, 0, q), some (0, 0, (-1)), some (0, 0, 0), some (0, 0, 0), none] [] σ) : G 0 [some (2, 0, 0), some (0, 0, p), some (0, 0, q), none, none, none, none] [] σ := fw_on hG [8, 28, 48, 55] 200 h
theorem fs_lowest_8 {G : fw_K} {R : fw_KR} (hG : fw_cls st_lowest R G) {a1 a2 a3 a4 a5 : Int} {o6 : Option ab_AV} {σ : ab_SG} (h : (fw_c (σ 3 12) ≤ fw_c a5 → R (some (0, 0, a3)) σ) ∧ (fw_c a5 < fw_c (σ 3 12) → sp_low [(2, 0, 0), (0, 0, a1), (0, 0, a2), (0, 0, a5)] σ (fun rv σ2 => G 28 [some (2, 0, 0), some (0, 0, a1), some (0, 0, a2), some (0, 0, a3), some (0, 0, a4), some (0, 0, a5), o6] (rv.toList ++ []) σ2))) : G 8 [some (2, 0, 0), some (0, 0, a1), some (0, 0, a2), some (0, 0, a3), some (0, 0, a4), some (0, 0, a5), o6] [] σ := fw_on hG [8, 28, 48, 55] 200 h
theorem fs_lowest_28 {G : fw_K} {R : fw_KR} (hG : fw_cls st_lowest R G) {a1 a2 a3 a4 a5 b0 : Int} {o6 : Option ab_AV} {σ : ab_SG} (h : (fw_c b0 = fw_c (-1) → G 55 [some (2, 0, 0), some (0, 0, a1), some (0, 0, a2), some (0, 0, a3), some (0, 0, a4), some (0, 0, a5), some (0, 0, b0)] [] σ) ∧ (fw_c b0 ≠ fw_c (-1) → (fw_c a3 = fw_c (-1) → G 48 [some (2, 0, 0), some (0, 0, a1), some (0, 0, a2), some (0, 0, a3), some (0, 0, a4), some (0, 0, a5), some (0, 0, b0)] [] σ) ∧ (fw_c a3 ≠ fw_c (-1) → (fw_c a4 ≤ fw_c b0 → G 55 [some (2, 0, 0), some (0, 0, a1), some (0, 0, a2), some (0, 0, a3), some (0, 0, a4), some (0, 0, a5), some (0, 0, b0)] [] σ) ∧ (fw_c b0 < fw_c a4 → G 48 [some (2, 0, 0), some (0, 0, a1), some (0, 0, a2), some (0, 0, a3), some (0, 0, a4), some (0, 0, a5), some (0, 0, b0)] [] σ)))) : G 28 [some (2, 0, 0), some (0, 0, a1), some (0, 0, a2), some (0, 0, a3), some (0, 0, a4), some (0, 0, a5), o6] [(0, 0, b0)] σ := fw_on hG [8, 28, 48, 55] 200 h
theorem fs_lowest_55 {G : fw_K} {R : fw_KR} (hG : fw_cls st_lowest R G) {a1 a2 a3 a4 a5 : Int} {o6 : Option ab_AV} {σ : ab_SG} (h : G 8 [some (2, 0, 0), some (0, 0, a1), some (0, 0, a2), some (0, 0, a3), some (0, 0, a4), some (0, 0, a5 + 1), o6] [] σ) : G 55 [some (2, 0, 0), some (0, 0, a1), some (0, 0, a2), some (0, 0, a3), some (0, 0, a4), some (0, 0, a5), o6] [] σ := fw_on hG [8, 28, 48, 55] 200 h
theorem fs_lowest_48 {G : fw_K} {R : fw_KR} (hG : fw_cls st_lowest R G) {a1 a2 a5 a6 : Int} {o3 o4 : Option ab_AV} {σ : ab_SG} (h : G 55 [some (2, 0, 0), some (0, 0, a1), some (0, 0, a2), some (0, 0, a5), some (0, 0, a6), some (0, 0, a5), some (0, 0, a6)] [] σ) : G 48 [some (2, 0, 0), some (0, 0, a1), some (0, 0, a2), o3, o4, some (0, 0, a5), some (0, 0, a6)] [] σ := fw_on hG [8, 28, 48, 55] 200 h
abbrev fk_m_lowest : List fw_CR := [(381, 3, true, 11, 1, sp_m_isRound), (398, 3, true, 11, 11, sp_m_lowOf)]
abbrev st_m_lowest : fw_K → fw_KR → fw_K := fw_st vwCl nn_sh nn_kd fw_kv fw_wc (nn_KI20.map (fun x => x.1)) (nn_KJ20.map (fun x => x.1)) (nn_PF20.map (fun x => x.1)) (nn_PS20.map (fun x => x.1)) fk_m_lowest 13 nn_dt307 7 0
theorem fs_m_lowest_0 {G : fw_K} {R : fw_KR} (hG : fw_cls st_m_lowest R G) {p q : Int} {σ : ab_SG} (h : G 14 [some (2, 93, 0), some (0, 0, p), some (0, 0, q), some (0, 0, (-1)), some (0, 0, 99), some (0, 0, 0), none] [] (ab_ups σ 93 0 (fw_c 0))) : G 0 [some (2, 93, 0), some (0, 0, p), some (0, 0, q), none, none, none, none] [] σ := fw_on hG [14, 33, 44, 63] 200 h
theorem fs_m_lowest_14 {G : fw_K} {R : fw_KR} (hG : fw_cls st_m_lowest R G) {a1 a2 a3 a4 a5 : Int} {o6 : Option ab_AV} {σ : ab_SG} (h : (0 ≤ fw_c 1 ∧ fw_c 1 < ((474 : Nat) : Int)) ∧ ((fw_c (σ 95 (fw_c 1).toNat) ≤ fw_c a5 → R (some (0, 0, a3)) σ) ∧ (fw_c a5 < fw_c (σ 95 (fw_c 1).toNat) → sp_m_isRound [(2, 93, 0), (0, 0, a1), (0, 0, a2), (0, 0, a5)] σ (fun rv σ2 => G 33 [some (2, 93, 0), some (0, 0, a1), some (0, 0, a2), some (0, 0, a3), some (0, 0, a4), some (0, 0, a5), o6] (rv.toList ++ []) σ2)))) : G 14 [some (2, 93, 0), some (0, 0, a1), some (0, 0, a2), some (0, 0, a3), some (0, 0, a4), some (0, 0, a5), o6] [] σ := fw_on hG [14, 33, 44, 63] 200 h
theorem fs_m_lowest_33 {G : fw_K} {R : fw_KR} (hG : fw_cls st_m_lowest R G) {a1 a2 a3 a4 a5 b0 : Int} {o6 : Option ab_AV} {σ : ab_SG} (h : (fw_c b0 = 0 → R (some (0, 0, a3)) σ) ∧ (fw_c b0 ≠ 0 → sp_m_lowOf [(2, 93, 0), (0, 0, a1), (0, 0, a2), (0, 0, a5)] σ (fun rv σ2 => G 44 [some (2, 93, 0), some (0, 0, a1), some (0, 0, a2), some (0, 0, a3), some (0, 0, a4), some (0, 0, a5), o6] (rv.toList ++ []) σ2))) : G 33 [some (2, 93, 0), some (0, 0, a1), some (0, 0, a2), some (0, 0, a3), some (0, 0, a4), some (0, 0, a5), o6] [(0, 0, b0)] σ := fw_on hG [14, 33, 44, 63] 200 h
theorem fs_m_lowest_44 {G : fw_K} {R : fw_KR} (hG : fw_cls st_m_lowest R G) {a1 a2 a3 a4 a5 b0 : Int} {o6 : Option ab_AV} {σ : ab_SG} (h : (fw_c b0 < fw_c a4 → G 63 [some (2, 93, 0), some (0, 0, a1), some (0, 0, a2), some (0, 0, a5), some (0, 0, b0), some (0, 0, a5), some (0, 0, b0)] [] σ) ∧ (fw_c a4 ≤ fw_c b0 → G 63 [some (2, 93, 0), some (0, 0, a1), some (0, 0, a2), some (0, 0, a3), some (0, 0, a4), some (0, 0, a5), some (0, 0, b0)] [] σ)) : G 44 [some (2, 93, 0), some (0, 0, a1), some (0, 0, a2), some (0, 0, a3), some (0, 0, a4), some (0, 0, a5), o6] [(0, 0, b0)] σ := fw_on hG [14, 33, 44, 63] 200 h
theorem fs_m_lowest_63 {G : fw_K} {R : fw_KR} (hG : fw_cls st_m_lowest R G) {a1 a2 a3 a4 a5 : Int} {o6 : Option ab_AV} {σ : ab_SG} (h : G 14 [some (2, 93, 0), some (0, 0, a1), some (0, 0, a2), some (0, 0, a3), some (0, 0, a4), some (0, 0, a5 + 1), o6] [] σ) : G 63 [some (2, 93, 0), some (0, 0, a1), some (0, 0, a2), some (0, 0, a3), some (0, 0, a4), some (0, 0, a5), o6] [] σ := fw_on hG [14, 33, 44, 63] 200 h
abbrev fk_closest : List fw_CR := [(239, 4, true, 10, 2, sp_canBid), (242, 3, true, 10, 5, sp_weigh), (249, 2, true, 0, 1, sp_dvalue)]
abbrev st_closest : fw_K → fw_KR → fw_K := fw_st vwCl nn_sh nn_kd fw_kv fw_wc (nn_KI1.map (fun x => x.1)) (nn_KJ1.map (fun x => x.1)) (nn_PF1.map (fun x => x.1)) (nn_PS1.map (fun x => x.1)) fk_closest 7 nn_dt106 9 0
theorem fs_closest_0 {G : fw_K} {R : fw_KR} (hG : fw_cls st_closest R G) {p q : Int} {σ : ab_SG} (h : G 8 [some (2, 0, 0), some (0, 0, p), some (0, 0, q), some (0, 0, (-1)), some (1, 0, ((0 : Nat) : Int)), none, some (0, 0, 0), none, none] [] σ) : G 0 [some (2, 0, 0), some (0, 0, p), some (0, 0, q), none, none, none, none, none, none] [] σ := fw_on hG [8, 29, 40, 52, 75, 82] 200 h
theorem fs_closest_8 {G : fw_K} {R : fw_KR} (hG : fw_cls st_closest R G) {a1 a2 a3 a4 a6 : Int} {o7 o8 : Option ab_AV} {σ : ab_SG} (h : (fw_c (σ 3 12) ≤ fw_c a6 → R (some (0, 0, a3)) σ) ∧ (fw_c a6 < fw_c (σ 3 12) → sp_canBid [(2, 0, 0), (0, 0, a1), (0, 0, a2), (0, 0, 0), (0, 0, a6)] σ (fun rv σ2 => G 29 [some (2, 0, 0), some (0, 0, a1), some (0, 0, a2), some (0, 0, a3), some (1, 0, a4), none, some (0, 0, a6), o7, o8] (rv.toList ++ []) σ2))) : G 8 [some (2, 0, 0), some (0, 0, a1), some (0, 0, a2), some (0, 0, a3), some (1, 0, a4), none, some (0, 0, a6), o7, o8] [] σ := fw_on hG [8, 29, 40, 52, 75, 82] 200 h
theorem fs_closest_29 {G : fw_K} {R : fw_KR} (hG : fw_cls st_closest R G) {a1 a2 a3 a4 a6 b0 : Int} {o7 o8 : Option ab_AV} {σ : ab_SG} (h : (fw_c b0 = 0 → G 82 [some (2, 0, 0), some (0, 0, a1), some (0, 0, a2), some (0, 0, a3), some (1, 0, a4), none, some (0, 0, a6), o7, o8] [] σ) ∧ (fw_c b0 ≠ 0 → sp_weigh [(2, 0, 0), (0, 0, a1), (0, 0, a2), (0, 0, a6)] σ (fun rv σ2 => G 40 [some (2, 0, 0), some (0, 0, a1), some (0, 0, a2), some (0, 0, a3), some (1, 0, a4), none, some (0, 0, a6), o7, o8] (rv.toList ++ []) σ2))) : G 29 [some (2, 0, 0), some (0, 0, a1), some (0, 0, a2), some (0, 0, a3), some (1, 0, a4), none, some (0, 0, a6), o7, o8] [(0, 0, b0)] σ := fw_on hG [8, 29, 40, 52, 75, 82] 200 h
theorem fs_closest_82 {G : fw_K} {R : fw_KR} (hG : fw_cls st_closest R G) {a1 a2 a3 a4 a6 : Int} {o7 o8 : Option ab_AV} {σ : ab_SG} (h : G 8 [some (2, 0, 0), some (0, 0, a1), some (0, 0, a2), some (0, 0, a3), some (1, 0, a4), none, some (0, 0, a6 + 1), o7, o8] [] σ) : G 82 [some (2, 0, 0), some (0, 0, a1), some (0, 0, a2), some (0, 0, a3), some (1, 0, a4), none, some (0, 0, a6), o7, o8] [] σ := fw_on hG [8, 29, 40, 52, 75, 82] 200 h
theorem fs_closest_40 {G : fw_K} {R : fw_KR} (hG : fw_cls st_closest R G) {a1 a2 a3 a4 a6 : Int} {o7 o8 : Option ab_AV} {σ : ab_SG} (h : sp_dvalue [(2, 77, 0), (0, 0, 0), (0, 0, 0)] σ (fun rv σ2 => G 52 [some (2, 0, 0), some (0, 0, a1), some (0, 0, a2), some (0, 0, a3), some (1, 0, a4), none, some (0, 0, a6), o7, o8] (rv.toList ++ [(1, 0, 2)]) σ2)) : G 40 [some (2, 0, 0), some (0, 0, a1), some (0, 0, a2), some (0, 0, a3), some (1, 0, a4), none, some (0, 0, a6), o7, o8] [] σ := fw_on hG [8, 29, 40, 52, 75, 82] 200 h
theorem fs_closest_52 {G : fw_K} {R : fw_KR} (hG : fw_cls st_closest R G) {a1 a2 a3 a4 a6 b0 b1 : Int} {o7 o8 : Option ab_AV} {σ : ab_SG} (h : -9223372036854775807 ≤ fw_d ((b1 * b0) - 976299632280) ∧ ((fw_c a3 = fw_c (-1) → G 75 [some (2, 0, 0), some (0, 0, a1), some (0, 0, a2), some (0, 0, a3), some (1, 0, a4), none, some (0, 0, a6), some (1, 0, if 0 < fw_d ((b1 * b0) - 976299632280) then fw_d ((b1 * b0) - 976299632280) else -fw_d ((b1 * b0) - 976299632280)), none] [] σ) ∧ (fw_c a3 ≠ fw_c (-1) → (fw_d a4 ≤ fw_d (if 0 < fw_d ((b1 * b0) - 976299632280) then fw_d ((b1 * b0) - 976299632280) else -fw_d ((b1 * b0) - 976299632280)) → G 82 [some (2, 0, 0), some (0, 0, a1), some (0, 0, a2), some (0, 0, a3), some (1, 0, a4), none, some (0, 0, a6), some (1, 0, if 0 < fw_d ((b1 * b0) - 976299632280) then fw_d ((b1 * b0) - 976299632280) else -fw_d ((b1 * b0) - 976299632280)), none] [] σ) ∧ (fw_d (if 0 < fw_d ((b1 * b0) - 976299632280) then fw_d ((b1 * b0) - 976299632280) else -fw_d ((b1 * b0) - 976299632280)) < fw_d a4 → G 75 [some (2, 0, 0), some (0, 0, a1), some (0, 0, a2), some (0, 0, a3), some (1, 0, a4), none, some (0, 0, a6), some (1, 0, if 0 < fw_d ((b1 * b0) - 976299632280) then fw_d ((b1 * b0) - 976299632280) else -fw_d ((b1 * b0) - 976299632280)), none] [] σ)))) : G 52 [some (2, 0, 0), some (0, 0, a1), some (0, 0, a2), some (0, 0, a3), some (1, 0, a4), none, some (0, 0, a6), o7, o8] [(1, 0, b0), (1, 0, b1)] σ := fw_on hG [8, 29, 40, 52, 75, 82] 200 h
theorem fs_closest_75 {G : fw_K} {R : fw_KR} (hG : fw_cls st_closest R G) {a1 a2 a6 a7 : Int} {o3 o4 o8 : Option ab_AV} {σ : ab_SG} (h : G 82 [some (2, 0, 0), some (0, 0, a1), some (0, 0, a2), some (0, 0, a6), some (1, 0, a7), none, some (0, 0, a6), some (1, 0, a7), o8] [] σ) : G 75 [some (2, 0, 0), some (0, 0, a1), some (0, 0, a2), o3, o4, none, some (0, 0, a6), some (1, 0, a7), o8] [] σ := fw_on hG [8, 29, 40, 52, 75, 82] 200 h
abbrev fk_m_closest : List fw_CR := [(381, 3, true, 11, 1, sp_m_isRound), (387, 3, true, 11, 10, sp_m_layBest)]
abbrev st_m_closest : fw_K → fw_KR → fw_K := fw_st vwCl nn_sh nn_kd fw_kv fw_wc (nn_KI20.map (fun x => x.1)) (nn_KJ20.map (fun x => x.1)) (nn_PF20.map (fun x => x.1)) (nn_PS20.map (fun x => x.1)) fk_m_closest 12 nn_dt308 9 0
theorem fs_m_closest_0 {G : fw_K} {R : fw_KR} (hG : fw_cls st_m_closest R G) {p q : Int} {σ : ab_SG} (h : G 13 [some (2, 93, 0), some (0, 0, p), some (0, 0, q), some (0, 0, (-1)), some (1, 0, ((0 : Nat) : Int)), none, some (0, 0, 0), none, none] [] (ab_ups σ 93 0 (fw_c 0))) : G 0 [some (2, 93, 0), some (0, 0, p), some (0, 0, q), none, none, none, none, none, none] [] σ := fw_on hG [13, 32, 43, 71, 87, 94] 200 h
theorem fs_m_closest_13 {G : fw_K} {R : fw_KR} (hG : fw_cls st_m_closest R G) {a1 a2 a3 a4 a6 : Int} {o7 o8 : Option ab_AV} {σ : ab_SG} (h : (0 ≤ fw_c 1 ∧ fw_c 1 < ((474 : Nat) : Int)) ∧ ((fw_c (σ 95 (fw_c 1).toNat) ≤ fw_c a6 → R (some (0, 0, a3)) σ) ∧ (fw_c a6 < fw_c (σ 95 (fw_c 1).toNat) → sp_m_isRound [(2, 93, 0), (0, 0, a1), (0, 0, a2), (0, 0, a6)] σ (fun rv σ2 => G 32 [some (2, 93, 0), some (0, 0, a1), some (0, 0, a2), some (0, 0, a3), some (1, 0, a4), none, some (0, 0, a6), o7, o8] (rv.toList ++ []) σ2)))) : G 13 [some (2, 93, 0), some (0, 0, a1), some (0, 0, a2), some (0, 0, a3), some (1, 0, a4), none, some (0, 0, a6), o7, o8] [] σ := fw_on hG [13, 32, 43, 71, 87, 94] 200 h
theorem fs_m_closest_32 {G : fw_K} {R : fw_KR} (hG : fw_cls st_m_closest R G) {a1 a2 a3 a4 a6 b0 : Int} {o7 o8 : Option ab_AV} {σ : ab_SG} (h : (fw_c b0 = 0 → R (some (0, 0, a3)) σ) ∧ (fw_c b0 ≠ 0 → sp_m_layBest [(2, 93, 0), (0, 0, a1), (0, 0, a2), (0, 0, a6)] σ (fun rv σ2 => G 43 [some (2, 93, 0), some (0, 0, a1), some (0, 0, a2), some (0, 0, a3), some (1, 0, a4), none, some (0, 0, a6), o7, o8] (rv.toList ++ []) σ2))) : G 32 [some (2, 93, 0), some (0, 0, a1), some (0, 0, a2), some (0, 0, a3), some (1, 0, a4), none, some (0, 0, a6), o7, o8] [(0, 0, b0)] σ := fw_on hG [13, 32, 43, 71, 87, 94] 200 h
theorem fs_m_closest_43 {G : fw_K} {R : fw_KR} (hG : fw_cls st_m_closest R G) {a1 a2 a3 a4 a6 : Int} {o7 o8 : Option ab_AV} {σ : ab_SG} (h : (0 ≤ fw_c 0 ∧ fw_c 0 < ((20 : Nat) : Int)) ∧ ((fw_d ((0 : Nat) : Int) ≤ fw_d ((2 * (σ 109 (fw_c 0).toNat)) - 2460275073345600) → G 71 [some (2, 93, 0), some (0, 0, a1), some (0, 0, a2), some (0, 0, a3), some (1, 0, a4), none, some (0, 0, a6), some (1, 0, (2 * (σ 109 (fw_c 0).toNat)) - 2460275073345600), none] [] σ) ∧ (fw_d ((2 * (σ 109 (fw_c 0).toNat)) - 2460275073345600) < fw_d ((0 : Nat) : Int) → G 71 [some (2, 93, 0), some (0, 0, a1), some (0, 0, a2), some (0, 0, a3), some (1, 0, a4), none, some (0, 0, a6), some (1, 0, -((2 * (σ 109 (fw_c 0).toNat)) - 2460275073345600)), none] [] σ))) : G 43 [some (2, 93, 0), some (0, 0, a1), some (0, 0, a2), some (0, 0, a3), some (1, 0, a4), none, some (0, 0, a6), o7, o8] [] σ := fw_on hG [13, 32, 43, 71, 87, 94] 200 h
theorem fs_m_closest_71 {G : fw_K} {R : fw_KR} (hG : fw_cls st_m_closest R G) {a1 a2 a3 a4 a6 a7 : Int} {o8 : Option ab_AV} {σ : ab_SG} (h : (fw_c a3 = fw_c (-1) → G 87 [some (2, 93, 0), some (0, 0, a1), some (0, 0, a2), some (0, 0, a3), some (1, 0, a4), none, some (0, 0, a6), some (1, 0, a7), o8] [] σ) ∧ (fw_c a3 ≠ fw_c (-1) → (fw_d a7 < fw_d a4 → G 87 [some (2, 93, 0), some (0, 0, a1), some (0, 0, a2), some (0, 0, a3), some (1, 0, a4), none, some (0, 0, a6), some (1, 0, a7), o8] [] σ) ∧ (fw_d a4 ≤ fw_d a7 → G 94 [some (2, 93, 0), some (0, 0, a1), some (0, 0, a2), some (0, 0, a3), some (1, 0, a4), none, some (0, 0, a6), some (1, 0, a7), o8] [] σ))) : G 71 [some (2, 93, 0), some (0, 0, a1), some (0, 0, a2), some (0, 0, a3), some (1, 0, a4), none, some (0, 0, a6), some (1, 0, a7), o8] [] σ := fw_on hG [13, 32, 43, 71, 87, 94] 200 h
theorem fs_m_closest_87 {G : fw_K} {R : fw_KR} (hG : fw_cls st_m_closest R G) {a1 a2 a6 a7 : Int} {o3 o4 o8 : Option ab_AV} {σ : ab_SG} (h : G 94 [some (2, 93, 0), some (0, 0, a1), some (0, 0, a2), some (0, 0, a6), some (1, 0, a7), none, some (0, 0, a6), some (1, 0, a7), o8] [] σ) : G 87 [some (2, 93, 0), some (0, 0, a1), some (0, 0, a2), o3, o4, none, some (0, 0, a6), some (1, 0, a7), o8] [] σ := fw_on hG [13, 32, 43, 71, 87, 94] 200 h
theorem fs_m_closest_94 {G : fw_K} {R : fw_KR} (hG : fw_cls st_m_closest R G) {a1 a2 a3 a4 a6 : Int} {o7 o8 : Option ab_AV} {σ : ab_SG} (h : G 13 [some (2, 93, 0), some (0, 0, a1), some (0, 0, a2), some (0, 0, a3), some (1, 0, a4), none, some (0, 0, a6 + 1), o7, o8] [] σ) : G 94 [some (2, 93, 0), some (0, 0, a1), some (0, 0, a2), some (0, 0, a3), some (1, 0, a4), none, some (0, 0, a6), o7, o8] [] σ := fw_on hG [13, 32, 43, 71, 87, 94] 200 h

section
variable {l : Launch} {cy : Nat → ClassId} {ad wr cr : Nat → Nat} {D : va_G}
theorem fm_lowest (hinj : nn_inj ad) : fw_H l cy ad wr cr D 105 7 sp_lowest := fw_mk hinj (⟨"NameNotes", "lowest", "(II)I"⟩, prog_1_method_26_code, 7, (Option.some Jvm.ClassFile.FieldType.int), 2, true, 0) rfl rfl nn_KI1_ok nn_KJ1_ok nn_PF1_ok nn_PS1_ok (by decide +kernel) rfl rfl (List.forall_mem_cons.mpr ⟨fw_row nn_PM1_ok (x := 272) (k := 0) (mn := 103) (np := 3) (ob := true) (ci := 10) (⟨"NameNotes", "low", "(III)I"⟩, prog_1_method_25_code, 4, (Option.some Jvm.ClassFile.FieldType.int), 3, true, 0) rfl (by decide +kernel) rfl rfl (by decide) (fun _ => ⟨_, _, rfl⟩) (fm_low hinj), (fun _ h => absurd h List.not_mem_nil)⟩) (fun as σ K h => by
  obtain ⟨A, p, q, rfl, ⟨ep, eq⟩, hN, h⟩ := h
  have nn := N_n hN.1
  obtain ⟨C, eC⟩ := Int.eq_ofNat_of_zero_le nn.2.1.1
  have cC : fw_c (C : Int) = (C : Int) := fw_s (by omega) (by omega)
  have cm : fw_c (-1) = -1 := fw_s (by decide) (by decide)
  have hB : ∀ c : Nat, v_bd A p q 0 (c : Int) → dl_B (v_du A p q (c : Int)) := fun c z => du_B20 hN z
  unfold v_lowest at h
  rw [eC, Int.toNat_natCast] at h
  refine ⟨rfl, fun G hG => fs_lowest_0 hG ?_⟩
  have loop : ∀ (f c : Nat) (τ : ab_SG) (o6 : Option ab_AV), c + f = C → ab_okM du_M σ τ → G 8 [some (2, 0, 0), some (0, 0, p), some (0, 0, q), some (0, 0, (ll_f A p q c).1), some (0, 0, (ll_f A p q c).2), some (0, 0, (c : Int)), o6] [] τ := by
    intro f
    induction f with
    | zero =>
      intro c τ o6 hc M
      have e : c = C := by omega
      subst e
      have Nt := oz_NCM M (by decide +kernel) hN
      refine fs_lowest_8 hG ?_
      rw [(NC_n Nt).2.1, eC, cC]
      exact ⟨fun _ => h τ M, fun z => absurd z (by omega)⟩
    | succ f ih =>
      intro c τ o6 hc M
      have Nt := oz_NCM M (by decide +kernel) hN
      have cc : fw_c (c : Int) = (c : Int) := fw_s (by omega) (by omega)
      have lb := ll_b hB c
      have vb := v_low_b (hB c)
      refine fs_lowest_8 hG ?_
      rw [(NC_n Nt).2.1, eC, cC, cc]
      refine ⟨fun z => absurd z (by omega), fun _ => ⟨A, p, q, (c : Int), rfl, ⟨ep, eq, cc⟩, Nt, fun τ' M' => fs_lowest_28 hG ?_⟩⟩
      rw [cm, fw_s (x := v_low A p q (c : Int)) (by omega) (by omega), fw_s (x := (ll_f A p q c).1) (by omega) (by omega), fw_s (x := (ll_f A p q c).2) (by omega) (by omega)]
      have g := fun o6 => ih (c + 1) τ' o6 (by omega) (on_trans M M')
      rw [ll_s, show ((c + 1 : Nat) : Int) = (c : Int) + 1 from rfl] at g
      have same : ¬ (v_low A p q (c : Int) ≠ -1 ∧ ((ll_f A p q c).1 = -1 ∨ v_low A p q (c : Int) < (ll_f A p q c).2)) → G 55 [some (2, 0, 0), some (0, 0, p), some (0, 0, q), some (0, 0, (ll_f A p q c).1), some (0, 0, (ll_f A p q c).2), some (0, 0, (c : Int)), some (0, 0, v_low A p q (c : Int))] [] τ' := fun z => by
        rw [if_neg z] at g
        exact fs_lowest_55 hG (g _)
      have take : (v_low A p q (c : Int) ≠ -1 ∧ ((ll_f A p q c).1 = -1 ∨ v_low A p q (c : Int) < (ll_f A p q c).2)) → G 48 [some (2, 0, 0), some (0, 0, p), some (0, 0, q), some (0, 0, (ll_f A p q c).1), some (0, 0, (ll_f A p q c).2), some (0, 0, (c : Int)), some (0, 0, v_low A p q (c : Int))] [] τ' := fun z => by
        rw [if_pos z] at g
        exact fs_lowest_48 hG (fs_lowest_55 hG (g _))
      exact ⟨fun z => same (fun w => w.1 z), fun z => ⟨fun z2 => take ⟨z, Or.inl z2⟩, fun z2 => ⟨fun z3 => same (fun w => w.2.elim (fun y => z2 y) (fun y => by omega)), fun z3 => take ⟨z, Or.inr z3⟩⟩⟩⟩
  exact loop C 0 σ none (Nat.zero_add C) (fw_okM_refl _ _))
theorem fm_m_lowest (hinj : nn_inj ad) : fw_H l cy ad wr cr D 307 13 sp_m_lowest := fw_mk hinj (⟨"NameNotesModel", "lowest", "(II)I"⟩, prog_14_method_105_code, 7, (Option.some Jvm.ClassFile.FieldType.int), 2, true, 0) rfl rfl nn_KI20_ok nn_KJ20_ok nn_PF20_ok nn_PS20_ok (by decide +kernel) rfl rfl (List.forall_mem_cons.mpr ⟨fw_row nn_PM20_ok (x := 381) (k := 0) (mn := 295) (np := 3) (ob := true) (ci := 11) (⟨"NameNotesModel", "isRound", "(III)Z"⟩, prog_14_method_91_code, 4, (Option.some Jvm.ClassFile.FieldType.boolean), 3, true, 1) rfl (by decide +kernel) rfl rfl (by decide) (fun _ => ⟨_, _, rfl⟩) (fm_m_isRound hinj), (List.forall_mem_cons.mpr ⟨fw_row nn_PM20_ok (x := 398) (k := 0) (mn := 306) (np := 3) (ob := true) (ci := 11) (⟨"NameNotesModel", "lowOf", "(III)I"⟩, prog_14_method_103_code, 6, (Option.some Jvm.ClassFile.FieldType.int), 3, true, 0) rfl (by decide +kernel) rfl rfl (by decide) (fun _ => ⟨_, _, rfl⟩) (fm_m_lowOf hinj), (fun _ h => absurd h List.not_mem_nil)⟩)⟩) (fun as σ0 K h => by
  obtain ⟨A, p, q, rfl, ⟨ep, eq⟩, hN0, h30, h⟩ := h
  have nn := N_n hN0.1
  obtain ⟨C, eC⟩ := Int.eq_ofNat_of_zero_le nn.2.1.1
  have cC : fw_c (C : Int) = (C : Int) := fw_s (by omega) (by omega)
  refine ⟨rfl, fun G hG => fs_m_lowest_0 hG ?_⟩
  rw [fw_c0]
  have hN : NM (ab_ups σ0 93 0 0) A := oz_NMM (dm_93 σ0) (by decide +kernel) hN0
  have h3 : 0 < A 49 13 → (ab_ups σ0 93 0 0) 95 3 = A 49 14 := fun z => by rw [ab_ups_ne (fun z => absurd z.1 (by decide))]; exact h30 z
  have h : ∀ σ' : ab_SG, ab_okM dm_N (ab_ups σ0 93 0 0) σ' → K (some (0, 0, v_lowest A p q)) σ' := fun σ' M => h σ' (on_trans (dm_93 σ0) M)
  generalize ab_ups σ0 93 0 0 = σ at hN h3 h ⊢
  have hB : ∀ c : Nat, v_bd A p q 0 (c : Int) → dl_B (v_du A p q (c : Int)) := fun c z => dm_B20 hN z
  unfold v_lowest at h
  rw [eC, Int.toNat_natCast] at h
  have e95 : ∀ τ : ab_SG, ab_okM dm_N σ τ → τ 95 3 = σ 95 3 := fun τ M => M 95 3 (fun q hq hh => by
    have : ∀ q ∈ dm_N, q.1 ≠ 95 := by decide
    exact this q hq hh.1)
  have loop : ∀ (f c : Nat) (τ : ab_SG) (m : Int) (o6 : Option ab_AV), c + f = C → ab_okM dm_N σ τ → (0 < c → v_bd A p q 0 (0 : Int)) → (c = 0 → m = 99) → (0 < c → (ll_f A p q c).1 ≠ -1 ∧ m = (ll_f A p q c).2) → G 14 [some (2, 93, 0), some (0, 0, p), some (0, 0, q), some (0, 0, (ll_f A p q c).1), some (0, 0, m), some (0, 0, (c : Int)), o6] [] τ := by
    intro f
    induction f with
    | zero =>
      intro c τ m o6 hc M _ _ _
      have e : c = C := by omega
      subst e
      have Nt := oz_NMM M (by decide +kernel) hN
      refine fs_m_lowest_14 hG ⟨by rw [fw_c1]; decide, ?_⟩
      rw [fw_c1, show (1 : Int).toNat = 1 from rfl, (NM_n Nt).2.1, eC, cC]
      exact ⟨fun _ => h τ M, fun z => absurd z (by omega)⟩
    | succ f ih =>
      intro c τ m o6 hc M h0 m0 m1
      have Nt := oz_NMM M (by decide +kernel) hN
      have cc : fw_c (c : Int) = (c : Int) := fw_s (by omega) (by omega)
      have lb := ll_b hB c
      have vb := v_low_b (hB c)
      refine fs_m_lowest_14 hG ⟨by rw [fw_c1]; decide, ?_⟩
      rw [fw_c1, show (1 : Int).toNat = 1 from rfl, (NM_n Nt).2.1, eC, cC, cc]
      refine ⟨fun z => absurd z (by omega), fun _ => ⟨A, p, q, (c : Int), rfl, ⟨ep, eq, cc⟩, Nt, fs_m_lowest_33 hG ⟨fun z => ?_, fun z => ?_⟩⟩⟩
      · have no := fw_bo_eq z
        have nob : ∀ d : Nat, ¬ v_bd A p q 0 (d : Int) := fun d w => no ⟨w.1, w.2.1, w.2.2.1, w.2.2.2.1, by omega, by omega⟩
        have k := h τ M
        rw [ll_0 hB nob] at k
        rw [ll_0 hB nob]
        exact k
      · have hb := fw_bo_ne z
        refine ⟨A, p, q, (c : Int), rfl, Nt, (e95 τ M).trans (h3 (by have := hb.1; omega)), hb, fun τ' M' => fs_m_lowest_44 hG ?_⟩
        have ev : lo_f (v_du A p q (c : Int)).2 10 0 0 = v_low A p q (c : Int) := by unfold v_low; rw [if_pos hb]
        have v0 := vb.2.2.1 hb
        have hm : -1 ≤ m ∧ m ≤ 99 := by
          by_cases y : c = 0
          · rw [m0 y]; decide
          · rw [(m1 (by omega)).2]; omega
        rw [ev, fw_s (x := v_low A p q (c : Int)) (by omega) (by omega), fw_s (x := m) (by omega) (by omega)]
        have bd0 : v_bd A p q 0 (0 : Int) := ⟨hb.1, hb.2.1, hb.2.2.1, hb.2.2.2.1, Int.le_refl 0, by omega⟩
        have ne : (c : Int) ≠ -1 := by omega
        refine ⟨fun z => fs_m_lowest_63 hG ?_, fun z => fs_m_lowest_63 hG ?_⟩
        · have t : v_low A p q (c : Int) ≠ -1 ∧ ((ll_f A p q c).1 = -1 ∨ v_low A p q (c : Int) < (ll_f A p q c).2) := by
            refine ⟨by omega, ?_⟩
            by_cases y : c = 0
            · left; subst y; rfl
            · right; have := (m1 (by omega)).2; omega
          have g := ih (c + 1) τ' (v_low A p q (c : Int)) (some (0, 0, v_low A p q (c : Int))) (by omega) (on_trans M (od_up M' (by decide))) (fun _ => bd0) (fun z => absurd z (Nat.succ_ne_zero c)) (fun _ => by rw [ll_s, if_pos t]; exact ⟨ne, rfl⟩)
          rw [ll_s, if_pos t, show ((c + 1 : Nat) : Int) = (c : Int) + 1 from rfl] at g
          exact g
        · have y : c ≠ 0 := fun y => by have := m0 y; omega
          have m2 := m1 (by omega)
          have t : ¬ (v_low A p q (c : Int) ≠ -1 ∧ ((ll_f A p q c).1 = -1 ∨ v_low A p q (c : Int) < (ll_f A p q c).2)) := fun w => w.2.elim (fun y => m2.1 y) (fun y => by have := m2.2; omega)
          have g := ih (c + 1) τ' m (some (0, 0, v_low A p q (c : Int))) (by omega) (on_trans M (od_up M' (by decide))) (fun _ => bd0) (fun z => absurd z (Nat.succ_ne_zero c)) (fun _ => by rw [ll_s, if_neg t]; exact m2)
          rw [ll_s, if_neg t, show ((c + 1 : Nat) : Int) = (c : Int) + 1 from rfl] at g
          exact g
  exact loop C 0 σ 99 none (Nat.zero_add C) (fw_okM_refl _ _) (fun z => absurd z (Nat.lt_irrefl 0)) (fun _ => rfl) (fun z => absurd z (Nat.lt_irrefl 0)))
theorem fm_closest (hinj : nn_inj ad) : fw_H l cy ad wr cr D 106 7 sp_closest := fw_mk hinj (⟨"NameNotes", "closest", "(II)I"⟩, prog_1_method_27_code, 9, (Option.some Jvm.ClassFile.FieldType.int), 2, true, 0) rfl rfl nn_KI1_ok nn_KJ1_ok nn_PF1_ok nn_PS1_ok (by decide +kernel) rfl rfl (List.forall_mem_cons.mpr ⟨fw_row nn_PM1_ok (x := 239) (k := 0) (mn := 91) (np := 4) (ob := true) (ci := 10) (⟨"NameNotes", "canBid", "(IIII)Z"⟩, prog_1_method_62_code, 5, (Option.some Jvm.ClassFile.FieldType.boolean), 4, true, 1) rfl (by decide +kernel) rfl rfl (by decide) (fun _ => ⟨_, _, rfl⟩) (fm_canBid hinj), (List.forall_mem_cons.mpr ⟨fw_row nn_PM1_ok (x := 242) (k := 0) (mn := 92) (np := 3) (ob := true) (ci := 10) (⟨"NameNotes", "weigh", "(III)V"⟩, prog_1_method_66_code, 4, (Option.none : Option Jvm.ClassFile.FieldType), 3, true, 4) rfl (by decide +kernel) rfl rfl (by decide) (fun _ => ⟨_, _, rfl⟩) (fm_weigh hinj), (List.forall_mem_cons.mpr ⟨fw_row nn_PM1_ok (x := 249) (k := 0) (mn := 102) (np := 2) (ob := true) (ci := 0) (⟨"NameNotes$Duel", "value", "(II)J"⟩, prog_2_method_7_code, 3, (Option.some Jvm.ClassFile.FieldType.long), 2, true, 2) rfl (by decide +kernel) rfl rfl (by decide) (fun _ => ⟨_, _, rfl⟩) (fm_dvalue hinj), (fun _ h => absurd h List.not_mem_nil)⟩)⟩)⟩) (fun as σ K h => by
  obtain ⟨A, p, q, rfl, ⟨ep, eq⟩, hN, h⟩ := h
  have nn := N_n hN.1
  obtain ⟨C, eC⟩ := Int.eq_ofNat_of_zero_le nn.2.1.1
  have cC : fw_c (C : Int) = (C : Int) := fw_s (by omega) (by omega)
  have cm : fw_c (-1) = -1 := fw_s (by decide) (by decide)
  have hB : ∀ c : Nat, v_bd A p q 0 (c : Int) → dl_B (v_du A p q (c : Int)) := fun c z => du_B20 hN z
  unfold v_closest at h
  rw [eC, Int.toNat_natCast] at h
  refine ⟨rfl, fun G hG => fs_closest_0 hG ?_⟩
  have loop : ∀ (f c : Nat) (τ : ab_SG) (o7 o8 : Option ab_AV), c + f = C → ab_okM du_M σ τ → G 8 [some (2, 0, 0), some (0, 0, p), some (0, 0, q), some (0, 0, (cc_f A p q c).1), some (1, 0, (cc_f A p q c).2), none, some (0, 0, (c : Int)), o7, o8] [] τ := by
    intro f
    induction f with
    | zero =>
      intro c τ o7 o8 hc M
      have e : c = C := by omega
      subst e
      have Nt := oz_NCM M (by decide +kernel) hN
      refine fs_closest_8 hG ?_
      rw [(NC_n Nt).2.1, eC, cC]
      exact ⟨fun _ => h τ M, fun z => absurd z (by omega)⟩
    | succ f ih =>
      intro c τ o7 o8 hc M
      have Nt := oz_NCM M (by decide +kernel) hN
      have cc : fw_c (c : Int) = (c : Int) := fw_s (by omega) (by omega)
      have lb := cc_b hB c
      refine fs_closest_8 hG ?_
      rw [(NC_n Nt).2.1, eC, cC, cc]
      refine ⟨fun z => absurd z (by omega), fun _ => ⟨A, p, q, 0, (c : Int), rfl, ⟨ep, eq, fw_c0, cc⟩, Nt, fs_closest_29 hG ⟨fun z => fs_closest_82 hG ?_, fun z => ?_⟩⟩⟩
      · have g := ih (c + 1) τ o7 o8 (by omega) M
        rw [cc_s, if_neg (fun w => fw_bo_eq z w.1), show ((c + 1 : Nat) : Int) = (c : Int) + 1 from rfl] at g
        exact g
      · have hb := fw_bo_ne z
        refine ⟨A, p, q, (c : Int), rfl, Nt, hb, fun τ' M' I' => fs_closest_40 hG ⟨0, 0, _, _, rfl, ⟨rfl, rfl⟩, ⟨by decide, by decide⟩, fs_closest_52 hG ?_⟩⟩
        have v0 := (hB c hb 0).1
        have ab := aw_b v0
        rw [show 10 * 0 + 0 = 0 from rfl, (I' 0 (by decide)).1]
        have ea : (if 0 < 2 * (v_du A p q (c : Int)).1 0 - 976299632280 then 2 * (v_du A p q (c : Int)).1 0 - 976299632280 else -(2 * (v_du A p q (c : Int)).1 0 - 976299632280)) = aw A p q (c : Int) := rfl
        have ab2 : 0 ≤ aw A p q (c : Int) ∧ aw A p q (c : Int) ≤ 976299632280 := ab
        rw [fw_d_id (x := 2 * (v_du A p q (c : Int)).1 0 - 976299632280) (by omega) (by omega), ea, cm, fw_d_id (x := aw A p q (c : Int)) (by omega) (by omega), fw_s (x := (cc_f A p q c).1) (by omega) (by omega), fw_d_id (x := (cc_f A p q c).2) (by omega) (by omega)]
        have g := fun o7 o8 => ih (c + 1) τ' o7 o8 (by omega) (on_trans M M')
        rw [cc_s, show ((c + 1 : Nat) : Int) = (c : Int) + 1 from rfl] at g
        have take : ((cc_f A p q c).1 = -1 ∨ aw A p q (c : Int) < (cc_f A p q c).2) → G 75 [some (2, 0, 0), some (0, 0, p), some (0, 0, q), some (0, 0, (cc_f A p q c).1), some (1, 0, (cc_f A p q c).2), none, some (0, 0, (c : Int)), some (1, 0, aw A p q (c : Int)), none] [] τ' := fun z => by
          rw [if_pos ⟨hb, z⟩] at g
          exact fs_closest_75 hG (fs_closest_82 hG (g _ _))
        refine ⟨by omega, fun z => take (Or.inl z), fun z => ⟨fun z2 => fs_closest_82 hG ?_, fun z2 => take (Or.inr z2)⟩⟩
        rw [if_neg (fun w => w.2.elim (fun y => z y) (fun y => by omega))] at g
        exact g _ _
  exact loop C 0 σ none none (Nat.zero_add C) (fw_okM_refl _ _))
theorem fm_m_closest (hinj : nn_inj ad) : fw_H l cy ad wr cr D 308 12 sp_m_closest := fw_mk hinj (⟨"NameNotesModel", "closest", "(II)I"⟩, prog_14_method_106_code, 9, (Option.some Jvm.ClassFile.FieldType.int), 2, true, 0) rfl rfl nn_KI20_ok nn_KJ20_ok nn_PF20_ok nn_PS20_ok (by decide +kernel) rfl rfl (List.forall_mem_cons.mpr ⟨fw_row nn_PM20_ok (x := 381) (k := 0) (mn := 295) (np := 3) (ob := true) (ci := 11) (⟨"NameNotesModel", "isRound", "(III)Z"⟩, prog_14_method_91_code, 4, (Option.some Jvm.ClassFile.FieldType.boolean), 3, true, 1) rfl (by decide +kernel) rfl rfl (by decide) (fun _ => ⟨_, _, rfl⟩) (fm_m_isRound hinj), (List.forall_mem_cons.mpr ⟨fw_row nn_PM20_ok (x := 387) (k := 0) (mn := 296) (np := 3) (ob := true) (ci := 11) (⟨"NameNotesModel", "layBest", "(III)V"⟩, prog_14_method_94_code, 13, (Option.none : Option Jvm.ClassFile.FieldType), 3, true, 4) rfl (by decide +kernel) rfl rfl (by decide) (fun _ => ⟨_, _, rfl⟩) (fm_m_layBest hinj), (fun _ h => absurd h List.not_mem_nil)⟩)⟩) (fun as σ0 K h => by
  obtain ⟨A, p, q, rfl, ⟨ep, eq⟩, hN0, h30, h⟩ := h
  have nn := N_n hN0.1
  obtain ⟨C, eC⟩ := Int.eq_ofNat_of_zero_le nn.2.1.1
  have cC : fw_c (C : Int) = (C : Int) := fw_s (by omega) (by omega)
  have cm : fw_c (-1) = -1 := fw_s (by decide) (by decide)
  refine ⟨rfl, fun G hG => fs_m_closest_0 hG ?_⟩
  rw [fw_c0]
  have hN : NM (ab_ups σ0 93 0 0) A := oz_NMM (dm_93 σ0) (by decide +kernel) hN0
  have h3 : 0 < A 49 13 → (ab_ups σ0 93 0 0) 95 3 = A 49 14 := fun z => by rw [ab_ups_ne (fun z => absurd z.1 (by decide))]; exact h30 z
  have h : ∀ σ' : ab_SG, ab_okM dm_N (ab_ups σ0 93 0 0) σ' → K (some (0, 0, v_closest A p q)) σ' := fun σ' M => h σ' (on_trans (dm_93 σ0) M)
  generalize ab_ups σ0 93 0 0 = σ at hN h3 h ⊢
  have hB : ∀ c : Nat, v_bd A p q 0 (c : Int) → dl_B (v_du A p q (c : Int)) := fun c z => dm_B20 hN z
  unfold v_closest at h
  rw [eC, Int.toNat_natCast] at h
  have e95 : ∀ τ : ab_SG, ab_okM dm_N σ τ → τ 95 3 = σ 95 3 := fun τ M => M 95 3 (fun q hq hh => by
    have : ∀ q ∈ dm_N, q.1 ≠ 95 := by decide
    exact this q hq hh.1)
  have loop : ∀ (f c : Nat) (τ : ab_SG) (m : Int) (o7 o8 : Option ab_AV), c + f = C → ab_okM dm_N σ τ → ((cc_f A p q c).1 = -1 → m = 0) → ((cc_f A p q c).1 ≠ -1 → m = 2520 * (cc_f A p q c).2) → G 13 [some (2, 93, 0), some (0, 0, p), some (0, 0, q), some (0, 0, (cc_f A p q c).1), some (1, 0, m), none, some (0, 0, (c : Int)), o7, o8] [] τ := by
    intro f
    induction f with
    | zero =>
      intro c τ m o7 o8 hc M _ _
      have e : c = C := by omega
      subst e
      have Nt := oz_NMM M (by decide +kernel) hN
      refine fs_m_closest_13 hG ⟨by rw [fw_c1]; decide, ?_⟩
      rw [fw_c1, show (1 : Int).toNat = 1 from rfl, (NM_n Nt).2.1, eC, cC]
      exact ⟨fun _ => h τ M, fun z => absurd z (by omega)⟩
    | succ f ih =>
      intro c τ m o7 o8 hc M m0 m1
      have Nt := oz_NMM M (by decide +kernel) hN
      have cc : fw_c (c : Int) = (c : Int) := fw_s (by omega) (by omega)
      have lb := cc_b hB c
      refine fs_m_closest_13 hG ⟨by rw [fw_c1]; decide, ?_⟩
      rw [fw_c1, show (1 : Int).toNat = 1 from rfl, (NM_n Nt).2.1, eC, cC, cc]
      refine ⟨fun z => absurd z (by omega), fun _ => ⟨A, p, q, (c : Int), rfl, ⟨ep, eq, cc⟩, Nt, fs_m_closest_32 hG ⟨fun z => ?_, fun z => ?_⟩⟩⟩
      · have no := fw_bo_eq z
        have nob : ∀ d : Nat, ¬ v_bd A p q 0 (d : Int) := fun d w => no ⟨w.1, w.2.1, w.2.2.1, w.2.2.2.1, by omega, by omega⟩
        have k := h τ M
        rw [cc_0 nob] at k
        rw [cc_0 nob]
        exact k
      · have hb := fw_bo_ne z
        have v0 := (hB c hb 0).1
        have ab2 : 0 ≤ aw A p q (c : Int) ∧ aw A p q (c : Int) ≤ 976299632280 := aw_b v0
        have hm : 0 ≤ m ∧ m ≤ 2520 * 976299632280 := by
          by_cases y : (cc_f A p q c).1 = -1
          · rw [m0 y]; decide
          · rw [m1 y]; omega
        refine ⟨A, p, q, (c : Int), rfl, Nt, (e95 τ M).trans (h3 (by have := hb.1; omega)), hb, fun τ' M' I' => fs_m_closest_43 hG ⟨by rw [fw_c0]; decide, ?_⟩⟩
        have at71 : ∀ a : Int, a = 2520 * aw A p q (c : Int) → G 71 [some (2, 93, 0), some (0, 0, p), some (0, 0, q), some (0, 0, (cc_f A p q c).1), some (1, 0, m), none, some (0, 0, (c : Int)), some (1, 0, a), none] [] τ' := by
          intro a ea
          subst ea
          have ok : ab_okM dm_N σ τ' := on_trans M (od_up M' (by decide))
          have ne : (c : Int) ≠ -1 := by omega
          have take : ((cc_f A p q c).1 = -1 ∨ aw A p q (c : Int) < (cc_f A p q c).2) → G 87 [some (2, 93, 0), some (0, 0, p), some (0, 0, q), some (0, 0, (cc_f A p q c).1), some (1, 0, m), none, some (0, 0, (c : Int)), some (1, 0, 2520 * aw A p q (c : Int)), none] [] τ' := fun z => by
            have g := ih (c + 1) τ' (2520 * aw A p q (c : Int)) (some (1, 0, 2520 * aw A p q (c : Int))) none (by omega) ok (fun y => by rw [cc_s, if_pos ⟨hb, z⟩] at y; exact absurd y ne) (fun _ => by rw [cc_s, if_pos ⟨hb, z⟩])
            rw [cc_s, if_pos ⟨hb, z⟩, show ((c + 1 : Nat) : Int) = (c : Int) + 1 from rfl] at g
            exact fs_m_closest_87 hG (fs_m_closest_94 hG g)
          refine fs_m_closest_71 hG ?_
          rw [cm, fw_s (x := (cc_f A p q c).1) (by omega) (by omega), fw_d_id (x := 2520 * aw A p q (c : Int)) (by omega) (by omega), fw_d_id (x := m) (by omega) (by omega)]
          refine ⟨fun z => take (Or.inl z), fun z => ⟨fun z2 => take (Or.inr (by have := m1 z; omega)), fun z2 => fs_m_closest_94 hG ?_⟩⟩
          have t : ¬ (v_bd A p q 0 (c : Int) ∧ ((cc_f A p q c).1 = -1 ∨ aw A p q (c : Int) < (cc_f A p q c).2)) := fun w => w.2.elim (fun y => z y) (fun y => by have := m1 z; omega)
          have g := ih (c + 1) τ' m (some (1, 0, 2520 * aw A p q (c : Int))) none (by omega) ok (fun y => by rw [cc_s, if_neg t] at y; exact m0 y) (fun y => by rw [cc_s, if_neg t] at y ⊢; exact m1 y)
          rw [cc_s, if_neg t, show ((c + 1 : Nat) : Int) = (c : Int) + 1 from rfl] at g
          exact g
        rw [fw_c0, show (0 : Int).toNat = 0 from rfl, (I' 0 (by decide)).1]
        have ea : aw A p q (c : Int) = aw_a ((v_du A p q (c : Int)).1 0) := rfl
        unfold aw_a at ea
        generalize (v_du A p q (c : Int)).1 0 = v at ea v0 ⊢
        rw [fw_d_id (x := 2 * (2520 * v) - 2460275073345600) (by omega) (by omega), show fw_d ((0 : Nat) : Int) = 0 from fw_d_id (by decide) (by decide)]
        refine ⟨fun z => at71 _ ?_, fun z => at71 _ ?_⟩
        · by_cases y : 0 < 2 * v - 976299632280
          · rw [if_pos y] at ea; omega
          · rw [if_neg y] at ea; omega
        · rw [if_neg (by omega)] at ea
          omega
  exact loop C 0 σ 0 none none (Nat.zero_add C) (fw_okM_refl _ _) (fun _ => rfl) (fun z => absurd rfl z))
end
