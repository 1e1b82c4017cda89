/-! the nearest tune -/
abbrev nr_c (A : ab_SG) (x : Nat) (s : Int) (y : Nat) (b : Int) : Prop := y ≠ x ∧ pr_hs s (y : Int) = true ∧ (b = -1 ∨ v_ap A x y < v_ap A x b.toNat)
def v_nr (A : ab_SG) (x : Nat) (s : Int) : Nat → Int
  | 0 => -1
  | y + 1 => if nr_c A x s y (v_nr A x s y) then (y : Int) else v_nr A x s y
theorem v_nr_s (A : ab_SG) (x : Nat) (s : Int) (y : Nat) : v_nr A x s (y + 1) = if nr_c A x s y (v_nr A x s y) then (y : Int) else v_nr A x s y := rfl
theorem v_nr_b (A : ab_SG) (x : Nat) (s : Int) : ∀ y : Nat, -1 ≤ v_nr A x s y ∧ v_nr A x s y < (y : Int)
  | 0 => by
    show -1 ≤ (-1 : Int) ∧ (-1 : Int) < ((0 : Nat) : Int)
    omega
  | y + 1 => by
    have h := v_nr_b A x s y
    rw [v_nr_s]
    split
    · omega
    · omega
theorem v_ap_b {A : ab_SG} (hi : RI A) (hb : nb_is A) {x y : Nat} (hx : (x : Int) < A 49 11) (hy : (y : Int) < A 49 11) : 0 ≤ v_ap A x y ∧ v_ap A x y ≤ 18 := by
  obtain ⟨x9, x1, x2⟩ := N_sz hi hb hx
  obtain ⟨y9, y1, y2⟩ := N_sz hi hb hy
  have b := ed_b A x y (A 52 x).toNat (A 52 y).toNat
  unfold v_ap
  omega
def v_nearest (A : ab_SG) (x c : Int) : Int := if (0 ≤ x ∧ x < A 49 11) ∧ (-1 ≤ c ∧ c < A 49 12) then v_nr A x.toNat (v_set A c) (A 49 11).toNat else -1
def sp_nearest : fw_SP := fun as σ K => ∃ (A : ab_SG) (x c : Int), as = [(2, 0, 0), (0, 0, x), (0, 0, c)] ∧ (fw_c x = x ∧ fw_c c = c) ∧ NC σ A ∧ ∀ σ' : ab_SG, ab_okM gr_M σ σ' → K (some (0, 0, v_nearest A x c)) σ'
def sp_m_nearest : fw_SP := fun as σ K => ∃ (A : ab_SG) (x c : Int), as = [(2, 93, 0), (0, 0, x), (0, 0, c)] ∧ (fw_c x = x ∧ fw_c c = c) ∧ NM σ A ∧ ∀ σ' : ab_SG, ab_okM ((93, 0) :: ap_N) σ σ' → K (some (0, 0, v_nearest A x c)) σ'
abbrev fk_nearest : List fw_CR := [(157, 1, true, 6, 0, sp_isTune3), (169, 1, true, 6, 1, sp_setOf3), (190, 1, true, 6, 1, sp_isChoice3), (197, 2, false, 0, 0, sp_has), (368, 2, true, 10, 3, sp_distance)]
abbrev st_nearest : fw_K → fw_KR → fw_K := fw_st vwCl nn_sh nn_kd fw_kv fw_wc (nn_KI1.map (fun x => x.1)) (nn_KJ1.map (fun x => x.1)) (nn_PF1.map (fun x => x.1)) (nn_PS1.map (fun x => x.1)) fk_nearest 4 nn_dt146 8 0
theorem fs_nearest_0 {G : fw_K} {R : fw_KR} (hG : fw_cls st_nearest R G) {x c : Int} {σ : ab_SG} (h : sp_isTune3 [(2, 3, 0), (0, 0, x)] σ (fun rv σ2 => G 8 [some (2, 0, 0), some (0, 0, x), some (0, 0, c), none, none, none, none, none] (rv.toList ++ []) σ2)) : G 0 [some (2, 0, 0), some (0, 0, x), some (0, 0, c), none, none, none, none, none] [] σ := fw_on hG [8, 19, 32, 42, 66, 76, 91, 99] 200 h
theorem fs_nearest_8 {G : fw_K} {R : fw_KR} (hG : fw_cls st_nearest R G) {a1 a2 b0 : Int} {o3 o4 o5 o6 o7 : Option ab_AV} {σ : ab_SG} (h : (fw_c b0 = 0 → R (some (0, 0, (-1))) σ) ∧ (fw_c b0 ≠ 0 → sp_isChoice3 [(2, 3, 0), (0, 0, a2)] σ (fun rv σ2 => G 19 [some (2, 0, 0), some (0, 0, a1), some (0, 0, a2), o3, o4, o5, o6, o7] (rv.toList ++ []) σ2))) : G 8 [some (2, 0, 0), some (0, 0, a1), some (0, 0, a2), o3, o4, o5, o6, o7] [(0, 0, b0)] σ := fw_on hG [8, 19, 32, 42, 66, 76, 91, 99] 200 h
theorem fs_nearest_19 {G : fw_K} {R : fw_KR} (hG : fw_cls st_nearest R G) {a1 a2 b0 : Int} {o3 o4 o5 o6 o7 : Option ab_AV} {σ : ab_SG} (h : (fw_c b0 ≠ 0 → sp_setOf3 [(2, 3, 0), (0, 0, a2)] σ (fun rv σ2 => G 32 [some (2, 0, 0), some (0, 0, a1), some (0, 0, a2), o3, o4, o5, o6, o7] (rv.toList ++ []) σ2)) ∧ (fw_c b0 = 0 → R (some (0, 0, (-1))) σ)) : G 19 [some (2, 0, 0), some (0, 0, a1), some (0, 0, a2), o3, o4, o5, o6, o7] [(0, 0, b0)] σ := fw_on hG [8, 19, 32, 42, 66, 76, 91, 99] 200 h
theorem fs_nearest_32 {G : fw_K} {R : fw_KR} (hG : fw_cls st_nearest R G) {a1 a2 b0 : Int} {o3 o4 o5 o6 o7 : Option ab_AV} {σ : ab_SG} (h : G 42 [some (2, 0, 0), some (0, 0, a1), some (0, 0, a2), some (0, 0, b0), some (0, 0, (-1)), some (0, 0, 0), some (0, 0, 0), o7] [] σ) : G 32 [some (2, 0, 0), some (0, 0, a1), some (0, 0, a2), o3, o4, o5, o6, o7] [(0, 0, b0)] σ := fw_on hG [8, 19, 32, 42, 66, 76, 91, 99] 200 h
theorem fs_nearest_42 {G : fw_K} {R : fw_KR} (hG : fw_cls st_nearest R G) {a1 a2 a3 a4 a5 a6 : Int} {o7 : Option ab_AV} {σ : ab_SG} (h : (fw_c (σ 3 11) ≤ fw_c a6 → R (some (0, 0, a4)) σ) ∧ (fw_c a6 < fw_c (σ 3 11) → (fw_c a6 = fw_c a1 → G 99 [some (2, 0, 0), some (0, 0, a1), some (0, 0, a2), some (0, 0, a3), some (0, 0, a4), some (0, 0, a5), some (0, 0, a6), o7] [] σ) ∧ (fw_c a6 ≠ fw_c a1 → sp_has [(0, 0, a3), (0, 0, a6)] σ (fun rv σ2 => G 66 [some (2, 0, 0), some (0, 0, a1), some (0, 0, a2), some (0, 0, a3), some (0, 0, a4), some (0, 0, a5), some (0, 0, a6), o7] (rv.toList ++ []) σ2)))) : G 42 [some (2, 0, 0), some (0, 0, a1), some (0, 0, a2), some (0, 0, a3), some (0, 0, a4), some (0, 0, a5), some (0, 0, a6), o7] [] σ := fw_on hG [8, 19, 32, 42, 66, 76, 91, 99] 200 h
theorem fs_nearest_99 {G : fw_K} {R : fw_KR} (hG : fw_cls st_nearest R G) {a1 a2 a3 a4 a5 a6 : Int} {o7 : Option ab_AV} {σ : ab_SG} (h : G 42 [some (2, 0, 0), some (0, 0, a1), some (0, 0, a2), some (0, 0, a3), some (0, 0, a4), some (0, 0, a5), some (0, 0, a6 + 1), o7] [] σ) : G 99 [some (2, 0, 0), some (0, 0, a1), some (0, 0, a2), some (0, 0, a3), some (0, 0, a4), some (0, 0, a5), some (0, 0, a6), o7] [] σ := fw_on hG [8, 19, 32, 42, 66, 76, 91, 99] 200 h
theorem fs_nearest_66 {G : fw_K} {R : fw_KR} (hG : fw_cls st_nearest R G) {a1 a2 a3 a4 a5 a6 b0 : Int} {o7 : Option ab_AV} {σ : ab_SG} (h : (fw_c b0 = 0 → G 99 [some (2, 0, 0), some (0, 0, a1), some (0, 0, a2), some (0, 0, a3), some (0, 0, a4), some (0, 0, a5), some (0, 0, a6), o7] [] σ) ∧ (fw_c b0 ≠ 0 → sp_distance [(2, 0, 0), (0, 0, a1), (0, 0, a6)] σ (fun rv σ2 => G 76 [some (2, 0, 0), some (0, 0, a1), some (0, 0, a2), some (0, 0, a3), some (0, 0, a4), some (0, 0, a5), some (0, 0, a6), o7] (rv.toList ++ []) σ2))) : G 66 [some (2, 0, 0), some (0, 0, a1), some (0, 0, a2), some (0, 0, a3), some (0, 0, a4), some (0, 0, a5), some (0, 0, a6), o7] [(0, 0, b0)] σ := fw_on hG [8, 19, 32, 42, 66, 76, 91, 99] 200 h
theorem fs_nearest_76 {G : fw_K} {R : fw_KR} (hG : fw_cls st_nearest R G) {a1 a2 a3 a4 a5 a6 b0 : Int} {o7 : Option ab_AV} {σ : ab_SG} (h : (fw_c a4 = fw_c (-1) → G 91 [some (2, 0, 0), some (0, 0, a1), some (0, 0, a2), some (0, 0, a3), some (0, 0, a4), some (0, 0, a5), some (0, 0, a6), some (0, 0, b0)] [] σ) ∧ (fw_c a4 ≠ fw_c (-1) → (fw_c a5 ≤ fw_c b0 → G 99 [some (2, 0, 0), some (0, 0, a1), some (0, 0, a2), some (0, 0, a3), some (0, 0, a4), some (0, 0, a5), some (0, 0, a6), some (0, 0, b0)] [] σ) ∧ (fw_c b0 < fw_c a5 → G 91 [some (2, 0, 0), some (0, 0, a1), some (0, 0, a2), some (0, 0, a3), some (0, 0, a4), some (0, 0, a5), some (0, 0, a6), some (0, 0, b0)] [] σ))) : G 76 [some (2, 0, 0), some (0, 0, a1), some (0, 0, a2), some (0, 0, a3), some (0, 0, a4), some (0, 0, a5), some (0, 0, a6), o7] [(0, 0, b0)] σ := fw_on hG [8, 19, 32, 42, 66, 76, 91, 99] 200 h
theorem fs_nearest_91 {G : fw_K} {R : fw_KR} (hG : fw_cls st_nearest R G) {a1 a2 a3 a6 a7 : Int} {o4 o5 : Option ab_AV} {σ : ab_SG} (h : G 99 [some (2, 0, 0), some (0, 0, a1), some (0, 0, a2), some (0, 0, a3), some (0, 0, a6), some (0, 0, a7), some (0, 0, a6), some (0, 0, a7)] [] σ) : G 91 [some (2, 0, 0), some (0, 0, a1), some (0, 0, a2), some (0, 0, a3), o4, o5, some (0, 0, a6), some (0, 0, a7)] [] σ := fw_on hG [8, 19, 32, 42, 66, 76, 91, 99] 200 h
abbrev fk_m_nearest : List fw_CR := [(216, 2, false, 0, 0, sp_m_has), (261, 0, true, 11, 0, sp_m_tunes), (267, 1, true, 11, 1, sp_m_isTune), (300, 1, true, 11, 1, sp_m_isLeft), (303, 1, true, 11, 1, sp_m_left), (319, 2, true, 11, 3, sp_m_apartOf)]
abbrev st_m_nearest : fw_K → fw_KR → fw_K := fw_st vwCl nn_sh nn_kd fw_kv fw_wc (nn_KI20.map (fun x => x.1)) (nn_KJ20.map (fun x => x.1)) (nn_PF20.map (fun x => x.1)) (nn_PS20.map (fun x => x.1)) fk_m_nearest 4 nn_dt270 5 0
theorem fs_m_nearest_0 {G : fw_K} {R : fw_KR} (hG : fw_cls st_m_nearest R G) {x c : Int} {σ : ab_SG} (h : sp_m_isTune [(2, 93, 0), (0, 0, x)] (ab_ups σ 93 0 (fw_c 0)) (fun rv σ2 => G 10 [some (2, 93, 0), some (0, 0, x), some (0, 0, c), none, none] (rv.toList ++ []) σ2)) : G 0 [some (2, 93, 0), some (0, 0, x), some (0, 0, c), none, none] [] σ := fw_on hG [10, 18, 28, 34, 48, 53, 68, 74, 77, 80] 200 h
theorem fs_m_nearest_10 {G : fw_K} {R : fw_KR} (hG : fw_cls st_m_nearest R G) {a1 a2 b0 : Int} {o3 o4 : Option ab_AV} {σ : ab_SG} (h : (fw_c b0 = 0 → R (some (0, 0, (-1))) σ) ∧ (fw_c b0 ≠ 0 → sp_m_isLeft [(2, 93, 0), (0, 0, a2)] σ (fun rv σ2 => G 18 [some (2, 93, 0), some (0, 0, a1), some (0, 0, a2), o3, o4] (rv.toList ++ []) σ2))) : G 10 [some (2, 93, 0), some (0, 0, a1), some (0, 0, a2), o3, o4] [(0, 0, b0)] σ := fw_on hG [10, 18, 28, 34, 48, 53, 68, 74, 77, 80] 200 h
theorem fs_m_nearest_18 {G : fw_K} {R : fw_KR} (hG : fw_cls st_m_nearest R G) {a1 a2 b0 : Int} {o3 o4 : Option ab_AV} {σ : ab_SG} (h : (fw_c b0 ≠ 0 → G 28 [some (2, 93, 0), some (0, 0, a1), some (0, 0, a2), some (0, 0, (-1)), some (0, 0, 0)] [] σ) ∧ (fw_c b0 = 0 → R (some (0, 0, (-1))) σ)) : G 18 [some (2, 93, 0), some (0, 0, a1), some (0, 0, a2), o3, o4] [(0, 0, b0)] σ := fw_on hG [10, 18, 28, 34, 48, 53, 68, 74, 77, 80] 200 h
theorem fs_m_nearest_28 {G : fw_K} {R : fw_KR} (hG : fw_cls st_m_nearest R G) {a1 a2 a3 a4 : Int} {σ : ab_SG} (h : sp_m_tunes [(2, 93, 0)] σ (fun rv σ2 => G 34 [some (2, 93, 0), some (0, 0, a1), some (0, 0, a2), some (0, 0, a3), some (0, 0, a4)] (rv.toList ++ [(0, 0, a4)]) σ2)) : G 28 [some (2, 93, 0), some (0, 0, a1), some (0, 0, a2), some (0, 0, a3), some (0, 0, a4)] [] σ := fw_on hG [10, 18, 28, 34, 48, 53, 68, 74, 77, 80] 200 h
theorem fs_m_nearest_34 {G : fw_K} {R : fw_KR} (hG : fw_cls st_m_nearest R G) {a1 a2 a3 a4 b0 b1 : Int} {σ : ab_SG} (h : (fw_c b0 ≤ fw_c b1 → R (some (0, 0, a3)) σ) ∧ (fw_c b1 < fw_c b0 → (fw_c a4 = fw_c a1 → G 80 [some (2, 93, 0), some (0, 0, a1), some (0, 0, a2), some (0, 0, a3), some (0, 0, a4)] [] σ) ∧ (fw_c a4 ≠ fw_c a1 → sp_m_left [(2, 93, 0), (0, 0, a2)] σ (fun rv σ2 => G 48 [some (2, 93, 0), some (0, 0, a1), some (0, 0, a2), some (0, 0, a3), some (0, 0, a4)] (rv.toList ++ []) σ2)))) : G 34 [some (2, 93, 0), some (0, 0, a1), some (0, 0, a2), some (0, 0, a3), some (0, 0, a4)] [(0, 0, b0), (0, 0, b1)] σ := fw_on hG [10, 18, 28, 34, 48, 53, 68, 74, 77, 80] 200 h
theorem fs_m_nearest_80 {G : fw_K} {R : fw_KR} (hG : fw_cls st_m_nearest R G) {a1 a2 a3 a4 : Int} {σ : ab_SG} (h : G 28 [some (2, 93, 0), some (0, 0, a1), some (0, 0, a2), some (0, 0, a3), some (0, 0, a4 + 1)] [] σ) : G 80 [some (2, 93, 0), some (0, 0, a1), some (0, 0, a2), some (0, 0, a3), some (0, 0, a4)] [] σ := fw_on hG [10, 18, 28, 34, 48, 53, 68, 74, 77, 80] 200 h
theorem fs_m_nearest_48 {G : fw_K} {R : fw_KR} (hG : fw_cls st_m_nearest R G) {a1 a2 a3 a4 b0 : Int} {σ : ab_SG} (h : sp_m_has [(0, 0, b0), (0, 0, a4)] σ (fun rv σ2 => G 53 [some (2, 93, 0), some (0, 0, a1), some (0, 0, a2), some (0, 0, a3), some (0, 0, a4)] (rv.toList ++ []) σ2)) : G 48 [some (2, 93, 0), some (0, 0, a1), some (0, 0, a2), some (0, 0, a3), some (0, 0, a4)] [(0, 0, b0)] σ := fw_on hG [10, 18, 28, 34, 48, 53, 68, 74, 77, 80] 200 h
theorem fs_m_nearest_53 {G : fw_K} {R : fw_KR} (hG : fw_cls st_m_nearest R G) {a1 a2 a3 a4 b0 : Int} {σ : ab_SG} (h : (fw_c b0 = 0 → G 80 [some (2, 93, 0), some (0, 0, a1), some (0, 0, a2), some (0, 0, a3), some (0, 0, a4)] [] σ) ∧ (fw_c b0 ≠ 0 → (fw_c a3 = fw_c (-1) → G 77 [some (2, 93, 0), some (0, 0, a1), some (0, 0, a2), some (0, 0, a3), some (0, 0, a4)] [] σ) ∧ (fw_c a3 ≠ fw_c (-1) → sp_m_apartOf [(2, 93, 0), (0, 0, a1), (0, 0, a4)] σ (fun rv σ2 => G 68 [some (2, 93, 0), some (0, 0, a1), some (0, 0, a2), some (0, 0, a3), some (0, 0, a4)] (rv.toList ++ []) σ2)))) : G 53 [some (2, 93, 0), some (0, 0, a1), some (0, 0, a2), some (0, 0, a3), some (0, 0, a4)] [(0, 0, b0)] σ := fw_on hG [10, 18, 28, 34, 48, 53, 68, 74, 77, 80] 200 h
theorem fs_m_nearest_77 {G : fw_K} {R : fw_KR} (hG : fw_cls st_m_nearest R G) {a1 a2 a4 : Int} {o3 : Option ab_AV} {σ : ab_SG} (h : G 80 [some (2, 93, 0), some (0, 0, a1), some (0, 0, a2), some (0, 0, a4), some (0, 0, a4)] [] σ) : G 77 [some (2, 93, 0), some (0, 0, a1), some (0, 0, a2), o3, some (0, 0, a4)] [] σ := fw_on hG [10, 18, 28, 34, 48, 53, 68, 74, 77, 80] 200 h
theorem fs_m_nearest_68 {G : fw_K} {R : fw_KR} (hG : fw_cls st_m_nearest R G) {a1 a2 a3 a4 b0 : Int} {σ : ab_SG} (h : sp_m_apartOf [(2, 93, 0), (0, 0, a1), (0, 0, a3)] σ (fun rv σ2 => G 74 [some (2, 93, 0), some (0, 0, a1), some (0, 0, a2), some (0, 0, a3), some (0, 0, a4)] (rv.toList ++ [(0, 0, b0)]) σ2)) : G 68 [some (2, 93, 0), some (0, 0, a1), some (0, 0, a2), some (0, 0, a3), some (0, 0, a4)] [(0, 0, b0)] σ := fw_on hG [10, 18, 28, 34, 48, 53, 68, 74, 77, 80] 200 h
theorem fs_m_nearest_74 {G : fw_K} {R : fw_KR} (hG : fw_cls st_m_nearest R G) {a1 a2 a3 a4 b0 b1 : Int} {σ : ab_SG} (h : (fw_c b0 ≤ fw_c b1 → G 80 [some (2, 93, 0), some (0, 0, a1), some (0, 0, a2), some (0, 0, a3), some (0, 0, a4)] [] σ) ∧ (fw_c b1 < fw_c b0 → G 77 [some (2, 93, 0), some (0, 0, a1), some (0, 0, a2), some (0, 0, a3), some (0, 0, a4)] [] σ)) : G 74 [some (2, 93, 0), some (0, 0, a1), some (0, 0, a2), some (0, 0, a3), some (0, 0, a4)] [(0, 0, b0), (0, 0, b1)] σ := fw_on hG [10, 18, 28, 34, 48, 53, 68, 74, 77, 80] 200 h

section
variable {l : Launch} {cy : Nat → ClassId} {ad wr cr : Nat → Nat} {D : va_G}
theorem fm_nearest (hinj : nn_inj ad) : fw_H l cy ad wr cr D 146 4 sp_nearest := fw_mk hinj (⟨"NameNotes", "nearest", "(II)I"⟩, prog_1_method_43_code, 8, (Option.some Jvm.ClassFile.FieldType.int), 2, true, 0) rfl rfl nn_KI1_ok nn_KJ1_ok nn_PF1_ok nn_PS1_ok (by decide +kernel) rfl rfl (List.forall_mem_cons.mpr ⟨fw_row nn_PM1_ok (x := 157) (k := 0) (mn := 46) (np := 1) (ob := true) (ci := 6) (⟨"NameNotes$Studio", "isTune", "(I)Z"⟩, prog_8_method_4_code, 2, (Option.some Jvm.ClassFile.FieldType.boolean), 1, true, 1) rfl (by decide +kernel) rfl rfl (by decide) (fun _ => ⟨_, _, rfl⟩) (fm_isTune3 hinj), (List.forall_mem_cons.mpr ⟨fw_row nn_PM1_ok (x := 169) (k := 0) (mn := 64) (np := 1) (ob := true) (ci := 6) (⟨"NameNotes$Studio", "setOf", "(I)I"⟩, prog_8_method_8_code, 2, (Option.some Jvm.ClassFile.FieldType.int), 1, true, 0) rfl (by decide +kernel) rfl rfl (by decide) (fun _ => ⟨_, _, rfl⟩) (fm_setOf3 hinj), (List.forall_mem_cons.mpr ⟨fw_row nn_PM1_ok (x := 190) (k := 0) (mn := 73) (np := 1) (ob := true) (ci := 6) (⟨"NameNotes$Studio", "isChoice", "(I)Z"⟩, prog_8_method_7_code, 2, (Option.some Jvm.ClassFile.FieldType.boolean), 1, true, 1) rfl (by decide +kernel) rfl rfl (by decide) (fun _ => ⟨_, _, rfl⟩) (fm_isChoice3 hinj), (List.forall_mem_cons.mpr ⟨fw_row nn_PM1_ok (x := 197) (k := 0) (mn := 34) (np := 2) (ob := false) (ci := 0) (⟨"NameNotes", "has", "(II)Z"⟩, prog_1_method_80_code, 2, (Option.some Jvm.ClassFile.FieldType.boolean), 2, false, 1) rfl (by decide +kernel) rfl rfl (by decide) (fun q => by cases q) (fm_has hinj), (List.forall_mem_cons.mpr ⟨fw_row nn_PM1_ok (x := 368) (k := 0) (mn := 144) (np := 2) (ob := true) (ci := 10) (⟨"NameNotes", "distance", "(II)I"⟩, prog_1_method_71_code, 10, (Option.some Jvm.ClassFile.FieldType.int), 2, true, 0) rfl (by decide +kernel) rfl rfl (by decide) (fun _ => ⟨_, _, rfl⟩) (fm_distance hinj), (fun _ h => absurd h List.not_mem_nil)⟩)⟩)⟩)⟩)⟩) (fun as σ K h => by
  obtain ⟨A, x, c, rfl, ⟨ex, ec⟩, hN, h⟩ := h
  have nn := N_n hN.1
  unfold v_nearest at h
  refine ⟨rfl, fun G hG => fs_nearest_0 hG ⟨x, rfl, fs_nearest_8 hG ?_⟩⟩
  rw [c_tu_v hN ex]
  refine ⟨fun q => ?_, fun q1 => ⟨A, c, rfl, ec, hN, fs_nearest_19 hG ⟨fun q2 => ?_, fun q => ?_⟩⟩⟩
  · rw [if_neg (fun z => fw_bo_eq q z.1)] at h
    exact h σ (fw_okM_refl _ _)
  · have h1 := fw_bo_ne q1
    have h2 := fw_bo_ne q2
    rw [if_pos ⟨h1, h2⟩] at h
    obtain ⟨x', rfl⟩ := Int.eq_ofNat_of_zero_le h1.1
    obtain ⟨N, eN⟩ := Int.eq_ofNat_of_zero_le nn.1.1
    have eT : (A 49 11).toNat = N := by omega
    rw [Int.toNat_natCast, eT] at h
    have cN9 : fw_c (N : Int) = (N : Int) := fw_s (by omega) (by omega)
    have cm : fw_c (-1) = -1 := fw_s (by decide) (by decide)
    have loop : ∀ (f y : Nat) (τ : ab_SG) (a5 : Int) (o7 : Option ab_AV), y + f = N → ab_okM gr_M σ τ → (v_nr A x' (v_set A c) y ≠ -1 → a5 = v_ap A x' (v_nr A x' (v_set A c) y).toNat) → G 42 [some (2, 0, 0), some (0, 0, (x' : Int)), some (0, 0, c), some (0, 0, v_set A c), some (0, 0, v_nr A x' (v_set A c) y), some (0, 0, a5), some (0, 0, (y : Int)), o7] [] τ := by
      intro f
      induction f with
      | zero =>
        intro y τ a5 o7 hy M I
        have e : y = N := by omega
        refine fs_nearest_42 hG ?_
        rw [(NC_n (NC_M M (by decide +kernel) hN)).1, eN, cN9, fw_s (x := (y : Int)) (by omega) (by omega), e]
        exact ⟨fun _ => h τ M, fun z => absurd z (Int.lt_irrefl _)⟩
      | succ f ih =>
        intro y τ a5 o7 hy M I
        have ey : fw_c (y : Int) = (y : Int) := fw_s (by omega) (by omega)
        have yT : (y : Int) < A 49 11 := by omega
        have hb := v_nr_b A x' (v_set A c) y
        have av := v_ap_b hN.1 hN.2.1 h1.2 yT
        have skip : ∀ (τ : ab_SG) (o7 : Option ab_AV), ab_okM gr_M σ τ → ¬ nr_c A x' (v_set A c) y (v_nr A x' (v_set A c) y) → G 99 [some (2, 0, 0), some (0, 0, (x' : Int)), some (0, 0, c), some (0, 0, v_set A c), some (0, 0, v_nr A x' (v_set A c) y), some (0, 0, a5), some (0, 0, (y : Int)), o7] [] τ := fun τ o7 M hc => fs_nearest_99 hG (by
          have h9 := ih (y + 1) τ a5 o7 (by omega) M (by rw [v_nr_s, if_neg hc]; exact I)
          rw [v_nr_s, if_neg hc] at h9
          exact h9)
        have take : ∀ (τ : ab_SG) (o4 o5 : Option ab_AV), ab_okM gr_M σ τ → nr_c A x' (v_set A c) y (v_nr A x' (v_set A c) y) → G 91 [some (2, 0, 0), some (0, 0, (x' : Int)), some (0, 0, c), some (0, 0, v_set A c), o4, o5, some (0, 0, (y : Int)), some (0, 0, v_ap A x' y)] [] τ := fun τ o4 o5 M hc => fs_nearest_91 hG (fs_nearest_99 hG (by
          have h9 := ih (y + 1) τ (v_ap A x' y) (some (0, 0, v_ap A x' y)) (by omega) M (by rw [v_nr_s, if_pos hc]; intro _; rw [Int.toNat_natCast])
          rw [v_nr_s, if_pos hc] at h9
          exact h9))
        refine fs_nearest_42 hG ?_
        rw [(NC_n (NC_M M (by decide +kernel) hN)).1, eN, cN9, ey, ex]
        refine ⟨fun z => absurd z (by omega), fun _ => ⟨fun q => skip τ o7 M (fun hc => hc.1 (by omega)), fun q => ⟨_, _, rfl, by rw [ey]; omega, fs_nearest_66 hG ⟨fun z => skip τ o7 M (fun hc => fw_bo_eq z (hs_t hc.2.1)), fun z => ?_⟩⟩⟩⟩
        have hs := hs_of (fw_bo_ne z)
        have yx : y ≠ x' := fun w => q (by rw [w])
        refine ⟨A, x', y, rfl, NC_M M (by decide +kernel) hN, h1.2, yT, fun τ' M' => fs_nearest_76 hG ?_⟩
        have MM : ab_okM gr_M σ τ' := fw_okM_tr M M' (by decide)
        rw [fw_s (x := v_nr A x' (v_set A c) y) (by omega) (by omega), cm]
        refine ⟨fun q5 => take τ' _ _ MM ⟨yx, hs, Or.inl q5⟩, fun q5 => ?_⟩
        have e5 := I q5
        have bv := v_ap_b hN.1 hN.2.1 h1.2 (show (((v_nr A x' (v_set A c) y).toNat : Nat) : Int) < A 49 11 by omega)
        refine ⟨fun z5 => skip τ' _ MM (fun hc => hc.2.2.elim q5 (fun w => ?_)), fun z5 => take τ' _ _ MM ⟨yx, hs, Or.inr ?_⟩⟩
        · rw [e5, fw_s (x := v_ap A x' (v_nr A x' (v_set A c) y).toNat) (by omega) (by omega), fw_s (x := v_ap A x' y) (by omega) (by omega)] at z5
          omega
        · rw [e5, fw_s (x := v_ap A x' (v_nr A x' (v_set A c) y).toNat) (by omega) (by omega), fw_s (x := v_ap A x' y) (by omega) (by omega)] at z5
          exact z5
    exact ⟨A, c, rfl, hN, h2, fs_nearest_32 hG (loop N 0 σ 0 none (Nat.zero_add _) (fw_okM_refl _ _) (fun z => absurd rfl z))⟩
  · rw [if_neg (fun z => fw_bo_eq q z.2)] at h
    exact h σ (fw_okM_refl _ _))
theorem fm_m_nearest (hinj : nn_inj ad) : fw_H l cy ad wr cr D 270 4 sp_m_nearest := fw_mk hinj (⟨"NameNotesModel", "nearest", "(II)I"⟩, prog_14_method_72_code, 5, (Option.some Jvm.ClassFile.FieldType.int), 2, true, 0) rfl rfl nn_KI20_ok nn_KJ20_ok nn_PF20_ok nn_PS20_ok (by decide +kernel) rfl rfl (List.forall_mem_cons.mpr ⟨fw_row nn_PM20_ok (x := 216) (k := 0) (mn := 230) (np := 2) (ob := false) (ci := 0) (⟨"NameNotesModel", "has", "(II)Z"⟩, prog_14_method_9_code, 2, (Option.some Jvm.ClassFile.FieldType.boolean), 2, false, 1) rfl (by decide +kernel) rfl rfl (by decide) (fun q => by cases q) (fm_m_has hinj), (List.forall_mem_cons.mpr ⟨fw_row nn_PM20_ok (x := 261) (k := 0) (mn := 240) (np := 0) (ob := true) (ci := 11) (⟨"NameNotesModel", "tunes", "()I"⟩, prog_14_method_41_code, 1, (Option.some Jvm.ClassFile.FieldType.int), 0, true, 0) rfl (by decide +kernel) rfl rfl (by decide) (fun _ => ⟨_, _, rfl⟩) (fm_m_tunes hinj), (List.forall_mem_cons.mpr ⟨fw_row nn_PM20_ok (x := 267) (k := 0) (mn := 239) (np := 1) (ob := true) (ci := 11) (⟨"NameNotesModel", "isTune", "(I)Z"⟩, prog_14_method_42_code, 2, (Option.some Jvm.ClassFile.FieldType.boolean), 1, true, 1) rfl (by decide +kernel) rfl rfl (by decide) (fun _ => ⟨_, _, rfl⟩) (fm_m_isTune hinj), (List.forall_mem_cons.mpr ⟨fw_row nn_PM20_ok (x := 300) (k := 0) (mn := 254) (np := 1) (ob := true) (ci := 11) (⟨"NameNotesModel", "isLeft", "(I)Z"⟩, prog_14_method_48_code, 2, (Option.some Jvm.ClassFile.FieldType.boolean), 1, true, 1) rfl (by decide +kernel) rfl rfl (by decide) (fun _ => ⟨_, _, rfl⟩) (fm_m_isLeft hinj), (List.forall_mem_cons.mpr ⟨fw_row nn_PM20_ok (x := 303) (k := 0) (mn := 255) (np := 1) (ob := true) (ci := 11) (⟨"NameNotesModel", "left", "(I)I"⟩, prog_14_method_47_code, 2, (Option.some Jvm.ClassFile.FieldType.int), 1, true, 0) rfl (by decide +kernel) rfl rfl (by decide) (fun _ => ⟨_, _, rfl⟩) (fm_m_left hinj), (List.forall_mem_cons.mpr ⟨fw_row nn_PM20_ok (x := 319) (k := 0) (mn := 267) (np := 2) (ob := true) (ci := 11) (⟨"NameNotesModel", "apartOf", "(II)I"⟩, prog_14_method_69_code, 6, (Option.some Jvm.ClassFile.FieldType.int), 2, true, 0) rfl (by decide +kernel) rfl rfl (by decide) (fun _ => ⟨_, _, rfl⟩) (fm_m_apartOf hinj), (fun _ h => absurd h List.not_mem_nil)⟩)⟩)⟩)⟩)⟩)⟩) (fun as σ K h => by
  obtain ⟨A, x, c, rfl, ⟨ex, ec⟩, hN, h⟩ := h
  have nn := N_n hN.1
  have hU := NM_ups (v := 0) hN
  have M0 : ab_okM ((93, 0) :: ap_N) σ (ab_ups σ 93 0 0) := fw_okM_ups (fw_okM_refl _ _) (by decide)
  unfold v_nearest at h
  refine ⟨rfl, fun G hG => fs_m_nearest_0 hG ?_⟩
  rw [fw_c0]
  refine ⟨x, rfl, fs_m_nearest_10 hG ?_⟩
  rw [m_tu_v hU ex]
  refine ⟨fun q => ?_, fun q1 => ⟨A, c, rfl, ec, hU, fs_m_nearest_18 hG ⟨fun q2 => ?_, fun q => ?_⟩⟩⟩
  · rw [if_neg (fun z => fw_bo_eq q z.1)] at h
    exact h _ M0
  · have h1 := fw_bo_ne q1
    have h2 := fw_bo_ne q2
    rw [if_pos ⟨h1, h2⟩] at h
    obtain ⟨x', rfl⟩ := Int.eq_ofNat_of_zero_le h1.1
    obtain ⟨N, eN⟩ := Int.eq_ofNat_of_zero_le nn.1.1
    have eT : (A 49 11).toNat = N := by omega
    rw [Int.toNat_natCast, eT] at h
    have cN9 : fw_c (N : Int) = (N : Int) := fw_s (by omega) (by omega)
    have cm : fw_c (-1) = -1 := fw_s (by decide) (by decide)
    have NMt : ∀ τ : ab_SG, ab_okM ap_N (ab_ups σ 93 0 0) τ → NM τ A := fun τ M => NM_M M (by decide +kernel) hU
    have loop : ∀ (f y : Nat) (τ : ab_SG), y + f = N → ab_okM ap_N (ab_ups σ 93 0 0) τ → G 28 [some (2, 93, 0), some (0, 0, (x' : Int)), some (0, 0, c), some (0, 0, v_nr A x' (v_set A c) y), some (0, 0, (y : Int))] [] τ := by
      intro f
      induction f with
      | zero =>
        intro y τ hy M
        have e : y = N := by omega
        refine fs_m_nearest_28 hG ⟨rfl, fs_m_nearest_34 hG ?_⟩
        rw [(NM_n (NMt τ M)).1, eN, cN9, fw_s (x := (y : Int)) (by omega) (by omega), e]
        exact ⟨fun _ => h τ (fw_okM_tr M0 M (by decide)), fun z => absurd z (Int.lt_irrefl _)⟩
      | succ f ih =>
        intro y τ hy M
        have ey : fw_c (y : Int) = (y : Int) := fw_s (by omega) (by omega)
        have yT : (y : Int) < A 49 11 := by omega
        have hb := v_nr_b A x' (v_set A c) y
        have av := v_ap_b hN.1 hN.2.1 h1.2 yT
        have skip : ∀ τ : ab_SG, ab_okM ap_N (ab_ups σ 93 0 0) τ → ¬ nr_c A x' (v_set A c) y (v_nr A x' (v_set A c) y) → G 80 [some (2, 93, 0), some (0, 0, (x' : Int)), some (0, 0, c), some (0, 0, v_nr A x' (v_set A c) y), some (0, 0, (y : Int))] [] τ := fun τ M hc => fs_m_nearest_80 hG (by
          have h9 := ih (y + 1) τ (by omega) M
          rw [v_nr_s, if_neg hc] at h9
          exact h9)
        have take : ∀ (τ : ab_SG) (o3 : Option ab_AV), ab_okM ap_N (ab_ups σ 93 0 0) τ → nr_c A x' (v_set A c) y (v_nr A x' (v_set A c) y) → G 77 [some (2, 93, 0), some (0, 0, (x' : Int)), some (0, 0, c), o3, some (0, 0, (y : Int))] [] τ := fun τ o3 M hc => fs_m_nearest_77 hG (fs_m_nearest_80 hG (by
          have h9 := ih (y + 1) τ (by omega) M
          rw [v_nr_s, if_pos hc] at h9
          exact h9))
        refine fs_m_nearest_28 hG ⟨rfl, fs_m_nearest_34 hG ?_⟩
        rw [(NM_n (NMt τ M)).1, eN, cN9, ey, ex]
        refine ⟨fun z => absurd z (by omega), fun _ => ⟨fun q => skip τ M (fun hc => hc.1 (by omega)), fun q => ⟨A, c, rfl, NMt τ M, h2, fs_m_nearest_48 hG ⟨_, _, rfl, fs_m_nearest_53 hG ⟨fun z => skip τ M (fun hc => fw_bo_eq z hc.2.1), fun z => ?_⟩⟩⟩⟩⟩
        have hs := fw_bo_ne z
        have yx : y ≠ x' := fun w => q (by rw [w])
        rw [fw_s (x := v_nr A x' (v_set A c) y) (by omega) (by omega), cm]
        refine ⟨fun q5 => take τ _ M ⟨yx, hs, Or.inl q5⟩, fun q5 => ⟨A, x', y, rfl, NMt τ M, h1.2, yT, fun τ' M' => fs_m_nearest_68 hG ?_⟩⟩
        have MM : ab_okM ap_N (ab_ups σ 93 0 0) τ' := fw_okM_tr M M' (by decide)
        obtain ⟨b, eb⟩ := Int.eq_ofNat_of_zero_le (show 0 ≤ v_nr A x' (v_set A c) y by omega)
        have bv := v_ap_b hN.1 hN.2.1 h1.2 (show (b : Int) < A 49 11 by omega)
        have et : (v_nr A x' (v_set A c) y).toNat = b := by omega
        refine ⟨A, x', b, by rw [eb], NMt τ' MM, h1.2, by omega, fun τ2 M2 => fs_m_nearest_74 hG ?_⟩
        have M3 : ab_okM ap_N (ab_ups σ 93 0 0) τ2 := fw_okM_tr MM M2 (by decide)
        rw [fw_s (x := v_ap A x' b) (by omega) (by omega), fw_s (x := v_ap A x' y) (by omega) (by omega)]
        refine ⟨fun z5 => skip τ2 M3 (fun hc => hc.2.2.elim q5 (fun w => ?_)), fun z5 => take τ2 _ M3 ⟨yx, hs, Or.inr ?_⟩⟩
        · rw [et] at w
          omega
        · rw [et]
          exact z5
    exact loop N 0 _ (Nat.zero_add _) (fw_okM_refl _ _)
  · rw [if_neg (fun z => fw_bo_eq q z.2)] at h
    exact h _ M0)
end
