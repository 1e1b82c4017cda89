/-! the reference's studio: its text taken, read, kept -/
def ly_ok (σ : ab_SG) : Prop := σ 93 22 = 0 ∨ σ 93 22 = 1
def ly_is (σ σ' : ab_SG) : Prop := σ' 93 22 = 1 ∧ (σ 93 22 = 0 → σ' 95 3 = 9) ∧ (σ 93 22 ≠ 0 → σ' 95 3 = σ 95 3)
def sp_m_lay : fw_SP := fun as σ K => as = [(2, 93, 0)] ∧ ly_ok σ ∧ ∀ σ' : ab_SG, ab_okM [(93, 22), (95, 3)] σ σ' → ly_is σ σ' → K none σ'
def sp_m_take : fw_SP := fun as σ K => as = [(2, 93, 0)] ∧ K (some (0, 0, σ 93 2)) (ab_ups σ 93 2 0)
def tq_is (σ : ab_SG) (t : Nat → Int) : Prop := ∀ j : Nat, (j : Int) < σ 93 2 → σ 94 j = t j ∧ 0 ≤ t j ∧ t j ≤ 255
def bg_M : ab_ML := (93, 0) :: (93, 2) :: (93, 3) :: (93, 4) :: (93, 10) :: (93, 22) :: (95, 3) :: go_M
def sp_m_begin : fw_SP := fun as σ K => ∃ (x : Int) (t : Nat → Int), as = [(2, 93, 0), (0, 0, x)] ∧ (0 ≤ x ∧ x ≤ 940) ∧ (0 ≤ σ 93 2 ∧ σ 93 2 ≤ 940) ∧ tq_is σ t ∧ ly_ok σ ∧
  ∀ σ' : ab_SG, ab_okM bg_M σ σ' → mt_is σ' (t, (σ 93 2).toNat, x) 0 → ly_is σ σ' → σ' 93 2 = 0 → σ' 93 0 = 0 → K none σ'
/-- numbers N and names W tell the studio A -/
def sr_is (N W : Nat → Int) (A : ab_SG) : Prop := N 0 = A 49 11 ∧ N 1 = A 49 12 ∧ N 2 = A 49 13 ∧ N 3 = A 49 14 ∧
  (∀ x : Nat, (x : Int) < A 49 11 → N (5 + 19 * x) = A 52 x ∧ ∀ i : Nat, (i : Int) < A 52 x → N (6 + 19 * x + 2 * i) = A 50 (x * 9 + i) ∧ N (7 + 19 * x + 2 * i) = A 51 (x * 9 + i)) ∧
  (∀ c : Nat, (c : Int) < A 49 12 → N (176 + c) = A 54 c) ∧ (∀ j : Nat, j < 45 → N (182 + j) = A 55 j) ∧ (∀ j : Nat, (j : Int) < A 49 13 → N (227 + j) = A 56 j) ∧
  (∀ j : Nat, (j : Int) < A 49 11 → rf_ok 7 (A 57 j) ∧ W j = rf_w 7 (A 57 j)) ∧ (∀ j : Nat, (j : Int) < A 49 12 → rf_ok 7 (A 58 j) ∧ W (9 + j) = rf_w 7 (A 58 j)) ∧ (∀ j : Nat, (j : Int) < A 49 13 → rf_ok 7 (A 59 j) ∧ W (15 + j) = rf_w 7 (A 59 j))
theorem sr_of {σ A : ab_SG} {e : tk_E} {p : Nat} (h : RM σ A e p) : sr_is (σ 96) (σ 100) A := by
  obtain ⟨-, -, hn, r1, r2, r3, r4, r5, -⟩ := h
  refine ⟨hn.1.1, hn.2.1.1, hn.2.2.1.1, r1, r2, r3, r4, r5, fun j hj => ?_, hn.2.2.2.2.1, hn.2.2.2.2.2⟩
  have g := hn.2.2.2.1 j hj
  rw [Nat.zero_add] at g
  exact g
theorem sr_cong {N N' W W' : Nat → Int} {A : ab_SG} (hi : RI A) (hN : ∀ j : Nat, j < 232 → j ≠ 4 → N' j = N j) (hW : ∀ j : Nat, j < 20 → W' j = W j) (h : sr_is N W A) : sr_is N' W' A := by
  obtain ⟨c0, c1, c2, r1, r2, r3, r4, r5, r6, r7, r8⟩ := h
  have i1 := hi.1
  have i2 := hi.2.1
  have i3 := hi.2.2.1
  refine ⟨(hN 0 (by decide) (by decide)).trans c0, (hN 1 (by decide) (by decide)).trans c1, (hN 2 (by decide) (by decide)).trans c2, (hN 3 (by decide) (by decide)).trans r1, fun x hx => ?_, fun c hc => ?_, fun j hj => ?_, fun j hj => ?_, fun j hj => ?_, fun j hj => ?_, fun j hj => ?_⟩
  · refine ⟨(hN _ (by omega) (by omega)).trans (r2 x hx).1, fun i hi2 => ?_⟩
    have hs := hi.2.2.2.2.2.2.1 x (by omega)
    exact ⟨(hN _ (by omega) (by omega)).trans ((r2 x hx).2 i hi2).1, (hN _ (by omega) (by omega)).trans ((r2 x hx).2 i hi2).2⟩
  · exact (hN _ (by omega) (by omega)).trans (r3 c hc)
  · exact (hN _ (by omega) (by omega)).trans (r4 j hj)
  · exact (hN _ (by omega) (by omega)).trans (r5 j hj)
  · exact ⟨(r6 j hj).1, (hW _ (by omega)).trans (r6 j hj).2⟩
  · exact ⟨(r7 j hj).1, (hW _ (by omega)).trans (r7 j hj).2⟩
  · exact ⟨(r8 j hj).1, (hW _ (by omega)).trans (r8 j hj).2⟩
theorem sr_can {N W : Nat → Int} {A : ab_SG} (hi : RI A) (hb : nb_is A) (h : sr_is N W A) : sr_is (fun j => fw_c (N j)) (fun j => fw_d (W j)) A := by
  have c : ∀ v : Int, 0 ≤ v → v ≤ 1000 → fw_c v = v := fun v h1 h2 => fw_c_id (by omega) (by omega)
  have d : ∀ w : Int, fw_d (rf_w 7 w) = rf_w 7 w := fun w => by
    have b1 := rf_w_in 7 w
    have hB := rf_B7
    exact fw_d_id (by omega) (by omega)
  obtain ⟨c0, c1, c2, r1, r2, r3, r4, r5, r6, r7, r8⟩ := h
  have i1 := hi.1
  have i2 := hi.2.1
  have i3 := hi.2.2.1
  have p9 := (p2_le 9 (Nat.le_refl _)).1
  refine ⟨?_, ?_, ?_, ?_, fun x hx => ⟨?_, fun i hi2 => ⟨?_, ?_⟩⟩, fun x hx => ?_, fun j hj => ?_, fun j hj => ?_, fun j hj => ⟨(r6 j hj).1, ?_⟩, fun j hj => ⟨(r7 j hj).1, ?_⟩, fun j hj => ⟨(r8 j hj).1, ?_⟩⟩
  · show fw_c (N 0) = _
    rw [c0]; exact c _ (by omega) (by omega)
  · show fw_c (N 1) = _
    rw [c1]; exact c _ (by omega) (by omega)
  · show fw_c (N 2) = _
    rw [c2]; exact c _ (by omega) (by omega)
  · show fw_c (N 3) = _
    have := hb.2.2.2.2
    rw [r1]; exact c _ (by omega) (by omega)
  · show fw_c (N (5 + 19 * x)) = _
    have := hi.2.2.2.2.2.2.1 x (by omega)
    rw [(r2 x hx).1]; exact c _ (by omega) (by omega)
  · show fw_c (N (6 + 19 * x + 2 * i)) = _
    have := (hb.1 x hx).2 i hi2
    rw [((r2 x hx).2 i hi2).1]; exact c _ (by omega) (by omega)
  · show fw_c (N (7 + 19 * x + 2 * i)) = _
    have := (hb.1 x hx).2 i hi2
    rw [((r2 x hx).2 i hi2).2]; exact c _ (by omega) (by omega)
  · show fw_c (N (176 + x)) = _
    have h1 := hb.2.1 x hx
    have h2 := p2_mono (n := 9) (m := A 49 11) (by omega) (by omega) (by omega)
    have h3 : p2_n 9 = 512 := by decide
    rw [r3 x hx]; exact c _ (by omega) (by omega)
  · show fw_c (N (182 + j)) = _
    have := hb.2.2.1 j hj
    rw [r4 j hj]; exact c _ (by omega) (by omega)
  · show fw_c (N (227 + j)) = _
    have := hb.2.2.2.1 j (by omega)
    rw [r5 j hj]; exact c _ (by omega) (by omega)
  · show fw_d (W j) = _
    rw [(r6 j hj).2, d]
  · show fw_d (W (9 + j)) = _
    rw [(r7 j hj).2, d]
  · show fw_d (W (15 + j)) = _
    rw [(r8 j hj).2, d]
def mf_M : ab_ML := (93, 0) :: (93, 2) :: (93, 3) :: (93, 4) :: (93, 22) :: (95, 3) :: md_M
def ms_M : ab_ML := (93, 23) :: (93, 24) :: (95, 1000000) :: (99, 1000000) :: mf_M
def ms_ok (σ σ' A : ab_SG) : Prop := ab_okM ms_M σ σ' ∧ σ' 93 10 = 0 ∧ σ' 93 2 = 0 ∧ σ' 93 22 = 1 ∧ σ' 93 24 = 0 ∧ RI A ∧ nb_is A ∧ sr_is (σ' 95) (σ' 99) A ∧ (∀ j : Nat, 232 ≤ j → j < 474 → σ' 95 j = 0) ∧ σ' 93 23 = fw_c (σ 93 23 + 1) ∧ σ' 95 4 = fw_c (σ 93 23 + 1)
def sp_m_studio : fw_SP := fun as σ K => ∃ (t : Nat → Int) (A : ab_SG), as = [(2, 93, 0)] ∧ (0 ≤ σ 93 2 ∧ σ 93 2 ≤ 940) ∧ tq_is σ t ∧ ly_ok σ ∧ rl_is A ∧ rl_ok A ∧
  ((pr_read A t (σ 93 2).toNat).1.1 ≠ 0 → ∀ (v : Int) (σ' : ab_SG), ab_okM mf_M σ σ' → σ' 93 10 = (pr_read A t (σ 93 2).toNat).1.1 → σ' 93 2 = 0 → ly_is σ σ' → K (some (0, 0, v)) σ') ∧
  ((pr_read A t (σ 93 2).toNat).1.1 = 0 → ∀ σ' : ab_SG, ms_ok σ σ' (pr_read A t (σ 93 2).toNat).1.2.1 → K (some (0, 0, (pr_read A t (σ 93 2).toNat).2)) σ')
abbrev fk_m_take : List fw_CR := []
abbrev st_m_take : fw_K → fw_KR → fw_K := fw_st vwCl nn_sh nn_kd fw_kv fw_wc (nn_KI20.map (fun x => x.1)) (nn_KJ20.map (fun x => x.1)) (nn_PF20.map (fun x => x.1)) (nn_PS20.map (fun x => x.1)) fk_m_take 0 nn_dt211 2 0
theorem fs_m_take_0 {G : fw_K} {R : fw_KR} (hG : fw_cls st_m_take R G) {σ : ab_SG} (h : R (some (0, 0, σ 93 2)) (ab_ups σ 93 2 (fw_c 0))) : G 0 [some (2, 93, 0), none] [] σ := fw_on hG [] 200 h
abbrev fk_m_lay : List fw_CR := []
abbrev st_m_lay : fw_K → fw_KR → fw_K := fw_st vwCl nn_sh nn_kd fw_kv fw_wc (nn_KI20.map (fun x => x.1)) (nn_KJ20.map (fun x => x.1)) (nn_PF20.map (fun x => x.1)) (nn_PS20.map (fun x => x.1)) fk_m_lay 0 nn_dt210 1 4
theorem fs_m_lay_0 {G : fw_K} {R : fw_KR} (hG : fw_cls st_m_lay R G) {σ : ab_SG} (h : (fw_c (σ 93 22) = 0 → (0 ≤ fw_c 1 ∧ fw_c 1 ≤ 1) ∧ ((0 ≤ fw_c 3 ∧ fw_c 3 < ((474 : Nat) : Int)) ∧ True ∧ (R none (ab_ups (ab_ups σ 93 22 (fw_c 1)) 95 (fw_c 3).toNat (fw_c 9))))) ∧ (fw_c (σ 93 22) ≠ 0 → R none σ)) : G 0 [some (2, 93, 0)] [] σ := fw_on hG [] 200 h
abbrev fk_m_begin : List fw_CR := [(182, 0, true, 11, 1, sp_m_go), (188, 0, true, 11, 0, sp_m_lay), (191, 0, true, 11, 0, sp_m_take)]
abbrev st_m_begin : fw_K → fw_KR → fw_K := fw_st vwCl nn_sh nn_kd fw_kv fw_wc (nn_KI20.map (fun x => x.1)) (nn_KJ20.map (fun x => x.1)) (nn_PF20.map (fun x => x.1)) (nn_PS20.map (fun x => x.1)) fk_m_begin 2 nn_dt209 2 4
theorem fs_m_begin_0 {G : fw_K} {R : fw_KR} (hG : fw_cls st_m_begin R G) {x : Int} {σ : ab_SG} (h : sp_m_lay [(2, 93, 0)] (ab_ups σ 93 0 (fw_c 0)) (fun rv σ2 => G 9 [some (2, 93, 0), some (0, 0, x)] (rv.toList ++ []) σ2)) : G 0 [some (2, 93, 0), some (0, 0, x)] [] σ := fw_on hG [9, 14, 36] 200 h
theorem fs_m_begin_9 {G : fw_K} {R : fw_KR} (hG : fw_cls st_m_begin R G) {a1 : Int} {σ : ab_SG} (h : sp_m_take [(2, 93, 0)] σ (fun rv σ2 => G 14 [some (2, 93, 0), some (0, 0, a1)] (rv.toList ++ [(2, 93, 0)]) σ2)) : G 9 [some (2, 93, 0), some (0, 0, a1)] [] σ := fw_on hG [9, 14, 36] 200 h
theorem fs_m_begin_14 {G : fw_K} {R : fw_KR} (hG : fw_cls st_m_begin R G) {a1 b0 : Int} {σ : ab_SG} (h : sp_m_go [(2, 93, 0)] (ab_ups (ab_ups (ab_ups (ab_ups σ 93 3 (fw_c b0)) 93 4 (fw_c a1)) 93 10 (fw_c 0)) 93 5 (fw_c 0)) (fun rv σ2 => G 36 [some (2, 93, 0), some (0, 0, a1)] (rv.toList ++ []) σ2)) : G 14 [some (2, 93, 0), some (0, 0, a1)] [(0, 0, b0), (2, 93, 0)] σ := fw_on hG [9, 14, 36] 200 h
theorem fs_m_begin_36 {G : fw_K} {R : fw_KR} (hG : fw_cls st_m_begin R G) {a1 : Int} {σ : ab_SG} (h : R none σ) : G 36 [some (2, 93, 0), some (0, 0, a1)] [] σ := fw_on hG [9, 14, 36] 200 h
abbrev fk_m_studio : List fw_CR := [(249, 1, true, 11, 2, sp_m_begin), (252, 0, true, 11, 5, sp_m_readLine)]
abbrev st_m_studio : fw_K → fw_KR → fw_K := fw_st vwCl nn_sh nn_kd fw_kv fw_wc (nn_KI20.map (fun x => x.1)) (nn_KJ20.map (fun x => x.1)) (nn_PF20.map (fun x => x.1)) (nn_PS20.map (fun x => x.1)) fk_m_studio 6 nn_dt208 3 0
theorem fs_m_studio_0 {G : fw_K} {R : fw_KR} (hG : fw_cls st_m_studio R G) {σ : ab_SG} (h : sp_m_begin [(2, 93, 0), (0, 0, 900)] σ (fun rv σ2 => G 7 [some (2, 93, 0), none, none] (rv.toList ++ []) σ2)) : G 0 [some (2, 93, 0), none, none] [] σ := fw_on hG [7, 9, 49, 69, 80, 118, 147, 156] 200 h
theorem fs_m_studio_7 {G : fw_K} {R : fw_KR} (hG : fw_cls st_m_studio R G) {σ : ab_SG} (h : G 9 [some (2, 93, 0), some (0, 0, 0), none] [] σ) : G 7 [some (2, 93, 0), none, none] [] σ := fw_on hG [7, 9, 49, 69, 80, 118, 147, 156] 200 h
theorem fs_m_studio_9 {G : fw_K} {R : fw_KR} (hG : fw_cls st_m_studio R G) {a1 : Int} {σ : ab_SG} (h : (fw_c 232 ≤ fw_c a1 → (0 ≤ fw_c 3 ∧ fw_c 3 < ((232 : Nat) : Int)) ∧ True ∧ (G 49 [some (2, 93, 0), some (0, 0, 0), none] [] (ab_ups (ab_ups (ab_ups σ 96 (fw_c 3).toNat (fw_c 9)) 93 25 (fw_c 0)) 93 26 (fw_c 0)))) ∧ (fw_c a1 < fw_c 232 → (0 ≤ fw_c a1 ∧ fw_c a1 < ((232 : Nat) : Int)) ∧ True ∧ (G 9 [some (2, 93, 0), some (0, 0, a1 + 1), none] [] (ab_ups σ 96 (fw_c a1).toNat (fw_c 0))))) : G 9 [some (2, 93, 0), some (0, 0, a1), none] [] σ := fw_on hG [7, 9, 49, 69, 80, 118, 147, 156] 200 h
theorem fs_m_studio_49 {G : fw_K} {R : fw_KR} (hG : fw_cls st_m_studio R G) {a1 : Int} {σ : ab_SG} (h : (fw_c 5 ≤ fw_c a1 → G 69 [some (2, 93, 0), some (0, 0, 0), none] [] σ) ∧ (fw_c a1 < fw_c 5 → (0 ≤ fw_c a1 ∧ fw_c a1 < ((5 : Nat) : Int)) ∧ True ∧ (G 49 [some (2, 93, 0), some (0, 0, a1 + 1), none] [] (ab_ups σ 103 (fw_c a1).toNat (fw_c 0))))) : G 49 [some (2, 93, 0), some (0, 0, a1), none] [] σ := fw_on hG [7, 9, 49, 69, 80, 118, 147, 156] 200 h
theorem fs_m_studio_69 {G : fw_K} {R : fw_KR} (hG : fw_cls st_m_studio R G) {a1 : Int} {σ : ab_SG} (h : (fw_c (σ 93 7) = 0 → (0 ≤ fw_c 4 ∧ fw_c 4 < ((232 : Nat) : Int)) ∧ True ∧ (G 118 [some (2, 93, 0), some (0, 0, a1), some (0, 0, 0)] [] (ab_ups (ab_ups σ 93 23 (fw_c ((σ 93 23) + 1))) 96 (fw_c 4).toNat (fw_c (fw_c ((σ 93 23) + 1)))))) ∧ (fw_c (σ 93 7) ≠ 0 → sp_m_readLine [(2, 93, 0)] σ (fun rv σ2 => G 80 [some (2, 93, 0), some (0, 0, a1), none] (rv.toList ++ []) σ2))) : G 69 [some (2, 93, 0), some (0, 0, a1), none] [] σ := fw_on hG [7, 9, 49, 69, 80, 118, 147, 156] 200 h
theorem fs_m_studio_118 {G : fw_K} {R : fw_KR} (hG : fw_cls st_m_studio R G) {a1 a2 : Int} {σ : ab_SG} (h : (fw_c 474 ≤ fw_c a2 → G 156 [some (2, 93, 0), some (0, 0, a1), some (0, 0, 0)] [] σ) ∧ (fw_c a2 < fw_c 474 → (fw_c 232 ≤ fw_c a2 → G 147 [some (2, 93, 0), some (0, 0, a1), some (0, 0, a2)] [(0, 0, 0), (0, 0, a2), (2, 95, 0)] σ) ∧ (fw_c a2 < fw_c 232 → (0 ≤ fw_c a2 ∧ fw_c a2 < ((232 : Nat) : Int)) ∧ (G 147 [some (2, 93, 0), some (0, 0, a1), some (0, 0, a2)] [(0, 0, σ 96 (fw_c a2).toNat), (0, 0, a2), (2, 95, 0)] σ)))) : G 118 [some (2, 93, 0), some (0, 0, a1), some (0, 0, a2)] [] σ := fw_on hG [7, 9, 49, 69, 80, 118, 147, 156] 200 h
theorem fs_m_studio_80 {G : fw_K} {R : fw_KR} (hG : fw_cls st_m_studio R G) {a1 b0 : Int} {σ : ab_SG} (h : (fw_c b0 ≠ 0 → G 69 [some (2, 93, 0), some (0, 0, a1 + 1), none] [] σ) ∧ (fw_c b0 = 0 → R (some (0, 0, (-1) - (σ 93 11))) σ)) : G 80 [some (2, 93, 0), some (0, 0, a1), none] [(0, 0, b0)] σ := fw_on hG [7, 9, 49, 69, 80, 118, 147, 156] 200 h
theorem fs_m_studio_156 {G : fw_K} {R : fw_KR} (hG : fw_cls st_m_studio R G) {a1 a2 : Int} {σ : ab_SG} (h : (fw_c 20 ≤ fw_c a2 → R (some (0, 0, a1)) (ab_ups σ 93 24 (fw_c 0))) ∧ (fw_c a2 < fw_c 20 → (0 ≤ fw_c a2 ∧ fw_c a2 < ((20 : Nat) : Int)) ∧ ((0 ≤ fw_c a2 ∧ fw_c a2 < ((20 : Nat) : Int)) ∧ True ∧ (G 156 [some (2, 93, 0), some (0, 0, a1), some (0, 0, a2 + 1)] [] (ab_ups σ 99 (fw_c a2).toNat (fw_d (σ 100 (fw_c a2).toNat))))))) : G 156 [some (2, 93, 0), some (0, 0, a1), some (0, 0, a2)] [] σ := fw_on hG [7, 9, 49, 69, 80, 118, 147, 156] 200 h
theorem fs_m_studio_147 {G : fw_K} {R : fw_KR} (hG : fw_cls st_m_studio R G) {a1 a2 b0 b1 : Int} {σ : ab_SG} (h : (0 ≤ fw_c b1 ∧ fw_c b1 < ((474 : Nat) : Int)) ∧ True ∧ (G 118 [some (2, 93, 0), some (0, 0, a1), some (0, 0, a2 + 1)] [] (ab_ups σ 95 (fw_c b1).toNat (fw_c b0)))) : G 147 [some (2, 93, 0), some (0, 0, a1), some (0, 0, a2)] [(0, 0, b0), (0, 0, b1), (2, 95, 0)] σ := fw_on hG [7, 9, 49, 69, 80, 118, 147, 156] 200 h
theorem st_l9 {G : fw_K} {K : fw_KR} (hG : fw_cls st_m_studio K G) {σ0 : ab_SG} (hk : ∀ σ' : ab_SG, ab_okM [(96, 1000000)] σ0 σ' → (∀ j : Nat, j < 232 → σ' 96 j = 0) → G 9 [some (2, 93, 0), some (0, 0, 232), none] [] σ') :
    ∀ (f i : Nat) (σ : ab_SG), i + f = 232 → ab_okM [(96, 1000000)] σ0 σ → (∀ j : Nat, j < i → σ 96 j = 0) → G 9 [some (2, 93, 0), some (0, 0, (i : Int)), none] [] σ := by
  intro f
  induction f with
  | zero =>
    intro i σ hi hM h
    have e : i = 232 := by omega
    subst e
    exact hk σ hM h
  | succ f ih =>
    intro i σ hi hM h
    have ei : fw_c (i : Int) = i := fw_c_id (by omega) (by omega)
    have e2 : fw_c 232 = 232 := fw_c_id (by decide) (by decide)
    refine fs_m_studio_9 hG ?_
    rw [ei, e2, fw_c0, Int.toNat_natCast]
    refine ⟨fun q => absurd q (by omega), fun _ => ⟨⟨Int.natCast_nonneg _, by omega⟩, trivial, ih (i + 1) _ (by omega) (fw_okM_upa hM (by decide)) (fun j hj => ?_)⟩⟩
    by_cases c : j = i
    · rw [c, ab_ups_eq]
    · rw [ab_ups_ne (fun z => c z.2)]; exact h j (by omega)
theorem st_l49 {G : fw_K} {K : fw_KR} (hG : fw_cls st_m_studio K G) {σ0 : ab_SG} (hk : ∀ σ' : ab_SG, ab_okM [(103, 1000000)] σ0 σ' → (∀ j : Nat, j < 5 → σ' 103 j = 0) → G 69 [some (2, 93, 0), some (0, 0, 0), none] [] σ') :
    ∀ (f i : Nat) (σ : ab_SG), i + f = 5 → ab_okM [(103, 1000000)] σ0 σ → (∀ j : Nat, j < i → σ 103 j = 0) → G 49 [some (2, 93, 0), some (0, 0, (i : Int)), none] [] σ := by
  intro f
  induction f with
  | zero =>
    intro i σ hi hM h
    have e : i = 5 := by omega
    subst e
    exact fs_m_studio_49 hG ⟨fun _ => hk σ hM h, fun q => absurd q (by rw [show ((5 : Nat) : Int) = 5 from rfl]; exact Int.lt_irrefl _)⟩
  | succ f ih =>
    intro i σ hi hM h
    have ei : fw_c (i : Int) = i := fw_c_id (by omega) (by omega)
    have e2 : fw_c 5 = 5 := fw_c_id (by decide) (by decide)
    refine fs_m_studio_49 hG ?_
    rw [ei, e2, fw_c0, Int.toNat_natCast]
    refine ⟨fun q => absurd q (by omega), fun _ => ⟨⟨Int.natCast_nonneg _, by omega⟩, trivial, ih (i + 1) _ (by omega) (fw_okM_upa hM (by decide)) (fun j hj => ?_)⟩⟩
    by_cases c : j = i
    · rw [c, ab_ups_eq]
    · rw [ab_ups_ne (fun z => c z.2)]; exact h j (by omega)
theorem st_l156 {G : fw_K} {K : fw_KR} (hG : fw_cls st_m_studio K G) {n : Int} {σ0 : ab_SG} (hk : ∀ σ' : ab_SG, ab_okM [(99, 1000000)] σ0 σ' → (∀ j : Nat, j < 20 → σ' 99 j = fw_d (σ0 100 j)) → K (some (0, 0, n)) (ab_ups σ' 93 24 0)) :
    ∀ (f i : Nat) (σ : ab_SG), i + f = 20 → ab_okM [(99, 1000000)] σ0 σ → (∀ j : Nat, j < i → σ 99 j = fw_d (σ0 100 j)) → G 156 [some (2, 93, 0), some (0, 0, n), some (0, 0, (i : Int))] [] σ := by
  intro f
  induction f with
  | zero =>
    intro i σ hi hM h
    have e : i = 20 := by omega
    subst e
    refine fs_m_studio_156 hG ⟨fun _ => ?_, fun q => absurd q (by rw [show ((20 : Nat) : Int) = 20 from rfl]; exact Int.lt_irrefl _)⟩
    rw [fw_c0]
    exact hk σ hM h
  | succ f ih =>
    intro i σ hi hM h
    have ei : fw_c (i : Int) = i := fw_c_id (by omega) (by omega)
    have e2 : fw_c 20 = 20 := fw_c_id (by decide) (by decide)
    have e3 : σ 100 = σ0 100 := fw_okM_c hM (by decide)
    refine fs_m_studio_156 hG ?_
    rw [ei, e2, Int.toNat_natCast, e3]
    refine ⟨fun q => absurd q (by omega), fun _ => ⟨⟨Int.natCast_nonneg _, by omega⟩, ⟨Int.natCast_nonneg _, by omega⟩, trivial, ih (i + 1) _ (by omega) (fw_okM_upa hM (by decide)) (fun j hj => ?_)⟩⟩
    by_cases c : j = i
    · rw [c, ab_ups_eq]
    · rw [ab_ups_ne (fun z => c z.2)]; exact h j (by omega)
theorem st_l118 {G : fw_K} {K : fw_KR} (hG : fw_cls st_m_studio K G) {n : Int} {σ0 : ab_SG} (hk : ∀ σ' : ab_SG, ab_okM [(95, 1000000)] σ0 σ' → (∀ j : Nat, j < 232 → σ' 95 j = fw_c (σ0 96 j)) → (∀ j : Nat, 232 ≤ j → j < 474 → σ' 95 j = 0) → G 156 [some (2, 93, 0), some (0, 0, n), some (0, 0, 0)] [] σ') :
    ∀ (f i : Nat) (σ : ab_SG), i + f = 474 → ab_okM [(95, 1000000)] σ0 σ → (∀ j : Nat, j < i → j < 232 → σ 95 j = fw_c (σ0 96 j)) → (∀ j : Nat, j < i → 232 ≤ j → σ 95 j = 0) → G 118 [some (2, 93, 0), some (0, 0, n), some (0, 0, (i : Int))] [] σ := by
  intro f
  induction f with
  | zero =>
    intro i σ hi hM h h2
    have e : i = 474 := by omega
    subst e
    exact fs_m_studio_118 hG ⟨fun _ => hk σ hM (fun j hj => h j (by omega) hj) (fun j hj hj2 => h2 j hj2 hj), fun q => absurd q (by rw [show ((474 : Nat) : Int) = 474 from rfl]; exact Int.lt_irrefl _)⟩
  | succ f ih =>
    intro i σ hi hM h h2
    have ei : fw_c (i : Int) = i := fw_c_id (by omega) (by omega)
    have e2 : fw_c 474 = 474 := fw_c_id (by decide) (by decide)
    have e5 : fw_c 232 = 232 := fw_c_id (by decide) (by decide)
    have e3 : σ 96 = σ0 96 := fw_okM_c hM (by decide)
    refine fs_m_studio_118 hG ?_
    rw [ei, e2, e5, Int.toNat_natCast, e3]
    refine ⟨fun q => absurd q (by omega), fun _ => ⟨fun q => fs_m_studio_147 hG ?_, fun q => ⟨⟨Int.natCast_nonneg _, by omega⟩, fs_m_studio_147 hG ?_⟩⟩⟩
    · rw [ei, fw_c0, Int.toNat_natCast]
      refine ⟨⟨Int.natCast_nonneg _, by omega⟩, trivial, ih (i + 1) _ (by omega) (fw_okM_upa hM (by decide)) (fun j hj hj2 => ?_) (fun j hj hj2 => ?_)⟩
      · rw [ab_ups_ne (fun z => by omega)]; exact h j (by omega) hj2
      · by_cases c : j = i
        · rw [c, ab_ups_eq]
        · rw [ab_ups_ne (fun z => c z.2)]; exact h2 j (by omega) hj2
    · rw [ei, Int.toNat_natCast]
      refine ⟨⟨Int.natCast_nonneg _, by omega⟩, trivial, ih (i + 1) _ (by omega) (fw_okM_upa hM (by decide)) (fun j hj hj2 => ?_) (fun j hj hj2 => ?_)⟩
      · by_cases c : j = i
        · rw [c, ab_ups_eq]
        · rw [ab_ups_ne (fun z => c z.2)]; exact h j (by omega) hj2
      · rw [ab_ups_ne (fun z => by omega)]; exact h2 j (by omega) hj2
/-- all lines -/
theorem st_l69 {G : fw_K} {K : fw_KR} (hG : fw_cls st_m_studio K G) {σ0 : ab_SG} {e : tk_E} (he : e.2.1 ≤ 940) : ∀ (f : Nat) (n : Int) (σ A : ab_SG) (p : Nat), 1800 ≤ p + 2 * f → ab_okM md_M σ0 σ → RM σ A e p → nb_is A →
    ((pr_all e f n A p).1.1 ≠ 0 → ∀ (v : Int) (σ' : ab_SG), ab_okM md_M σ0 σ' → σ' 93 10 = (pr_all e f n A p).1.1 → K (some (0, 0, v)) σ') →
    ((pr_all e f n A p).1.1 = 0 → ∀ (p' : Nat) (σ' : ab_SG), ab_okM md_M σ0 σ' → RM σ' (pr_all e f n A p).1.2.1 e p' → nb_is (pr_all e f n A p).1.2.1 → G 118 [some (2, 93, 0), some (0, 0, (pr_all e f n A p).2), some (0, 0, 0)] [] (ab_ups (ab_ups σ' 93 23 (fw_c (σ' 93 23 + 1))) 96 4 (fw_c (σ' 93 23 + 1)))) → G 69 [some (2, 93, 0), some (0, 0, n), none] [] σ := by
  intro f
  induction f with
  | zero =>
    intro n σ A p hp _ h _ _ _
    have := h.1.2.2.2.2.1
    exact absurd hp (by omega)
  | succ f ih =>
    intro n σ A p hp hM h hb h0 h1
    have mk := mg_kind h.1.1
    have e7 : fw_c (σ 93 7) = σ 93 7 := fw_c_id (by omega) (by omega)
    have t4 : (fw_c 4).toNat = 4 := by rw [fw_c_id (by decide) (by decide)]; rfl
    have u4 : 0 ≤ fw_c 4 ∧ fw_c 4 < ((232 : Nat) : Int) := by rw [fw_c_id (by decide) (by decide)]; decide
    unfold pr_all at h0 h1
    refine fs_m_studio_69 hG ?_
    rw [e7]
    refine ⟨fun q => ?_, fun q => ?_⟩
    · rw [if_pos (mk.2.2.2.1.mp q)] at h1
      rw [t4, fw_c_c]
      exact ⟨u4, trivial, h1 rfl p σ hM h hb⟩
    · rw [if_neg (fun y => q (mk.2.2.2.1.mpr y))] at h0 h1
      refine ⟨A, e, p, rfl, h, fun n0 σ' M h10 => ?_, fun n0 σ' M R => ?_⟩
      · rw [if_pos n0] at h0
        exact fs_m_studio_80 hG ⟨fun z => absurd fw_c0 z, fun _ => h0 n0 _ σ' (fw_okM_tr hM M (by decide)) h10⟩
      · rw [if_neg (fun y => y n0)] at h0 h1
        have g := pr_lns_p h.1.2.2.2.2.1 n0
        refine fs_m_studio_80 hG ⟨fun _ => ih (n + 1) σ' _ _ (by omega) (fw_okM_tr hM M (by decide)) R (pr_lns_nb h.2.1 hb n0) h0 h1, fun z => absurd (fw_c1.symm.trans z) (by decide)⟩
section
variable {l : Launch} {cy : Nat → ClassId} {ad wr cr : Nat → Nat} {D : va_G}
theorem fm_m_take (hinj : nn_inj ad) : fw_H l cy ad wr cr D 211 0 sp_m_take := fw_mk hinj (⟨"NameNotesModel", "take", "()I"⟩, prog_14_method_7_code, 2, (Option.some Jvm.ClassFile.FieldType.int), 0, true, 0) rfl rfl nn_KI20_ok nn_KJ20_ok nn_PF20_ok nn_PS20_ok (by decide +kernel) rfl rfl (fun _ h => absurd h List.not_mem_nil) (fun as σ K h => by
  obtain ⟨rfl, h⟩ := h
  refine ⟨rfl, fun G hG => fs_m_take_0 hG ?_⟩
  rw [fw_c0]
  exact h)
theorem fm_m_lay (hinj : nn_inj ad) : fw_H l cy ad wr cr D 210 0 sp_m_lay := fw_mk hinj (⟨"NameNotesModel", "lay", "()V"⟩, prog_14_method_28_code, 1, (Option.none : Option Jvm.ClassFile.FieldType), 0, true, 4) rfl rfl nn_KI20_ok nn_KJ20_ok nn_PF20_ok nn_PS20_ok (by decide +kernel) rfl rfl (fun _ h => absurd h List.not_mem_nil) (fun as σ K h => by
  obtain ⟨rfl, ho, h⟩ := h
  have t3 : (fw_c 3).toNat = 3 := by rw [fw_c_id (by decide) (by decide)]; rfl
  have u3 : 0 ≤ fw_c 3 ∧ fw_c 3 < ((474 : Nat) : Int) := by rw [fw_c_id (by decide) (by decide)]; decide
  have z9 : fw_c 9 = 9 := fw_c_id (by decide) (by decide)
  refine ⟨rfl, fun G hG => fs_m_lay_0 hG ?_⟩
  rw [t3, z9]
  rcases ho with ho | ho
  · rw [ho, fw_c0, fw_c1]
    refine ⟨fun _ => ⟨by decide, u3, trivial, h _ (fw_okM_ups (fw_okM_ups (fw_okM_refl _ _) (by decide)) (by decide)) ⟨?_, fun _ => ab_ups_eq, fun z => absurd ho z⟩⟩, fun z => absurd rfl z⟩
    rw [ab_ups_ne (by decide), ab_ups_eq]
  · rw [ho, fw_c1]
    exact ⟨fun z => absurd z (by decide), fun _ => h σ (fw_okM_refl _ _) ⟨ho, fun z => absurd (ho.symm.trans z) (by decide), fun _ => rfl⟩⟩)
theorem fm_m_begin (hinj : nn_inj ad) : fw_H l cy ad wr cr D 209 2 sp_m_begin := fw_mk hinj (⟨"NameNotesModel", "begin", "(I)V"⟩, prog_14_method_27_code, 2, (Option.none : Option Jvm.ClassFile.FieldType), 1, true, 4) rfl rfl nn_KI20_ok nn_KJ20_ok nn_PF20_ok nn_PS20_ok (by decide +kernel) rfl rfl (List.forall_mem_cons.mpr ⟨fw_row nn_PM20_ok (x := 182) (k := 0) (mn := 212) (np := 0) (ob := true) (ci := 11) (⟨"NameNotesModel", "go", "()V"⟩, prog_14_method_17_code, 5, (Option.none : Option Jvm.ClassFile.FieldType), 0, true, 4) rfl (by decide +kernel) rfl rfl (by decide) (fun _ => ⟨_, _, rfl⟩) (fm_m_go hinj), (List.forall_mem_cons.mpr ⟨fw_row nn_PM20_ok (x := 188) (k := 0) (mn := 210) (np := 0) (ob := true) (ci := 11) (⟨"NameNotesModel", "lay", "()V"⟩, prog_14_method_28_code, 1, (Option.none : Option Jvm.ClassFile.FieldType), 0, true, 4) rfl (by decide +kernel) rfl rfl (by decide) (fun _ => ⟨_, _, rfl⟩) (fm_m_lay hinj), (List.forall_mem_cons.mpr ⟨fw_row nn_PM20_ok (x := 191) (k := 0) (mn := 211) (np := 0) (ob := true) (ci := 11) (⟨"NameNotesModel", "take", "()I"⟩, prog_14_method_7_code, 2, (Option.some Jvm.ClassFile.FieldType.int), 0, true, 0) rfl (by decide +kernel) rfl rfl (by decide) (fun _ => ⟨_, _, rfl⟩) (fm_m_take hinj), (fun _ h => absurd h List.not_mem_nil)⟩)⟩)⟩) (fun as σ K h => by
  obtain ⟨x, t, rfl, hx, h2, ht, ho, h⟩ := h
  have ex : fw_c x = x := fw_c_id (by omega) (by omega)
  have e2 : fw_c (σ 93 2) = σ 93 2 := fw_c_id (by omega) (by omega)
  refine ⟨rfl, fun G hG => fs_m_begin_0 hG ⟨rfl, ho, fun σ1 M1 L1 => fs_m_begin_9 hG ⟨rfl, ?_⟩⟩⟩
  have N1 : ab_okM bg_M σ σ1 := fw_okM_tr (fw_okM_ups (fw_okM_refl _ _) (by decide)) M1 (by decide)
  have b2 : σ1 93 2 = σ 93 2 := (M1 93 2 (by decide)).trans (ab_ups_ne (by decide))
  have b0 : σ1 93 0 = 0 := (M1 93 0 (by decide)).trans (ab_ups_eq.trans fw_c0)
  have e94 : σ1 94 = σ 94 := (fw_okM_c M1 (by decide)).trans (ab_ups_row (by decide))
  have L : ly_is σ σ1 := L1
  rw [b2]
  refine fs_m_begin_14 hG ?_
  rw [e2, ex, fw_c0]
  have g3 : ab_ups (ab_ups (ab_ups (ab_ups (ab_ups σ1 93 2 0) 93 3 (σ 93 2)) 93 4 x) 93 10 0) 93 5 0 93 3 = σ 93 2 := by rw [ab_ups_ne (by decide), ab_ups_ne (by decide), ab_ups_ne (by decide), ab_ups_eq]
  have g4 : ab_ups (ab_ups (ab_ups (ab_ups (ab_ups σ1 93 2 0) 93 3 (σ 93 2)) 93 4 x) 93 10 0) 93 5 0 93 4 = x := by rw [ab_ups_ne (by decide), ab_ups_ne (by decide), ab_ups_eq]
  have g5 : ab_ups (ab_ups (ab_ups (ab_ups (ab_ups σ1 93 2 0) 93 3 (σ 93 2)) 93 4 x) 93 10 0) 93 5 0 93 5 = 0 := ab_ups_eq
  have g10 : ab_ups (ab_ups (ab_ups (ab_ups (ab_ups σ1 93 2 0) 93 3 (σ 93 2)) 93 4 x) 93 10 0) 93 5 0 93 10 = 0 := by rw [ab_ups_ne (by decide), ab_ups_eq]
  have g2 : ab_ups (ab_ups (ab_ups (ab_ups (ab_ups σ1 93 2 0) 93 3 (σ 93 2)) 93 4 x) 93 10 0) 93 5 0 93 2 = 0 := by rw [ab_ups_ne (by decide), ab_ups_ne (by decide), ab_ups_ne (by decide), ab_ups_ne (by decide), ab_ups_eq]
  have g0 : ab_ups (ab_ups (ab_ups (ab_ups (ab_ups σ1 93 2 0) 93 3 (σ 93 2)) 93 4 x) 93 10 0) 93 5 0 93 0 = 0 := by rw [ab_ups_ne (by decide), ab_ups_ne (by decide), ab_ups_ne (by decide), ab_ups_ne (by decide), ab_ups_ne (by decide), b0]
  have g22 : ab_ups (ab_ups (ab_ups (ab_ups (ab_ups σ1 93 2 0) 93 3 (σ 93 2)) 93 4 x) 93 10 0) 93 5 0 93 22 = 1 := by rw [ab_ups_ne (by decide), ab_ups_ne (by decide), ab_ups_ne (by decide), ab_ups_ne (by decide), ab_ups_ne (by decide), L.1]
  have g95 : ab_ups (ab_ups (ab_ups (ab_ups (ab_ups σ1 93 2 0) 93 3 (σ 93 2)) 93 4 x) 93 10 0) 93 5 0 95 = σ1 95 := by rw [ab_ups_row (by decide), ab_ups_row (by decide), ab_ups_row (by decide), ab_ups_row (by decide), ab_ups_row (by decide)]
  have g94 : ab_ups (ab_ups (ab_ups (ab_ups (ab_ups σ1 93 2 0) 93 3 (σ 93 2)) 93 4 x) 93 10 0) 93 5 0 94 = σ 94 := by rw [ab_ups_row (by decide), ab_ups_row (by decide), ab_ups_row (by decide), ab_ups_row (by decide), ab_ups_row (by decide), e94]
  have N2 : ab_okM bg_M σ (ab_ups (ab_ups (ab_ups (ab_ups (ab_ups σ1 93 2 0) 93 3 (σ 93 2)) 93 4 x) 93 10 0) 93 5 0) := fw_okM_ups (fw_okM_ups (fw_okM_ups (fw_okM_ups (fw_okM_ups N1 (by decide)) (by decide)) (by decide)) (by decide)) (by decide)
  generalize ab_ups (ab_ups (ab_ups (ab_ups (ab_ups σ1 93 2 0) 93 3 (σ 93 2)) 93 4 x) 93 10 0) 93 5 0 = σ2 at g3 g4 g5 g10 g2 g0 g22 g95 g94 N2 ⊢
  have tp : mg_tp σ2 t := fun j hj => by
    rw [g3] at hj
    rw [g94]
    exact ht j hj
  refine ⟨t, rfl, by omega, tp, fun σ3 M3 S3 => fs_m_begin_36 hG ?_⟩
  have k3 : σ3 93 3 = σ 93 2 := (M3 93 3 (by decide)).trans g3
  have k4 : σ3 93 4 = x := (M3 93 4 (by decide)).trans g4
  rw [g3, g4, g5] at S3
  refine h σ3 (fw_okM_tr N2 M3 (by decide)) ⟨S3, mg_tp_M tp M3 (by decide) (M3 93 3 (by decide)), ?_, k4, Nat.zero_le _, (M3 93 10 (by decide)).trans g10, ?_⟩ ⟨(M3 93 22 (by decide)).trans g22, fun z => ?_, fun z => ?_⟩ ((M3 93 2 (by decide)).trans g2) ((M3 93 0 (by decide)).trans g0)
  · rw [k3]; show σ 93 2 = (((σ 93 2).toNat : Nat) : Int); omega
  · rw [k3, k4]; omega
  · rw [show σ3 95 = σ2 95 from fw_okM_c M3 (by decide), g95]; exact L.2.1 z
  · rw [show σ3 95 = σ2 95 from fw_okM_c M3 (by decide), g95]; exact L.2.2 z)
theorem fm_m_studio (hinj : nn_inj ad) : fw_H l cy ad wr cr D 208 6 sp_m_studio := fw_mk hinj (⟨"NameNotesModel", "studio", "()I"⟩, prog_14_method_39_code, 3, (Option.some Jvm.ClassFile.FieldType.int), 0, true, 0) rfl rfl nn_KI20_ok nn_KJ20_ok nn_PF20_ok nn_PS20_ok (by decide +kernel) rfl rfl (List.forall_mem_cons.mpr ⟨fw_row nn_PM20_ok (x := 249) (k := 0) (mn := 209) (np := 1) (ob := true) (ci := 11) (⟨"NameNotesModel", "begin", "(I)V"⟩, prog_14_method_27_code, 2, (Option.none : Option Jvm.ClassFile.FieldType), 1, true, 4) rfl (by decide +kernel) rfl rfl (by decide) (fun _ => ⟨_, _, rfl⟩) (fm_m_begin hinj), (List.forall_mem_cons.mpr ⟨fw_row nn_PM20_ok (x := 252) (k := 0) (mn := 216) (np := 0) (ob := true) (ci := 11) (⟨"NameNotesModel", "readLine", "()Z"⟩, prog_14_method_38_code, 2, (Option.some Jvm.ClassFile.FieldType.boolean), 0, true, 1) rfl (by decide +kernel) rfl rfl (by decide) (fun _ => ⟨_, _, rfl⟩) (fm_m_readLine hinj), (fun _ h => absurd h List.not_mem_nil)⟩)⟩) (fun as σ K h => by
  obtain ⟨t, A, rfl, h2, ht, ho, hA, hA2, h0, h1⟩ := h
  unfold pr_read at h0 h1
  have e5 : fw_c 232 = 232 := fw_c_id (by decide) (by decide)
  have z9 : fw_c 9 = 9 := fw_c_id (by decide) (by decide)
  have t3 : (fw_c 3).toNat = 3 := by rw [fw_c_id (by decide) (by decide)]; rfl
  have u3 : 0 ≤ fw_c 3 ∧ fw_c 3 < ((232 : Nat) : Int) := by rw [fw_c_id (by decide) (by decide)]; decide
  have hn : (σ 93 2).toNat ≤ 940 := by omega
  generalize hN : (σ 93 2).toNat = n at h0 h1 hn
  refine ⟨rfl, fun G hG => fs_m_studio_0 hG ⟨900, t, rfl, by decide, h2, ht, ho, fun σ1 M1 S1 L1 b2 b0 => fs_m_studio_7 hG ?_⟩⟩
  rw [hN] at S1
  refine st_l9 hG (fun σ2 M2 Z2 => fs_m_studio_9 hG ⟨fun _ => ?_, fun q => absurd q (Int.lt_irrefl _)⟩) 232 0 σ1 rfl (fw_okM_refl _ _) (fun j hj => absurd hj (Nat.not_lt_zero _))
  rw [t3, z9, fw_c0]
  refine ⟨u3, trivial, ?_⟩
  have N3 : ab_okM ((93, 25) :: (93, 26) :: [(96, 1000000)]) σ1 (ab_ups (ab_ups (ab_ups σ2 96 3 9) 93 25 0) 93 26 0) := fw_okM_ups (fw_okM_ups (fw_okM_upa (fw_okM_tr (fw_okM_refl _ _) M2 (by decide)) (by decide)) (by decide)) (by decide)
  have S3 : mt_is (ab_ups (ab_ups (ab_ups σ2 96 3 9) 93 25 0) 93 26 0) (t, n, 900) 0 := by
    have q2 : mt_is σ2 (t, n, 900) 0 := by
      have e93 : σ2 93 = σ1 93 := fw_okM_c M2 (by decide)
      have e94 : σ2 94 = σ1 94 := fw_okM_c M2 (by decide)
      unfold mt_is mg_is mg_tp at S1 ⊢
      rw [e93, e94]
      exact S1
    exact mt_ups (mt_ups (mt_ups q2 (Or.inl ⟨by decide, by decide⟩)) (Or.inr ⟨rfl, by decide⟩)) (Or.inr ⟨rfl, by decide⟩)
  have z96 : ∀ j : Nat, j < 232 → j ≠ 3 → ab_ups (ab_ups (ab_ups σ2 96 3 9) 93 25 0) 93 26 0 96 j = 0 := fun j hj hj3 => by
    rw [ab_ups_ne (fun z => absurd z.1 (by decide)), ab_ups_ne (fun z => absurd z.1 (by decide)), ab_ups_ne (fun z => hj3 z.2)]; exact Z2 j hj
  have z963 : ab_ups (ab_ups (ab_ups σ2 96 3 9) 93 25 0) 93 26 0 96 3 = 9 := by rw [ab_ups_ne (by decide), ab_ups_ne (by decide), ab_ups_eq]
  have z25 : ab_ups (ab_ups (ab_ups σ2 96 3 9) 93 25 0) 93 26 0 93 25 = 0 := by rw [ab_ups_ne (by decide), ab_ups_eq]
  have z26 : ab_ups (ab_ups (ab_ups σ2 96 3 9) 93 25 0) 93 26 0 93 26 = 0 := ab_ups_eq
  generalize ab_ups (ab_ups (ab_ups σ2 96 3 9) 93 25 0) 93 26 0 = σ3 at N3 S3 z96 z963 z25 z26 ⊢
  refine st_l49 hG (fun σ4 M4 Z4 => ?_) 5 0 σ3 rfl (fw_okM_refl _ _) (fun j hj => absurd hj (Nat.not_lt_zero _))
  have S4 : mt_is σ4 (t, n, 900) 0 := by
    have e93 : σ4 93 = σ3 93 := fw_okM_c M4 (by decide)
    have e94 : σ4 94 = σ3 94 := fw_okM_c M4 (by decide)
    unfold mt_is mg_is mg_tp at S3 ⊢
    rw [e93, e94]
    exact S3
  have e96 : σ4 96 = σ3 96 := fw_okM_c M4 (by decide)
  have e93 : σ4 93 = σ3 93 := fw_okM_c M4 (by decide)
  have hnb := rl_nb hA
  obtain ⟨⟨a11, a12, a13, a14, a55, a56, -, -⟩, a64, a3, a4, -⟩ := hA
  have hI : RI A := ⟨by rw [a11]; decide, by rw [a12]; decide, by rw [a13]; decide, hA2.1, hA2.2.1, hA2.2.2.1, hA2.2.2.2, by rw [a4]; decide⟩
  have R4 : RM σ4 A (t, n, 900) 0 := by
    refine ⟨S4, hI, rn_n_is hI ⟨?_, ?_, ?_, fun j hj => ?_, fun j hj => ?_, fun j hj => ?_⟩, ?_, fun x hx => ?_, fun c hc => ?_, fun j hj => ?_, fun j hj => ?_, fun j hj hj2 => a56 j hj, fun j hj => ?_, ?_, ?_⟩
    · rw [e96, z96 0 (by decide) (by decide), a11]
    · rw [e96, z96 1 (by decide) (by decide), a12]
    · rw [e96, z96 2 (by decide) (by decide), a13]
    · rw [a11] at hj; exact absurd hj (by omega)
    · rw [a12] at hj; exact absurd hj (by omega)
    · rw [a13] at hj; exact absurd hj (by omega)
    · rw [e96, z963, a14]
    · rw [a11] at hx; exact absurd hx (by omega)
    · rw [a12] at hc; exact absurd hc (by omega)
    · rw [e96, z96 _ (by omega) (by omega), a55 j hj]
    · rw [a13] at hj; exact absurd hj (by omega)
    · rw [Z4 j hj, a64 j hj]
    · rw [e93, z25, a3]
    · rw [e93, z26, a4]
  have N4 : ab_okM mf_M σ σ4 := fw_okM_tr (fw_okM_tr (fw_okM_tr (fw_okM_refl _ _) M1 (by decide)) N3 (by decide)) M4 (by decide)
  have d22 : σ4 93 22 = 1 := by rw [e93, N3 93 22 (by decide)]; exact L1.1
  have d2 : σ4 93 2 = 0 := by rw [e93, N3 93 2 (by decide)]; exact b2
  have d23 : σ4 93 23 = σ 93 23 := by rw [e93, N3 93 23 (by decide)]; exact M1 93 23 (by decide)
  have d95 : σ4 95 = σ1 95 := (fw_okM_c M4 (by decide)).trans (fw_okM_c N3 (by decide))
  refine st_l69 hG (e := (t, n, 900)) hn 900 0 σ4 A 0 (by decide) (fw_okM_refl _ _) R4 hnb (fun q v σ5 M5 h10 => h0 q v σ5 (fw_okM_tr N4 M5 (by decide)) h10 ((M5 93 2 (by decide)).trans d2) ⟨(M5 93 22 (by decide)).trans d22, fun z => ?_, fun z => ?_⟩) (fun q p5 σ5 M5 R5 B5 => ?_)
  · rw [show σ5 95 = σ4 95 from fw_okM_c M5 (by decide), d95]; exact L1.2.1 z
  · rw [show σ5 95 = σ4 95 from fw_okM_c M5 (by decide), d95]; exact L1.2.2 z
  have h1 := h1 q
  generalize (pr_all (t, n, 900) 900 0 A 0).1.2.1 = A5 at h1 R5 B5
  generalize (pr_all (t, n, 900) 900 0 A 0).2 = m at h1 ⊢
  have g10 : σ5 93 10 = 0 := R5.1.2.2.2.2.2.1
  have g2 : σ5 93 2 = 0 := (M5 93 2 (by decide)).trans d2
  have g22 : σ5 93 22 = 1 := (M5 93 22 (by decide)).trans d22
  have g23 : σ5 93 23 = σ 93 23 := (M5 93 23 (by decide)).trans d23
  have N5 : ab_okM ms_M σ σ5 := fw_okM_tr (fw_okM_tr (fw_okM_refl _ _) N4 (by decide)) M5 (by decide)
  rw [g23]
  have N6 : ab_okM ms_M σ (ab_ups (ab_ups σ5 93 23 (fw_c (σ 93 23 + 1))) 96 4 (fw_c (σ 93 23 + 1))) := fw_okM_upa (fw_okM_ups N5 (by decide)) (by decide)
  have hsr : sr_is (ab_ups (ab_ups σ5 93 23 (fw_c (σ 93 23 + 1))) 96 4 (fw_c (σ 93 23 + 1)) 96) (ab_ups (ab_ups σ5 93 23 (fw_c (σ 93 23 + 1))) 96 4 (fw_c (σ 93 23 + 1)) 100) A5 := by
    refine sr_cong R5.2.1 (fun j _ hj4 => ?_) (fun j _ => ?_) (sr_of R5)
    · rw [ab_ups_ne (fun z => hj4 z.2), ab_ups_ne (fun z => absurd z.1 (by decide))]
    · rw [ab_ups_ne (fun z => absurd z.1 (by decide)), ab_ups_ne (fun z => absurd z.1 (by decide))]
  have w10 : ab_ups (ab_ups σ5 93 23 (fw_c (σ 93 23 + 1))) 96 4 (fw_c (σ 93 23 + 1)) 93 10 = 0 := by rw [ab_ups_ne (by decide), ab_ups_ne (by decide), g10]
  have w2 : ab_ups (ab_ups σ5 93 23 (fw_c (σ 93 23 + 1))) 96 4 (fw_c (σ 93 23 + 1)) 93 2 = 0 := by rw [ab_ups_ne (by decide), ab_ups_ne (by decide), g2]
  have w22 : ab_ups (ab_ups σ5 93 23 (fw_c (σ 93 23 + 1))) 96 4 (fw_c (σ 93 23 + 1)) 93 22 = 1 := by rw [ab_ups_ne (by decide), ab_ups_ne (by decide), g22]
  have w23 : ab_ups (ab_ups σ5 93 23 (fw_c (σ 93 23 + 1))) 96 4 (fw_c (σ 93 23 + 1)) 93 23 = fw_c (σ 93 23 + 1) := by rw [ab_ups_ne (by decide), ab_ups_eq]
  have w964 : ab_ups (ab_ups σ5 93 23 (fw_c (σ 93 23 + 1))) 96 4 (fw_c (σ 93 23 + 1)) 96 4 = fw_c (σ 93 23 + 1) := ab_ups_eq
  generalize ab_ups (ab_ups σ5 93 23 (fw_c (σ 93 23 + 1))) 96 4 (fw_c (σ 93 23 + 1)) = σ6 at N6 hsr w10 w2 w22 w23 w964 ⊢
  refine st_l118 hG (σ0 := σ6) (fun σ7 M7 c7 z7 => st_l156 hG (σ0 := σ7) (fun σ8 M8 c8 => h1 _ ?_) 20 0 σ7 rfl (fw_okM_refl _ _) (fun j hj => absurd hj (Nat.not_lt_zero _))) 474 0 σ6 rfl (fw_okM_refl _ _) (fun j hj => absurd hj (Nat.not_lt_zero _)) (fun j hj => absurd hj (Nat.not_lt_zero _))
  have o93 : ∀ j : Nat, j ≠ 24 → ab_ups σ8 93 24 0 93 j = σ6 93 j := fun j hj => by rw [ab_ups_ne (fun z => hj z.2), show σ8 93 = σ7 93 from fw_okM_c M8 (by decide), show σ7 93 = σ6 93 from fw_okM_c M7 (by decide)]
  have o95 : ab_ups σ8 93 24 0 95 = σ7 95 := (ab_ups_row (by decide)).trans (fw_okM_c M8 (by decide))
  have o99 : ab_ups σ8 93 24 0 99 = σ8 99 := ab_ups_row (by decide)
  have o100 : σ7 100 = σ6 100 := fw_okM_c M7 (by decide)
  refine ⟨fw_okM_ups (fw_okM_tr (fw_okM_tr N6 M7 (by decide)) M8 (by decide)) (by decide), (o93 10 (by decide)).trans w10, (o93 2 (by decide)).trans w2, (o93 22 (by decide)).trans w22, ab_ups_eq, R5.2.1, B5, ?_, fun j hj hj2 => ?_, (o93 23 (by decide)).trans w23, ?_⟩
  · rw [o95, o99]
    refine sr_cong R5.2.1 (fun j hj _ => c7 j hj) (fun j hj => ?_) (sr_can R5.2.1 B5 hsr)
    rw [c8 j hj, o100]
  · rw [o95]; exact z7 j hj hj2
  · rw [o95, c7 4 (by decide), w964, fw_c_c])
end
