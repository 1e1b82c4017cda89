/-! an evening: the reference reads and judges it -/
def mp_M : ab_ML := (93, 10) :: (93, 11) :: (93, 13) :: go_M
def mp_no (σ : ab_SG) (f pl : Int) (K : fw_KR) : Prop := ∀ σ' : ab_SG, ab_okM mp_M σ σ' → σ' 93 10 = f → σ' 93 11 = pl → K (some (0, 0, 0)) σ'
theorem mp_bad {σ : ab_SG} {e : tk_E} {p : Nat} (hm : mg_is σ (tk e p)) {x : Int} {K : fw_KR} (hx : 1 ≤ x ∧ x ≤ 4) (k : ∀ σ' : ab_SG, ab_okM [(93, 10), (93, 11)] σ σ' → σ' 93 10 = (if σ 93 7 = 1 then 1 else x) → σ' 93 11 = ev_st e p → K (some (0, 0, 0)) σ') : sp_m_bad [(2, 93, 0), (0, 0, x)] σ K :=
  ⟨x, rfl, hx, (mg_kind hm).2.2.2.2, fun σ' M a b => k σ' M a (by rw [b, hm.1]; rfl)⟩
theorem ev_NM {M : ab_ML} {σ σ' A : ab_SG} (h : ab_okM M σ σ') (m : (M.all (fun q => !(q.1.beq 95)) && M.all (fun q => !(q.1.beq 99)) && mk_b M 93 22) = true) (hN : NM σ A) : NM σ' A := by
  rw [Bool.and_eq_true, Bool.and_eq_true] at m
  refine ⟨hN.1, hN.2.1, ?_⟩
  have e : mlN σ' = mlN σ := by
    funext j
    unfold mlN
    rw [mk_at h m.2, mk_row h m.1.1 j]
  rw [e, show σ' 99 = σ 99 from funext (mk_row h m.1.2)]
  exact hN.2.2
theorem NM_ly {σ σ' A : ab_SG} (M : ab_okM bg_M σ σ') (h : ly_is σ σ') (hN : NM σ A) : NM σ' A ∧ σ' 95 3 = A 49 14 := by
  have s : NM σ' A := ⟨hN.1, hN.2.1, sr_cong hN.1 (fun j hj _ => mlN_ly h (fun j hj h3 => M 95 j (fun q hq w => by
    have g : ∀ q ∈ bg_M, q.1 = 95 → q.2 = 3 := by decide
    have g2 := g q hq w.1
    rcases w.2 with y | y <;> omega)) j hj) (fun j _ => mk_row M (k := 99) (by decide) j) hN.2.2⟩
  refine ⟨s, ?_⟩
  have n3 : mlN σ' 3 = A 49 14 := s.2.2.2.2.2.1
  unfold mlN at n3
  rw [if_neg (fun z => by rw [h.1] at z; exact absurd z.1 (by decide))] at n3
  exact n3
/-- names of the studio, in the reference's row -/
def rm_k (σ A : ab_SG) (b k : Nat) (n : Int) : Prop := ∀ j : Nat, (j : Int) < n → rf_ok 7 (A k j) ∧ σ 99 (b + j) = rf_w 7 (A k j)
theorem rm_12 {σ A : ab_SG} (h : NM σ A) : rm_k σ A 9 58 (A 49 12) := h.2.2.2.2.2.2.2.2.2.2.2.1
theorem rm_13 {σ A : ab_SG} (h : NM σ A) : rm_k σ A 15 59 (A 49 13) := h.2.2.2.2.2.2.2.2.2.2.2.2
def sp_m_findIn99 : fw_SP := fun as σ K => ∃ (b n : Nat) (w : Int), as = [(2, 99, 0), (0, 0, (b : Int)), (0, 0, (n : Int)), (1, 0, w)] ∧ b + n ≤ 20 ∧ fw_d w = w ∧ (∀ j : Nat, j < n → fw_d (σ 99 (b + j)) = σ 99 (b + j)) ∧ K (some (0, 0, rw_fd (fun j => σ 99 (b + j)) w n 0)) σ
theorem mf_find {σ A : ab_SG} {e : tk_E} {p b k : Nat} {n : Int} {K : fw_KR} (hm : mt_is σ e p) (hq : (tk e p).1 = 2) (hn : 0 ≤ n ∧ n ≤ 9 ∧ b + n.toNat ≤ 20) (hr : rm_k σ A b k n) (h : K (some (0, 0, pr_ix A e k n p)) σ) : sp_m_findIn99 [(2, 99, 0), (0, 0, (b : Int)), (0, 0, n), (1, 0, σ 93 12)] σ K := by
  have en : ((n.toNat : Nat) : Int) = n := by omega
  obtain ⟨-, ok, e12⟩ := hm.1.2.2.2.2.1 hq
  have b1 := rf_w_in 7 (tk e p).2.2.2.1
  have hB := rf_B7
  have d1 : fw_d (σ 93 12) = σ 93 12 := by rw [e12]; exact fw_d_id (by omega) (by omega)
  refine ⟨b, n.toNat, _, by rw [en], hn.2.2, d1, fun j hj => ?_, ?_⟩
  · have b2 := rf_w_in 7 (A k j)
    rw [(hr j (by omega)).2]
    exact fw_d_id (by omega) (by omega)
  · have ef : rw_fd (fun j => σ 99 (b + j)) (σ 93 12) n.toNat 0 = pr_ix A e k n p := by
      rw [e12]
      exact rw_rf ok n.toNat 0 (fun j _ hj => hr j (by omega))
    rw [ef]
    exact h
def sp_m_isNumberP : fw_SP := fun as σ K => ∃ (a b : Int) (e : tk_E) (p : Nat), as = [(2, 93, 0), (0, 0, a), (0, 0, b)] ∧ (0 ≤ a ∧ a ≤ 99 ∧ 0 ≤ b ∧ b ≤ 99) ∧ mg_is σ (tk e p) ∧ (pr_nm e p a b ≠ 0 → mp_no σ (pr_nm e p a b) (ev_st e p) K) ∧
  (pr_nm e p a b = 0 → a ≤ (tk e p).2.2.2.2 → (tk e p).2.2.2.2 ≤ b → K (some (0, 0, 1)) (ab_ups σ 93 13 (tk e p).2.2.2.2))
def sp_m_readNumberP : fw_SP := fun as σ K => ∃ (a b : Int) (e : tk_E) (p : Nat), as = [(2, 93, 0), (0, 0, a), (0, 0, b)] ∧ (0 ≤ a ∧ a ≤ 99 ∧ 0 ≤ b ∧ b ≤ 99) ∧ mt_is σ e p ∧ (pr_nm e p a b ≠ 0 → mp_no σ (pr_nm e p a b) (ev_st e p) K) ∧
  (pr_nm e p a b = 0 → ∀ σ' : ab_SG, ab_okM ((93, 13) :: go_M) σ σ' → σ' 93 13 = (tk e p).2.2.2.2 → mt_is σ' e (tn e p) → K (some (0, 0, 1)) σ')
def sp_m_readEndP : fw_SP := fun as σ K => ∃ (e : tk_E) (p : Nat), as = [(2, 93, 0)] ∧ mt_is σ e p ∧ ((tk e p).1 ≠ 59 → mp_no σ 1 (ev_st e p) K) ∧ ((tk e p).1 = 59 → ∀ σ' : ab_SG, ab_okM go_M σ σ' → mt_is σ' e (tn e p) → K (some (0, 0, 1)) σ')
def jm_is (σ : ab_SG) (s : jg_T) : Prop := σ 93 44 = s.1 ∧ σ 93 45 = s.2.1 ∧ σ 93 46 = s.2.2.1 ∧ σ 93 47 = s.2.2.2.1 ∧ σ 93 48 = s.2.2.2.2.1 ∧ σ 93 49 = s.2.2.2.2.2
def sp_m_whyNot : fw_SP := fun as σ K => ∃ (A : ab_SG) (s : jg_T) (p n : Int), as = [(2, 93, 0), (0, 0, p), (0, 0, n)] ∧ jm_is σ s ∧ jg_B s ∧ (0 ≤ p ∧ p < 5) ∧ (0 ≤ n ∧ n ≤ 9) ∧ σ 95 3 = A 49 14 ∧ (1 ≤ A 49 14 ∧ A 49 14 ≤ 9) ∧ K (some (0, 0, jg_w A s p n)) σ
def jl_M : ab_ML := [(93, 44), (93, 45), (93, 46), (93, 47), (93, 48), (93, 49)]
def sp_m_judgeLine : fw_SP := fun as σ K => ∃ (A : ab_SG) (s : jg_T) (p n i : Int), as = [(2, 93, 0), (0, 0, p), (0, 0, n)] ∧ jm_is σ s ∧ s.1 = 0 ∧ jg_B s ∧ (0 ≤ p ∧ p < 5) ∧ (0 ≤ n ∧ n ≤ 9) ∧ σ 95 3 = A 49 14 ∧ (1 ≤ A 49 14 ∧ A 49 14 ≤ 9) ∧ (σ 93 43 = i ∧ 1 ≤ i ∧ i ≤ 400) ∧
  ∀ σ' : ab_SG, ab_okM jl_M σ σ' → jm_is σ' (jg_1 A s i p n) → K none σ'
def mb_M : ab_ML := (93, 43) :: (93, 44) :: (93, 45) :: (93, 46) :: (93, 47) :: (93, 48) :: (93, 49) :: mp_M
def sp_m_readBid : fw_SP := fun as σ K => ∃ (A : ab_SG) (e : tk_E) (p i : Nat) (s : jg_T), as = [(2, 93, 0)] ∧ NM σ A ∧ mt_is σ e p ∧ jm_is σ s ∧ jg_B s ∧ (σ 93 43 = (i : Int) + 1 ∧ i < 400) ∧ σ 95 3 = A 49 14 ∧
  ((ev_g A e p).1 ≠ 0 → ∀ σ' : ab_SG, ab_okM mb_M σ σ' → σ' 93 10 = (ev_g A e p).1 → σ' 93 11 = (ev_g A e p).2 → K (some (0, 0, 0)) σ') ∧
  ((ev_g A e p).1 = 0 → ∀ σ' : ab_SG, ab_okM mb_M σ σ' → mt_is σ' e (tn e (tn e (tn e p))) → jm_is σ' (jg_1 A s ((i : Int) + 1) (ev_p A e p) (ev_w e p)) → σ' 93 43 = ((i + 1 : Nat) : Int) + 1 → K (some (0, 0, 1)) σ')
def sp_m_readHeard : fw_SP := fun as σ K => ∃ (A : ab_SG) (e : tk_E), as = [(2, 93, 0)] ∧ NM σ A ∧ mt_is σ e 0 ∧
  ((ev_h A e).1 ≠ 0 → ∀ σ' : ab_SG, ab_okM ((93, 53) :: mp_M) σ σ' → σ' 93 10 = (ev_h A e).1 → σ' 93 11 = (ev_h A e).2 → K (some (0, 0, 0)) σ') ∧
  ((ev_h A e).1 = 0 → ∀ σ' : ab_SG, ab_okM ((93, 53) :: mp_M) σ σ' → mt_is σ' e (ev_q e 0) → σ' 93 53 = ev_c A e → K (some (0, 0, 1)) σ')
def mf_N : ab_ML := (93, 0) :: (93, 2) :: (93, 3) :: (93, 4) :: (93, 22) :: (95, 3) :: (93, 53) :: mb_M
def me_N : ab_ML := (117, 1000000) :: (93, 51) :: (93, 52) :: mf_N
def jh_is (σ : ab_SG) (s : jg_T) : Prop := σ 117 0 = s.1 ∧ σ 117 1 = s.2.2.1 ∧ σ 117 2 = s.2.2.2.1 ∧ σ 117 3 = s.2.2.2.2.1 ∧ σ 117 4 = s.2.2.2.2.2
def sp_m_evening : fw_SP := fun as σ K => ∃ (A : ab_SG) (t : Nat → Int), as = [(2, 93, 0)] ∧ (0 ≤ σ 93 2 ∧ σ 93 2 ≤ 940) ∧ tq_is σ t ∧ ly_ok σ ∧ NM σ A ∧
  ((ev_r A (t, (σ 93 2).toNat, 400)).1 ≠ 0 → ∀ σ' : ab_SG, ab_okM mf_N σ σ' → σ' 93 2 = 0 → ly_is σ σ' → σ' 93 10 = (ev_r A (t, (σ 93 2).toNat, 400)).1 → K (some (0, 0, v_ev A (t, (σ 93 2).toNat, 400))) σ') ∧
  ((ev_r A (t, (σ 93 2).toNat, 400)).1 = 0 → ∀ σ' : ab_SG, ab_okM me_N σ σ' → σ' 93 2 = 0 → ly_is σ σ' → σ' 93 10 = 0 → jh_is σ' (jg_n A (t, (σ 93 2).toNat, 400) (ev_r A (t, (σ 93 2).toNat, 400)).2.2) →
    σ' 93 51 = (if (jg_n A (t, (σ 93 2).toNat, 400) (ev_r A (t, (σ 93 2).toNat, 400)).2.2).1 = 0 ∧ (jg_n A (t, (σ 93 2).toNat, 400) (ev_r A (t, (σ 93 2).toNat, 400)).2.2).2.2.2.2.1 ≠ -1 then fw_c (σ 95 4) else -1) → σ' 93 52 = ev_c A (t, (σ 93 2).toNat, 400) → K (some (0, 0, v_ev A (t, (σ 93 2).toNat, 400))) σ')
abbrev fk_m_isNumberP : List fw_CR := [(168, 1, true, 11, 0, sp_m_bad), (171, 3, false, 0, 0, sp_m_isIn)]
abbrev st_m_isNumberP : fw_K → fw_KR → fw_K := fw_st vwCl nn_sh nn_kd fw_kv fw_wc (nn_KI20.map (fun x => x.1)) (nn_KJ20.map (fun x => x.1)) (nn_PF20.map (fun x => x.1)) (nn_PS20.map (fun x => x.1)) fk_m_isNumberP 1 nn_dt225 3 1
theorem fs_m_isNumberP_0 {G : fw_K} {R : fw_KR} (hG : fw_cls st_m_isNumberP R G) {x y : Int} {σ : ab_SG} (h : (fw_c (σ 93 7) = fw_c 3 → sp_m_isIn [(0, 0, σ 93 8), (0, 0, x), (0, 0, y)] σ (fun rv σ2 => G 23 [some (2, 93, 0), some (0, 0, x), some (0, 0, y)] (rv.toList ++ []) σ2)) ∧ (fw_c (σ 93 7) ≠ fw_c 3 → sp_m_bad [(2, 93, 0), (0, 0, 1)] σ (fun rv σ2 => G 13 [some (2, 93, 0), some (0, 0, x), some (0, 0, y)] (rv.toList ++ []) σ2))) : G 0 [some (2, 93, 0), some (0, 0, x), some (0, 0, y)] [] σ := fw_on hG [13, 23, 31] 200 h
theorem fs_m_isNumberP_23 {G : fw_K} {R : fw_KR} (hG : fw_cls st_m_isNumberP R G) {a1 a2 b0 : Int} {σ : ab_SG} (h : (fw_c b0 ≠ 0 → (0 ≤ fw_c 1 ∧ fw_c 1 ≤ 1) ∧ R (some (0, 0, 1)) (ab_ups σ 93 13 (fw_c (σ 93 8)))) ∧ (fw_c b0 = 0 → sp_m_bad [(2, 93, 0), (0, 0, 2)] σ (fun rv σ2 => G 31 [some (2, 93, 0), some (0, 0, a1), some (0, 0, a2)] (rv.toList ++ []) σ2))) : G 23 [some (2, 93, 0), some (0, 0, a1), some (0, 0, a2)] [(0, 0, b0)] σ := fw_on hG [13, 23, 31] 200 h
theorem fs_m_isNumberP_13 {G : fw_K} {R : fw_KR} (hG : fw_cls st_m_isNumberP R G) {a1 a2 b0 : Int} {σ : ab_SG} (h : (0 ≤ fw_c b0 ∧ fw_c b0 ≤ 1) ∧ R (some (0, 0, b0)) σ) : G 13 [some (2, 93, 0), some (0, 0, a1), some (0, 0, a2)] [(0, 0, b0)] σ := fw_on hG [13, 23, 31] 200 h
theorem fs_m_isNumberP_31 {G : fw_K} {R : fw_KR} (hG : fw_cls st_m_isNumberP R G) {a1 a2 b0 : Int} {σ : ab_SG} (h : (0 ≤ fw_c b0 ∧ fw_c b0 ≤ 1) ∧ R (some (0, 0, b0)) σ) : G 31 [some (2, 93, 0), some (0, 0, a1), some (0, 0, a2)] [(0, 0, b0)] σ := fw_on hG [13, 23, 31] 200 h
abbrev fk_m_readNumberP : List fw_CR := [(178, 2, true, 11, 1, sp_m_isNumberP), (182, 0, true, 11, 1, sp_m_go)]
abbrev st_m_readNumberP : fw_K → fw_KR → fw_K := fw_st vwCl nn_sh nn_kd fw_kv fw_wc (nn_KI20.map (fun x => x.1)) (nn_KJ20.map (fun x => x.1)) (nn_PF20.map (fun x => x.1)) (nn_PS20.map (fun x => x.1)) fk_m_readNumberP 2 nn_dt227 3 1
theorem fs_m_readNumberP_0 {G : fw_K} {R : fw_KR} (hG : fw_cls st_m_readNumberP R G) {x y : Int} {σ : ab_SG} (h : sp_m_isNumberP [(2, 93, 0), (0, 0, x), (0, 0, y)] σ (fun rv σ2 => G 6 [some (2, 93, 0), some (0, 0, x), some (0, 0, y)] (rv.toList ++ []) σ2)) : G 0 [some (2, 93, 0), some (0, 0, x), some (0, 0, y)] [] σ := fw_on hG [6, 15] 200 h
theorem fs_m_readNumberP_6 {G : fw_K} {R : fw_KR} (hG : fw_cls st_m_readNumberP R G) {a1 a2 b0 : Int} {σ : ab_SG} (h : (fw_c b0 ≠ 0 → sp_m_go [(2, 93, 0)] σ (fun rv σ2 => G 15 [some (2, 93, 0), some (0, 0, a1), some (0, 0, a2)] (rv.toList ++ []) σ2)) ∧ (fw_c b0 = 0 → (0 ≤ fw_c 0 ∧ fw_c 0 ≤ 1) ∧ R (some (0, 0, 0)) σ)) : G 6 [some (2, 93, 0), some (0, 0, a1), some (0, 0, a2)] [(0, 0, b0)] σ := fw_on hG [6, 15] 200 h
theorem fs_m_readNumberP_15 {G : fw_K} {R : fw_KR} (hG : fw_cls st_m_readNumberP R G) {a1 a2 : Int} {σ : ab_SG} (h : (0 ≤ fw_c 1 ∧ fw_c 1 ≤ 1) ∧ R (some (0, 0, 1)) σ) : G 15 [some (2, 93, 0), some (0, 0, a1), some (0, 0, a2)] [] σ := fw_on hG [6, 15] 200 h
abbrev fk_m_readEndP : List fw_CR := [(168, 1, true, 11, 0, sp_m_bad), (182, 0, true, 11, 1, sp_m_go), (185, 1, true, 11, 0, sp_m_isSign)]
abbrev st_m_readEndP : fw_K → fw_KR → fw_K := fw_st vwCl nn_sh nn_kd fw_kv fw_wc (nn_KI20.map (fun x => x.1)) (nn_KJ20.map (fun x => x.1)) (nn_PF20.map (fun x => x.1)) (nn_PS20.map (fun x => x.1)) fk_m_readEndP 2 nn_dt235 1 1
theorem fs_m_readEndP_0 {G : fw_K} {R : fw_KR} (hG : fw_cls st_m_readEndP R G) {σ : ab_SG} (h : sp_m_isSign [(2, 93, 0), (0, 0, 59)] σ (fun rv σ2 => G 6 [some (2, 93, 0)] (rv.toList ++ []) σ2)) : G 0 [some (2, 93, 0)] [] σ := fw_on hG [6, 14, 19] 200 h
theorem fs_m_readEndP_6 {G : fw_K} {R : fw_KR} (hG : fw_cls st_m_readEndP R G) {b0 : Int} {σ : ab_SG} (h : (fw_c b0 ≠ 0 → sp_m_go [(2, 93, 0)] σ (fun rv σ2 => G 19 [some (2, 93, 0)] (rv.toList ++ []) σ2)) ∧ (fw_c b0 = 0 → sp_m_bad [(2, 93, 0), (0, 0, 1)] σ (fun rv σ2 => G 14 [some (2, 93, 0)] (rv.toList ++ []) σ2))) : G 6 [some (2, 93, 0)] [(0, 0, b0)] σ := fw_on hG [6, 14, 19] 200 h
theorem fs_m_readEndP_19 {G : fw_K} {R : fw_KR} (hG : fw_cls st_m_readEndP R G) {σ : ab_SG} (h : (0 ≤ fw_c 1 ∧ fw_c 1 ≤ 1) ∧ R (some (0, 0, 1)) σ) : G 19 [some (2, 93, 0)] [] σ := fw_on hG [6, 14, 19] 200 h
theorem fs_m_readEndP_14 {G : fw_K} {R : fw_KR} (hG : fw_cls st_m_readEndP R G) {b0 : Int} {σ : ab_SG} (h : (0 ≤ fw_c b0 ∧ fw_c b0 ≤ 1) ∧ R (some (0, 0, b0)) σ) : G 14 [some (2, 93, 0)] [(0, 0, b0)] σ := fw_on hG [6, 14, 19] 200 h
abbrev fk_m_findIn99 : List fw_CR := []
abbrev st_m_findIn99 : fw_K → fw_KR → fw_K := fw_st vwCl nn_sh nn_kd fw_kv fw_wc (nn_KI20.map (fun x => x.1)) (nn_KJ20.map (fun x => x.1)) (nn_PF20.map (fun x => x.1)) (nn_PS20.map (fun x => x.1)) fk_m_findIn99 0 nn_dt224 6 0
theorem fs_m_findIn99_0 {G : fw_K} {R : fw_KR} (hG : fw_cls st_m_findIn99 R G) {b n w : Int} {σ : ab_SG} (h : G 3 [some (2, 99, 0), some (0, 0, b), some (0, 0, n), some (1, 0, w), none, some (0, 0, 0)] [] σ) : G 0 [some (2, 99, 0), some (0, 0, b), some (0, 0, n), some (1, 0, w), none, none] [] σ := fw_on hG [3] 200 h
theorem fs_m_findIn99_3 {G : fw_K} {R : fw_KR} (hG : fw_cls st_m_findIn99 R G) {a1 a2 a3 a5 : Int} {σ : ab_SG} (h : (fw_c a2 ≤ fw_c a5 → R (some (0, 0, (-1))) σ) ∧ (fw_c a5 < fw_c a2 → (0 ≤ fw_c (a1 + a5) ∧ fw_c (a1 + a5) < ((20 : Nat) : Int)) ∧ ((fw_d (σ 99 (fw_c (a1 + a5)).toNat) ≠ fw_d a3 → G 3 [some (2, 99, 0), some (0, 0, a1), some (0, 0, a2), some (1, 0, a3), none, some (0, 0, a5 + 1)] [] σ) ∧ (fw_d (σ 99 (fw_c (a1 + a5)).toNat) = fw_d a3 → R (some (0, 0, a5)) σ)))) : G 3 [some (2, 99, 0), some (0, 0, a1), some (0, 0, a2), some (1, 0, a3), none, some (0, 0, a5)] [] σ := fw_on hG [3] 200 h
abbrev fk_m_whyNot : List fw_CR := []
abbrev st_m_whyNot : fw_K → fw_KR → fw_K := fw_st vwCl nn_sh nn_kd fw_kv fw_wc (nn_KI20.map (fun x => x.1)) (nn_KJ20.map (fun x => x.1)) (nn_PF20.map (fun x => x.1)) (nn_PS20.map (fun x => x.1)) fk_m_whyNot 0 nn_dt329 3 0
theorem fs_m_whyNot_0 {G : fw_K} {R : fw_KR} (hG : fw_cls st_m_whyNot R G) {p n : Int} {σ : ab_SG} (h : (fw_c (σ 93 48) = fw_c (-1) → (fw_c (σ 93 49) = fw_c (-1) → (fw_c p ≠ fw_c (σ 93 47) → G 39 [some (2, 93, 0), some (0, 0, p), some (0, 0, n)] [] σ) ∧ (fw_c p = fw_c (σ 93 47) → R (some (0, 0, 2)) σ)) ∧ (fw_c (σ 93 49) ≠ fw_c (-1) → (fw_c p = fw_c (σ 93 49) → G 39 [some (2, 93, 0), some (0, 0, p), some (0, 0, n)] [] σ) ∧ (fw_c p ≠ fw_c (σ 93 49) → R (some (0, 0, 2)) σ))) ∧ (fw_c (σ 93 48) ≠ fw_c (-1) → R (some (0, 0, 1)) σ)) : G 0 [some (2, 93, 0), some (0, 0, p), some (0, 0, n)] [] σ := fw_on hG [39, 66] 200 h
theorem fs_m_whyNot_39 {G : fw_K} {R : fw_KR} (hG : fw_cls st_m_whyNot R G) {a2 : Int} {o1 : Option ab_AV} {σ : ab_SG} (h : (fw_c a2 ≤ 0 → (fw_c (σ 93 46) ≠ 0 → R (some (0, 0, 0)) σ) ∧ (fw_c (σ 93 46) = 0 → R (some (0, 0, 4)) σ)) ∧ (0 < fw_c a2 → (fw_c (σ 93 46) ≠ 0 → G 66 [some (2, 93, 0), o1, some (0, 0, a2)] [(0, 0, (σ 93 46) - 1), (0, 0, a2)] σ) ∧ (fw_c (σ 93 46) = 0 → (0 ≤ fw_c 3 ∧ fw_c 3 < ((474 : Nat) : Int)) ∧ (G 66 [some (2, 93, 0), o1, some (0, 0, a2)] [(0, 0, σ 95 (fw_c 3).toNat), (0, 0, a2)] σ)))) : G 39 [some (2, 93, 0), o1, some (0, 0, a2)] [] σ := fw_on hG [39, 66] 200 h
theorem fs_m_whyNot_66 {G : fw_K} {R : fw_KR} (hG : fw_cls st_m_whyNot R G) {b0 b1 : Int} {o1 o2 : Option ab_AV} {σ : ab_SG} (h : (fw_c b1 ≤ fw_c b0 → R (some (0, 0, 0)) σ) ∧ (fw_c b0 < fw_c b1 → R (some (0, 0, 3)) σ)) : G 66 [some (2, 93, 0), o1, o2] [(0, 0, b0), (0, 0, b1)] σ := fw_on hG [39, 66] 200 h
abbrev fk_m_judgeLine : List fw_CR := [(439, 2, true, 11, 0, sp_m_whyNot)]
abbrev st_m_judgeLine : fw_K → fw_KR → fw_K := fw_st vwCl nn_sh nn_kd fw_kv fw_wc (nn_KI20.map (fun x => x.1)) (nn_KJ20.map (fun x => x.1)) (nn_PF20.map (fun x => x.1)) (nn_PS20.map (fun x => x.1)) fk_m_judgeLine 1 nn_dt328 4 4
theorem fs_m_judgeLine_0 {G : fw_K} {R : fw_KR} (hG : fw_cls st_m_judgeLine R G) {p n : Int} {σ : ab_SG} (h : sp_m_whyNot [(2, 93, 0), (0, 0, p), (0, 0, n)] σ (fun rv σ2 => G 7 [some (2, 93, 0), some (0, 0, p), some (0, 0, n), none] (rv.toList ++ [(2, 93, 0)]) σ2)) : G 0 [some (2, 93, 0), some (0, 0, p), some (0, 0, n), none] [] σ := fw_on hG [7] 200 h
theorem fs_m_judgeLine_7 {G : fw_K} {R : fw_KR} (hG : fw_cls st_m_judgeLine R G) {a1 a2 b0 : Int} {o3 : Option ab_AV} {σ : ab_SG} (h : (fw_c (fw_c b0) = 0 → (fw_c a2 ≠ 0 → R none (ab_ups (ab_ups (ab_ups (ab_ups σ 93 44 (fw_c b0)) 93 46 (fw_c a2)) 93 47 (fw_c a1)) 93 49 (fw_c (σ 93 47)))) ∧ (fw_c a2 = 0 → R none (ab_ups (ab_ups (ab_ups σ 93 44 (fw_c b0)) 93 48 (fw_c a1)) 93 49 (fw_c (-1))))) ∧ (fw_c (fw_c b0) ≠ 0 → R none (ab_ups (ab_ups σ 93 44 (fw_c b0)) 93 45 (fw_c (σ 93 43))))) : G 7 [some (2, 93, 0), some (0, 0, a1), some (0, 0, a2), o3] [(0, 0, b0), (2, 93, 0)] σ := fw_on hG [7] 200 h
abbrev fk_m_readBid : List fw_CR := [(168, 1, true, 11, 0, sp_m_bad), (182, 0, true, 11, 1, sp_m_go), (199, 0, true, 11, 2, sp_m_isName), (203, 4, false, 0, 0, sp_m_findIn99), (210, 2, true, 11, 2, sp_m_readNumberP), (225, 1, true, 11, 2, sp_m_isWord), (246, 0, true, 11, 2, sp_m_readEndP), (451, 2, true, 11, 1, sp_m_judgeLine)]
abbrev st_m_readBid : fw_K → fw_KR → fw_K := fw_st vwCl nn_sh nn_kd fw_kv fw_wc (nn_KI20.map (fun x => x.1)) (nn_KJ20.map (fun x => x.1)) (nn_PF20.map (fun x => x.1)) (nn_PS20.map (fun x => x.1)) fk_m_readBid 4 nn_dt327 3 1
theorem fs_m_readBid_0 {G : fw_K} {R : fw_KR} (hG : fw_cls st_m_readBid R G) {σ : ab_SG} (h : sp_m_isName [(2, 93, 0)] σ (fun rv σ2 => G 4 [some (2, 93, 0), none, none] (rv.toList ++ []) σ2)) : G 0 [some (2, 93, 0), none, none] [] σ := fw_on hG [4, 12, 32, 43, 48, 56, 63, 73, 83, 87, 105] 200 h
theorem fs_m_readBid_4 {G : fw_K} {R : fw_KR} (hG : fw_cls st_m_readBid R G) {b0 : Int} {o1 o2 : Option ab_AV} {σ : ab_SG} (h : (fw_c b0 ≠ 0 → (0 ≤ fw_c 2 ∧ fw_c 2 < ((474 : Nat) : Int)) ∧ (sp_m_findIn99 [(2, 99, 0), (0, 0, 15), (0, 0, σ 95 (fw_c 2).toNat), (1, 0, σ 93 12)] σ (fun rv σ2 => G 32 [some (2, 93, 0), o1, o2] (rv.toList ++ []) σ2))) ∧ (fw_c b0 = 0 → sp_m_bad [(2, 93, 0), (0, 0, 1)] σ (fun rv σ2 => G 12 [some (2, 93, 0), o1, o2] (rv.toList ++ []) σ2))) : G 4 [some (2, 93, 0), o1, o2] [(0, 0, b0)] σ := fw_on hG [4, 12, 32, 43, 48, 56, 63, 73, 83, 87, 105] 200 h
theorem fs_m_readBid_32 {G : fw_K} {R : fw_KR} (hG : fw_cls st_m_readBid R G) {b0 : Int} {o1 o2 : Option ab_AV} {σ : ab_SG} (h : (fw_c b0 ≠ fw_c (-1) → sp_m_go [(2, 93, 0)] σ (fun rv σ2 => G 48 [some (2, 93, 0), some (0, 0, b0), o2] (rv.toList ++ []) σ2)) ∧ (fw_c b0 = fw_c (-1) → sp_m_bad [(2, 93, 0), (0, 0, 3)] σ (fun rv σ2 => G 43 [some (2, 93, 0), some (0, 0, b0), o2] (rv.toList ++ []) σ2))) : G 32 [some (2, 93, 0), o1, o2] [(0, 0, b0)] σ := fw_on hG [4, 12, 32, 43, 48, 56, 63, 73, 83, 87, 105] 200 h
theorem fs_m_readBid_12 {G : fw_K} {R : fw_KR} (hG : fw_cls st_m_readBid R G) {b0 : Int} {o1 o2 : Option ab_AV} {σ : ab_SG} (h : (0 ≤ fw_c b0 ∧ fw_c b0 ≤ 1) ∧ R (some (0, 0, b0)) σ) : G 12 [some (2, 93, 0), o1, o2] [(0, 0, b0)] σ := fw_on hG [4, 12, 32, 43, 48, 56, 63, 73, 83, 87, 105] 200 h
theorem fs_m_readBid_48 {G : fw_K} {R : fw_KR} (hG : fw_cls st_m_readBid R G) {a1 : Int} {o2 : Option ab_AV} {σ : ab_SG} (h : sp_m_isWord [(2, 93, 0), (0, 0, 6)] σ (fun rv σ2 => G 56 [some (2, 93, 0), some (0, 0, a1), some (0, 0, 0)] (rv.toList ++ []) σ2)) : G 48 [some (2, 93, 0), some (0, 0, a1), o2] [] σ := fw_on hG [4, 12, 32, 43, 48, 56, 63, 73, 83, 87, 105] 200 h
theorem fs_m_readBid_43 {G : fw_K} {R : fw_KR} (hG : fw_cls st_m_readBid R G) {b0 : Int} {o1 o2 : Option ab_AV} {σ : ab_SG} (h : (0 ≤ fw_c b0 ∧ fw_c b0 ≤ 1) ∧ R (some (0, 0, b0)) σ) : G 43 [some (2, 93, 0), o1, o2] [(0, 0, b0)] σ := fw_on hG [4, 12, 32, 43, 48, 56, 63, 73, 83, 87, 105] 200 h
theorem fs_m_readBid_56 {G : fw_K} {R : fw_KR} (hG : fw_cls st_m_readBid R G) {a1 a2 b0 : Int} {σ : ab_SG} (h : (fw_c b0 = 0 → sp_m_readNumberP [(2, 93, 0), (0, 0, 1), (0, 0, 9)] σ (fun rv σ2 => G 73 [some (2, 93, 0), some (0, 0, a1), some (0, 0, a2)] (rv.toList ++ []) σ2)) ∧ (fw_c b0 ≠ 0 → sp_m_go [(2, 93, 0)] σ (fun rv σ2 => G 63 [some (2, 93, 0), some (0, 0, a1), some (0, 0, a2)] (rv.toList ++ []) σ2))) : G 56 [some (2, 93, 0), some (0, 0, a1), some (0, 0, a2)] [(0, 0, b0)] σ := fw_on hG [4, 12, 32, 43, 48, 56, 63, 73, 83, 87, 105] 200 h
theorem fs_m_readBid_73 {G : fw_K} {R : fw_KR} (hG : fw_cls st_m_readBid R G) {a1 b0 : Int} {o2 : Option ab_AV} {σ : ab_SG} (h : (fw_c b0 ≠ 0 → G 83 [some (2, 93, 0), some (0, 0, a1), some (0, 0, σ 93 13)] [] σ) ∧ (fw_c b0 = 0 → (0 ≤ fw_c 0 ∧ fw_c 0 ≤ 1) ∧ R (some (0, 0, 0)) σ)) : G 73 [some (2, 93, 0), some (0, 0, a1), o2] [(0, 0, b0)] σ := fw_on hG [4, 12, 32, 43, 48, 56, 63, 73, 83, 87, 105] 200 h
theorem fs_m_readBid_63 {G : fw_K} {R : fw_KR} (hG : fw_cls st_m_readBid R G) {a1 a2 : Int} {σ : ab_SG} (h : G 83 [some (2, 93, 0), some (0, 0, a1), some (0, 0, a2)] [] σ) : G 63 [some (2, 93, 0), some (0, 0, a1), some (0, 0, a2)] [] σ := fw_on hG [4, 12, 32, 43, 48, 56, 63, 73, 83, 87, 105] 200 h
theorem fs_m_readBid_83 {G : fw_K} {R : fw_KR} (hG : fw_cls st_m_readBid R G) {a1 a2 : Int} {σ : ab_SG} (h : sp_m_readEndP [(2, 93, 0)] σ (fun rv σ2 => G 87 [some (2, 93, 0), some (0, 0, a1), some (0, 0, a2)] (rv.toList ++ []) σ2)) : G 83 [some (2, 93, 0), some (0, 0, a1), some (0, 0, a2)] [] σ := fw_on hG [4, 12, 32, 43, 48, 56, 63, 73, 83, 87, 105] 200 h
theorem fs_m_readBid_87 {G : fw_K} {R : fw_KR} (hG : fw_cls st_m_readBid R G) {a1 a2 b0 : Int} {σ : ab_SG} (h : (fw_c b0 ≠ 0 → (fw_c (σ 93 44) ≠ 0 → G 105 [some (2, 93, 0), some (0, 0, a1), some (0, 0, a2)] [] σ) ∧ (fw_c (σ 93 44) = 0 → sp_m_judgeLine [(2, 93, 0), (0, 0, a1), (0, 0, a2)] σ (fun rv σ2 => G 105 [some (2, 93, 0), some (0, 0, a1), some (0, 0, a2)] (rv.toList ++ []) σ2))) ∧ (fw_c b0 = 0 → (0 ≤ fw_c 0 ∧ fw_c 0 ≤ 1) ∧ R (some (0, 0, 0)) σ)) : G 87 [some (2, 93, 0), some (0, 0, a1), some (0, 0, a2)] [(0, 0, b0)] σ := fw_on hG [4, 12, 32, 43, 48, 56, 63, 73, 83, 87, 105] 200 h
theorem fs_m_readBid_105 {G : fw_K} {R : fw_KR} (hG : fw_cls st_m_readBid R G) {o1 o2 : Option ab_AV} {σ : ab_SG} (h : (0 ≤ fw_c 1 ∧ fw_c 1 ≤ 1) ∧ R (some (0, 0, 1)) (ab_ups σ 93 43 (fw_c ((σ 93 43) + 1)))) : G 105 [some (2, 93, 0), o1, o2] [] σ := fw_on hG [4, 12, 32, 43, 48, 56, 63, 73, 83, 87, 105] 200 h
abbrev fk_m_readHeard : List fw_CR := [(168, 1, true, 11, 0, sp_m_bad), (182, 0, true, 11, 1, sp_m_go), (199, 0, true, 11, 2, sp_m_isName), (203, 4, false, 0, 0, sp_m_findIn99), (225, 1, true, 11, 2, sp_m_isWord), (246, 0, true, 11, 2, sp_m_readEndP)]
abbrev st_m_readHeard : fw_K → fw_KR → fw_K := fw_st vwCl nn_sh nn_kd fw_kv fw_wc (nn_KI20.map (fun x => x.1)) (nn_KJ20.map (fun x => x.1)) (nn_PF20.map (fun x => x.1)) (nn_PS20.map (fun x => x.1)) fk_m_readHeard 4 nn_dt326 1 1
theorem fs_m_readHeard_0 {G : fw_K} {R : fw_KR} (hG : fw_cls st_m_readHeard R G) {σ : ab_SG} (h : sp_m_isWord [(2, 93, 0), (0, 0, 1)] σ (fun rv σ2 => G 5 [some (2, 93, 0)] (rv.toList ++ []) σ2)) : G 0 [some (2, 93, 0)] [] σ := fw_on hG [5, 13, 18, 22, 30, 51, 67, 72, 76] 200 h
theorem fs_m_readHeard_5 {G : fw_K} {R : fw_KR} (hG : fw_cls st_m_readHeard R G) {b0 : Int} {σ : ab_SG} (h : (fw_c b0 ≠ 0 → sp_m_go [(2, 93, 0)] σ (fun rv σ2 => G 18 [some (2, 93, 0)] (rv.toList ++ []) σ2)) ∧ (fw_c b0 = 0 → sp_m_bad [(2, 93, 0), (0, 0, 1)] σ (fun rv σ2 => G 13 [some (2, 93, 0)] (rv.toList ++ []) σ2))) : G 5 [some (2, 93, 0)] [(0, 0, b0)] σ := fw_on hG [5, 13, 18, 22, 30, 51, 67, 72, 76] 200 h
theorem fs_m_readHeard_18 {G : fw_K} {R : fw_KR} (hG : fw_cls st_m_readHeard R G) {σ : ab_SG} (h : sp_m_isName [(2, 93, 0)] σ (fun rv σ2 => G 22 [some (2, 93, 0)] (rv.toList ++ []) σ2)) : G 18 [some (2, 93, 0)] [] σ := fw_on hG [5, 13, 18, 22, 30, 51, 67, 72, 76] 200 h
theorem fs_m_readHeard_13 {G : fw_K} {R : fw_KR} (hG : fw_cls st_m_readHeard R G) {b0 : Int} {σ : ab_SG} (h : (0 ≤ fw_c b0 ∧ fw_c b0 ≤ 1) ∧ R (some (0, 0, b0)) σ) : G 13 [some (2, 93, 0)] [(0, 0, b0)] σ := fw_on hG [5, 13, 18, 22, 30, 51, 67, 72, 76] 200 h
theorem fs_m_readHeard_22 {G : fw_K} {R : fw_KR} (hG : fw_cls st_m_readHeard R G) {b0 : Int} {σ : ab_SG} (h : (fw_c b0 ≠ 0 → (0 ≤ fw_c 1 ∧ fw_c 1 < ((474 : Nat) : Int)) ∧ (sp_m_findIn99 [(2, 99, 0), (0, 0, 9), (0, 0, σ 95 (fw_c 1).toNat), (1, 0, σ 93 12)] σ (fun rv σ2 => G 51 [some (2, 93, 0)] (rv.toList ++ [(2, 93, 0)]) σ2))) ∧ (fw_c b0 = 0 → sp_m_bad [(2, 93, 0), (0, 0, 1)] σ (fun rv σ2 => G 30 [some (2, 93, 0)] (rv.toList ++ []) σ2))) : G 22 [some (2, 93, 0)] [(0, 0, b0)] σ := fw_on hG [5, 13, 18, 22, 30, 51, 67, 72, 76] 200 h
theorem fs_m_readHeard_51 {G : fw_K} {R : fw_KR} (hG : fw_cls st_m_readHeard R G) {b0 : Int} {σ : ab_SG} (h : (fw_c (fw_c b0) ≠ fw_c (-1) → sp_m_go [(2, 93, 0)] (ab_ups σ 93 53 (fw_c b0)) (fun rv σ2 => G 72 [some (2, 93, 0)] (rv.toList ++ []) σ2)) ∧ (fw_c (fw_c b0) = fw_c (-1) → sp_m_bad [(2, 93, 0), (0, 0, 3)] (ab_ups σ 93 53 (fw_c b0)) (fun rv σ2 => G 67 [some (2, 93, 0)] (rv.toList ++ []) σ2))) : G 51 [some (2, 93, 0)] [(0, 0, b0), (2, 93, 0)] σ := fw_on hG [5, 13, 18, 22, 30, 51, 67, 72, 76] 200 h
theorem fs_m_readHeard_30 {G : fw_K} {R : fw_KR} (hG : fw_cls st_m_readHeard R G) {b0 : Int} {σ : ab_SG} (h : (0 ≤ fw_c b0 ∧ fw_c b0 ≤ 1) ∧ R (some (0, 0, b0)) σ) : G 30 [some (2, 93, 0)] [(0, 0, b0)] σ := fw_on hG [5, 13, 18, 22, 30, 51, 67, 72, 76] 200 h
theorem fs_m_readHeard_72 {G : fw_K} {R : fw_KR} (hG : fw_cls st_m_readHeard R G) {σ : ab_SG} (h : sp_m_readEndP [(2, 93, 0)] σ (fun rv σ2 => G 76 [some (2, 93, 0)] (rv.toList ++ []) σ2)) : G 72 [some (2, 93, 0)] [] σ := fw_on hG [5, 13, 18, 22, 30, 51, 67, 72, 76] 200 h
theorem fs_m_readHeard_67 {G : fw_K} {R : fw_KR} (hG : fw_cls st_m_readHeard R G) {b0 : Int} {σ : ab_SG} (h : (0 ≤ fw_c b0 ∧ fw_c b0 ≤ 1) ∧ R (some (0, 0, b0)) σ) : G 67 [some (2, 93, 0)] [(0, 0, b0)] σ := fw_on hG [5, 13, 18, 22, 30, 51, 67, 72, 76] 200 h
theorem fs_m_readHeard_76 {G : fw_K} {R : fw_KR} (hG : fw_cls st_m_readHeard R G) {b0 : Int} {σ : ab_SG} (h : (0 ≤ fw_c b0 ∧ fw_c b0 ≤ 1) ∧ R (some (0, 0, b0)) σ) : G 76 [some (2, 93, 0)] [(0, 0, b0)] σ := fw_on hG [5, 13, 18, 22, 30, 51, 67, 72, 76] 200 h
abbrev fk_m_evening : List fw_CR := [(249, 1, true, 11, 2, sp_m_begin), (457, 0, true, 11, 4, sp_m_readHeard), (460, 0, true, 11, 4, sp_m_readBid)]
abbrev st_m_evening : fw_K → fw_KR → fw_K := fw_st vwCl nn_sh nn_kd fw_kv fw_wc (nn_KI20.map (fun x => x.1)) (nn_KJ20.map (fun x => x.1)) (nn_PF20.map (fun x => x.1)) (nn_PS20.map (fun x => x.1)) fk_m_evening 5 nn_dt325 1 0
theorem fs_m_evening_0 {G : fw_K} {R : fw_KR} (hG : fw_cls st_m_evening R G) {σ : ab_SG} (h : sp_m_begin [(2, 93, 0), (0, 0, 400)] σ (fun rv σ2 => G 7 [some (2, 93, 0)] (rv.toList ++ []) σ2)) : G 0 [some (2, 93, 0)] [] σ := fw_on hG [7, 11, 57, 68, 154, 155] 200 h
theorem fs_m_evening_7 {G : fw_K} {R : fw_KR} (hG : fw_cls st_m_evening R G) {σ : ab_SG} (h : sp_m_readHeard [(2, 93, 0)] σ (fun rv σ2 => G 11 [some (2, 93, 0)] (rv.toList ++ []) σ2)) : G 7 [some (2, 93, 0)] [] σ := fw_on hG [7, 11, 57, 68, 154, 155] 200 h
theorem fs_m_evening_11 {G : fw_K} {R : fw_KR} (hG : fw_cls st_m_evening R G) {b0 : Int} {σ : ab_SG} (h : (fw_c b0 ≠ 0 → G 57 [some (2, 93, 0)] [] (ab_ups (ab_ups (ab_ups (ab_ups (ab_ups (ab_ups (ab_ups σ 93 43 (fw_c 1)) 93 44 (fw_c 0)) 93 45 (fw_c (-1))) 93 46 (fw_c 0)) 93 47 (fw_c (-1))) 93 48 (fw_c (-1))) 93 49 (fw_c (-1)))) ∧ (fw_c b0 = 0 → R (some (0, 0, (-2) - (σ 93 11))) σ)) : G 11 [some (2, 93, 0)] [(0, 0, b0)] σ := fw_on hG [7, 11, 57, 68, 154, 155] 200 h
set_option maxRecDepth 100000 in
theorem fs_m_evening_57 {G : fw_K} {R : fw_KR} (hG : fw_cls st_m_evening R G) {σ : ab_SG} (h : (fw_c (σ 93 7) = 0 → (0 ≤ fw_c 0 ∧ fw_c 0 < ((5 : Nat) : Int)) ∧ True ∧ ((0 ≤ fw_c 1 ∧ fw_c 1 < ((5 : Nat) : Int)) ∧ True ∧ ((0 ≤ fw_c 2 ∧ fw_c 2 < ((5 : Nat) : Int)) ∧ True ∧ ((0 ≤ fw_c 3 ∧ fw_c 3 < ((5 : Nat) : Int)) ∧ True ∧ ((0 ≤ fw_c 4 ∧ fw_c 4 < ((5 : Nat) : Int)) ∧ True ∧ ((fw_c (σ 93 44) ≠ 0 → G 154 [some (2, 93, 0)] [(2, 93, 0)] (ab_ups (ab_ups (ab_ups (ab_ups (ab_ups σ 117 (fw_c 0).toNat (fw_c (σ 93 44))) 117 (fw_c 1).toNat (fw_c (σ 93 46))) 117 (fw_c 2).toNat (fw_c (σ 93 47))) 117 (fw_c 3).toNat (fw_c (σ 93 48))) 117 (fw_c 4).toNat (fw_c (σ 93 49)))) ∧ (fw_c (σ 93 44) = 0 → (fw_c (σ 93 48) = fw_c (-1) → G 154 [some (2, 93, 0)] [(2, 93, 0)] (ab_ups (ab_ups (ab_ups (ab_ups (ab_ups σ 117 (fw_c 0).toNat (fw_c (σ 93 44))) 117 (fw_c 1).toNat (fw_c (σ 93 46))) 117 (fw_c 2).toNat (fw_c (σ 93 47))) 117 (fw_c 3).toNat (fw_c (σ 93 48))) 117 (fw_c 4).toNat (fw_c (σ 93 49)))) ∧ (fw_c (σ 93 48) ≠ fw_c (-1) → (0 ≤ fw_c 4 ∧ fw_c 4 < ((474 : Nat) : Int)) ∧ (G 155 [some (2, 93, 0)] [(0, 0, σ 95 (fw_c 4).toNat), (2, 93, 0)] (ab_ups (ab_ups (ab_ups (ab_ups (ab_ups σ 117 (fw_c 0).toNat (fw_c (σ 93 44))) 117 (fw_c 1).toNat (fw_c (σ 93 46))) 117 (fw_c 2).toNat (fw_c (σ 93 47))) 117 (fw_c 3).toNat (fw_c (σ 93 48))) 117 (fw_c 4).toNat (fw_c (σ 93 49)))))))))))) ∧ (fw_c (σ 93 7) ≠ 0 → sp_m_readBid [(2, 93, 0)] σ (fun rv σ2 => G 68 [some (2, 93, 0)] (rv.toList ++ []) σ2))) : G 57 [some (2, 93, 0)] [] σ := fw_on hG [7, 11, 57, 68, 154, 155] 200 h
theorem fs_m_evening_154 {G : fw_K} {R : fw_KR} (hG : fw_cls st_m_evening R G) {σ : ab_SG} (h : G 155 [some (2, 93, 0)] [(0, 0, (-1)), (2, 93, 0)] σ) : G 154 [some (2, 93, 0)] [(2, 93, 0)] σ := fw_on hG [7, 11, 57, 68, 154, 155] 200 h
theorem fs_m_evening_155 {G : fw_K} {R : fw_KR} (hG : fw_cls st_m_evening R G) {b0 : Int} {σ : ab_SG} (h : R (some (0, 0, σ 93 45)) (ab_ups (ab_ups σ 93 51 (fw_c b0)) 93 52 (fw_c (σ 93 53)))) : G 155 [some (2, 93, 0)] [(0, 0, b0), (2, 93, 0)] σ := fw_on hG [7, 11, 57, 68, 154, 155] 200 h
theorem fs_m_evening_68 {G : fw_K} {R : fw_KR} (hG : fw_cls st_m_evening R G) {b0 : Int} {σ : ab_SG} (h : (fw_c b0 ≠ 0 → G 57 [some (2, 93, 0)] [] σ) ∧ (fw_c b0 = 0 → R (some (0, 0, (-2) - (σ 93 11))) σ)) : G 68 [some (2, 93, 0)] [(0, 0, b0)] σ := fw_on hG [7, 11, 57, 68, 154, 155] 200 h
section
variable {l : Launch} {cy : Nat → ClassId} {ad wr cr : Nat → Nat} {D : va_G}
theorem fm_m_isNumberP (hinj : nn_inj ad) : fw_H l cy ad wr cr D 225 1 sp_m_isNumberP := fw_mk hinj (⟨"NameNotesModel", "isNumber", "(II)Z"⟩, prog_14_method_24_code, 3, (Option.some Jvm.ClassFile.FieldType.boolean), 2, true, 1) rfl rfl nn_KI20_ok nn_KJ20_ok nn_PF20_ok nn_PS20_ok (by decide +kernel) rfl rfl (List.forall_mem_cons.mpr ⟨fw_row nn_PM20_ok (x := 168) (k := 0) (mn := 221) (np := 1) (ob := true) (ci := 11) (⟨"NameNotesModel", "bad", "(I)Z"⟩, prog_14_method_23_code, 2, (Option.some Jvm.ClassFile.FieldType.boolean), 1, true, 1) rfl (by decide +kernel) rfl rfl (by decide) (fun _ => ⟨_, _, rfl⟩) (fm_m_bad hinj), (List.forall_mem_cons.mpr ⟨fw_row nn_PM20_ok (x := 171) (k := 0) (mn := 226) (np := 3) (ob := false) (ci := 0) (⟨"NameNotesModel", "isIn", "(III)Z"⟩, prog_14_method_8_code, 3, (Option.some Jvm.ClassFile.FieldType.boolean), 3, false, 1) rfl (by decide +kernel) rfl rfl (by decide) (fun q => by cases q) (fm_m_isIn hinj), (fun _ h => absurd h List.not_mem_nil)⟩)⟩) (fun as σ K h => by
  obtain ⟨a, b, e, p, rfl, hab, hm, h0, h1⟩ := h
  have mk := mg_kind hm
  have ek : fw_c (σ 93 7) = σ 93 7 := fw_c_id (by omega) (by omega)
  have e3 : fw_c 3 = 3 := fw_c_id (by decide) (by decide)
  have ea : fw_c a = a := fw_c_id (by omega) (by omega)
  have eb : fw_c b = b := fw_c_id (by omega) (by omega)
  unfold pr_nm at h0 h1
  refine ⟨rfl, fun G hG => fs_m_isNumberP_0 hG ?_⟩
  rw [ek, e3]
  refine ⟨fun q => ?_, fun q => ?_⟩
  · have k3 := mk.2.1.mp q
    obtain ⟨-, e8, n0, n1⟩ := hm.2.2.2.2.2.1 k3
    have ec : fw_c (tk e p).2.2.2.2 = (tk e p).2.2.2.2 := fw_c_id (by omega) (by omega)
    rw [if_pos k3] at h0 h1
    rw [e8]
    refine ⟨_, _, _, rfl, fs_m_isNumberP_23 hG ?_⟩
    rw [e8, ec, ea, eb]
    refine ⟨fun z => ⟨fw_11, ?_⟩, fun z => ?_⟩
    · have z := fw_bo_ne z
      rw [if_pos z] at h1
      exact h1 rfl z.1 z.2
    · have z := fw_bo_eq z
      rw [if_neg z] at h0
      refine mp_bad hm (by decide) (fun σ' hM h10 h11 => fs_m_isNumberP_31 hG ⟨fw_01, h0 (by decide) σ' (fw_okM_tr (fw_okM_refl _ _) hM (by decide)) ?_ h11⟩)
      rw [h10, if_neg (by omega)]
  · have k3 : ¬ (tk e p).1 = 3 := fun y => q (mk.2.1.mpr y)
    rw [if_neg k3] at h0
    refine mp_bad hm (by decide) (fun σ' hM h10 h11 => fs_m_isNumberP_13 hG ⟨fw_01, h0 (by decide) σ' (fw_okM_tr (fw_okM_refl _ _) hM (by decide)) ?_ h11⟩)
    rw [h10]
    split <;> rfl)
theorem fm_m_readNumberP (hinj : nn_inj ad) : fw_H l cy ad wr cr D 227 2 sp_m_readNumberP := fw_mk hinj (⟨"NameNotesModel", "readNumber", "(II)Z"⟩, prog_14_method_25_code, 3, (Option.some Jvm.ClassFile.FieldType.boolean), 2, true, 1) rfl rfl nn_KI20_ok nn_KJ20_ok nn_PF20_ok nn_PS20_ok (by decide +kernel) rfl rfl (List.forall_mem_cons.mpr ⟨fw_row nn_PM20_ok (x := 178) (k := 0) (mn := 225) (np := 2) (ob := true) (ci := 11) (⟨"NameNotesModel", "isNumber", "(II)Z"⟩, prog_14_method_24_code, 3, (Option.some Jvm.ClassFile.FieldType.boolean), 2, true, 1) rfl (by decide +kernel) rfl rfl (by decide) (fun _ => ⟨_, _, rfl⟩) (fm_m_isNumberP hinj), (List.forall_mem_cons.mpr ⟨fw_row nn_PM20_ok (x := 182) (k := 0) (mn := 212) (np := 0) (ob := true) (ci := 11) (⟨"NameNotesModel", "go", "()V"⟩, prog_14_method_17_code, 5, (Option.none : Option Jvm.ClassFile.FieldType), 0, true, 4) rfl (by decide +kernel) rfl rfl (by decide) (fun _ => ⟨_, _, rfl⟩) (fm_m_go hinj), (fun _ h => absurd h List.not_mem_nil)⟩)⟩) (fun as σ K h => by
  obtain ⟨a, b, e, p, rfl, hab, hm, h0, h1⟩ := h
  refine ⟨rfl, fun G hG => fs_m_readNumberP_0 hG ⟨a, b, e, p, rfl, hab, hm.1, fun q σ' hM h10 h11 => ?_, fun q qa qb => ?_⟩⟩
  · exact fs_m_readNumberP_6 hG ⟨fun z => absurd fw_c0 z, fun _ => ⟨fw_01, h0 q σ' hM h10 h11⟩⟩
  · refine fs_m_readNumberP_6 hG ⟨fun _ => mt_go (mt_ups hm (Or.inr ⟨rfl, Nat.le_refl _⟩)) (fun σ' hM hs => fs_m_readNumberP_15 hG ⟨fw_11, h1 q σ' ?_ ?_ hs⟩), fun z => absurd (fw_c1.symm.trans z) (by decide)⟩
    · exact fw_okM_tr (fw_okM_ups (fw_okM_refl _ _) (by decide)) hM (by decide)
    · exact (hM 93 13 (by decide)).trans ab_ups_eq)
theorem fm_m_readEndP (hinj : nn_inj ad) : fw_H l cy ad wr cr D 235 2 sp_m_readEndP := fw_mk hinj (⟨"NameNotesModel", "readEnd", "()Z"⟩, prog_14_method_26_code, 1, (Option.some Jvm.ClassFile.FieldType.boolean), 0, true, 1) rfl rfl nn_KI20_ok nn_KJ20_ok nn_PF20_ok nn_PS20_ok (by decide +kernel) rfl rfl (List.forall_mem_cons.mpr ⟨fw_row nn_PM20_ok (x := 168) (k := 0) (mn := 221) (np := 1) (ob := true) (ci := 11) (⟨"NameNotesModel", "bad", "(I)Z"⟩, prog_14_method_23_code, 2, (Option.some Jvm.ClassFile.FieldType.boolean), 1, true, 1) rfl (by decide +kernel) rfl rfl (by decide) (fun _ => ⟨_, _, rfl⟩) (fm_m_bad hinj), (List.forall_mem_cons.mpr ⟨fw_row nn_PM20_ok (x := 182) (k := 0) (mn := 212) (np := 0) (ob := true) (ci := 11) (⟨"NameNotesModel", "go", "()V"⟩, prog_14_method_17_code, 5, (Option.none : Option Jvm.ClassFile.FieldType), 0, true, 4) rfl (by decide +kernel) rfl rfl (by decide) (fun _ => ⟨_, _, rfl⟩) (fm_m_go hinj), (List.forall_mem_cons.mpr ⟨fw_row nn_PM20_ok (x := 185) (k := 0) (mn := 236) (np := 1) (ob := true) (ci := 11) (⟨"NameNotesModel", "isSign", "(I)Z"⟩, prog_14_method_21_code, 2, (Option.some Jvm.ClassFile.FieldType.boolean), 1, true, 1) rfl (by decide +kernel) rfl rfl (by decide) (fun _ => ⟨_, _, rfl⟩) (fm_m_isSign hinj), (fun _ h => absurd h List.not_mem_nil)⟩)⟩)⟩) (fun as σ K h => by
  obtain ⟨e, p, rfl, hm, h0, h1⟩ := h
  refine ⟨rfl, fun G hG => fs_m_readEndP_0 hG ⟨59, e, p, rfl, Or.inl rfl, hm.1, fs_m_readEndP_6 hG ⟨fun z => ?_, fun z => ?_⟩⟩⟩
  · exact mt_go hm (fun σ' hM hs => fs_m_readEndP_19 hG ⟨fw_11, h1 (fw_bo_ne z) σ' hM hs⟩)
  · refine mp_bad hm.1 (by decide) (fun σ' hM h10 h11 => fs_m_readEndP_14 hG ⟨fw_01, h0 (fw_bo_eq z) σ' (fw_okM_tr (fw_okM_refl _ _) hM (by decide)) ?_ h11⟩)
    rw [h10]
    split <;> rfl)
theorem fm_m_findIn99 (hinj : nn_inj ad) : fw_H l cy ad wr cr D 224 0 sp_m_findIn99 := fw_mk hinj (⟨"NameNotesModel", "findIn", "([JIIJ)I"⟩, prog_14_method_29_code, 6, (Option.some Jvm.ClassFile.FieldType.int), 4, false, 0) rfl rfl nn_KI20_ok nn_KJ20_ok nn_PF20_ok nn_PS20_ok (by decide +kernel) rfl rfl (fun _ h => absurd h List.not_mem_nil) (fun as σ K h => by
  obtain ⟨b, n, w, rfl, hbn, hw, hd, h⟩ := h
  have en : fw_c (n : Int) = n := fw_c_id (by omega) (by omega)
  refine ⟨rfl, fun G hG => fs_m_findIn99_0 hG ?_⟩
  have key : ∀ (f i : Nat), i + f = n → K (some (0, 0, rw_fd (fun j => σ 99 (b + j)) w f i)) σ → G 3 [some (2, 99, 0), some (0, 0, (b : Int)), some (0, 0, (n : Int)), some (1, 0, w), none, some (0, 0, (i : Int))] [] σ := by
    intro f
    induction f with
    | zero =>
      intro i hi q
      have ei : fw_c (i : Int) = i := fw_c_id (by omega) (by omega)
      refine fs_m_findIn99_3 hG ?_
      rw [en, ei]
      exact ⟨fun _ => q, fun z => absurd z (by omega)⟩
    | succ f ih =>
      intro i hi q
      have ei : fw_c (i : Int) = i := fw_c_id (by omega) (by omega)
      have ebi : fw_c ((b : Int) + i) = ((b + i : Nat) : Int) := by rw [fw_c_id (by omega) (by omega)]; omega
      replace q : K (some (0, 0, if σ 99 (b + i) = w then (i : Int) else rw_fd (fun j => σ 99 (b + j)) w f (i + 1))) σ := q
      refine fs_m_findIn99_3 hG ?_
      rw [en, ei, ebi, Int.toNat_natCast, hd i (by omega), hw]
      refine ⟨fun z => absurd z (by omega), fun _ => ⟨⟨Int.natCast_nonneg _, by omega⟩, fun z => ?_, fun z => ?_⟩⟩
      · rw [if_neg z] at q
        exact ih (i + 1) (by omega) q
      · rw [if_pos z] at q
        exact q
  exact key n 0 (by omega) h)
theorem fm_m_whyNot (hinj : nn_inj ad) : fw_H l cy ad wr cr D 329 0 sp_m_whyNot := fw_mk hinj (⟨"NameNotesModel", "whyNot", "(II)I"⟩, prog_14_method_123_code, 3, (Option.some Jvm.ClassFile.FieldType.int), 2, true, 0) rfl rfl nn_KI20_ok nn_KJ20_ok nn_PF20_ok nn_PS20_ok (by decide +kernel) rfl rfl (fun _ h => absurd h List.not_mem_nil) (fun as σ K h => by
  obtain ⟨A, s, p, n, rfl, ⟨-, -, e46, e47, e48, e49⟩, hB, hp, hn, h95, hf, h⟩ := h
  obtain ⟨why, wr, b, d, m, t⟩ := s
  obtain ⟨-, -, b3, b4, b5, b6, -⟩ := hB
  replace e46 : σ 93 46 = b := e46
  replace e47 : σ 93 47 = d := e47
  replace e48 : σ 93 48 = m := e48
  replace e49 : σ 93 49 = t := e49
  replace b3 : 0 ≤ b ∧ b ≤ 9 := b3
  replace b4 : -1 ≤ d ∧ d ≤ 4 := b4
  replace b5 : -1 ≤ m ∧ m ≤ 4 := b5
  replace b6 : -1 ≤ t ∧ t ≤ 4 := b6
  have ew : jg_w A (why, wr, b, d, m, t) p n = if m ≠ -1 then 1 else if (t ≠ -1 ∧ p ≠ t) ∨ (t = -1 ∧ p = d) then 2 else if n = 0 then (if b = 0 then 4 else 0) else if (if b = 0 then A 49 14 else b - 1) < n then 3 else 0 := rfl
  rw [ew] at h
  have m1 : fw_c (-1) = -1 := fw_s (by decide) (by decide)
  have c3 : fw_c 3 = 3 := fw_s (by decide) (by decide)
  have t3 : (fw_c 3).toNat = 3 := by rw [c3]; rfl
  have cp : fw_c p = p := fw_s (by omega) (by omega)
  have cn : fw_c n = n := fw_s (by omega) (by omega)
  have cb : fw_c b = b := fw_s (by omega) (by omega)
  have cd : fw_c d = d := fw_s (by omega) (by omega)
  have cm : fw_c m = m := fw_s (by omega) (by omega)
  have ct : fw_c t = t := fw_s (by omega) (by omega)
  have cf : fw_c (A 49 14) = A 49 14 := fw_s (by omega) (by omega)
  have cb1 : fw_c (b - 1) = b - 1 := fw_s (by omega) (by omega)
  refine ⟨rfl, fun G hG => ?_⟩
  have a0 : m = -1 → ¬ ((t ≠ -1 ∧ p ≠ t) ∨ (t = -1 ∧ p = d)) → G 39 [some (2, 93, 0), some (0, 0, p), some (0, 0, n)] [] σ := fun z y => by
    rw [if_neg (fun w => w z), if_neg y] at h
    refine fs_m_whyNot_39 hG ?_
    rw [e46, cb, cn, t3, c3, h95]
    refine ⟨fun z1 => ⟨fun z2 => ?_, fun z2 => ?_⟩, fun z1 => ⟨fun z2 => fs_m_whyNot_66 hG ?_, fun z2 => ⟨by decide, fs_m_whyNot_66 hG ?_⟩⟩⟩
    · rw [if_pos (by omega), if_neg z2] at h
      exact h
    · rw [if_pos (by omega), if_pos z2] at h
      exact h
    · rw [cb1, cn]
      refine ⟨fun z3 => ?_, fun z3 => ?_⟩
      · rw [if_neg (by omega), if_neg z2, if_neg (by omega)] at h
        exact h
      · rw [if_neg (by omega), if_neg z2, if_pos (by omega)] at h
        exact h
    · rw [cf, cn]
      refine ⟨fun z3 => ?_, fun z3 => ?_⟩
      · rw [if_neg (by omega), if_pos z2, if_neg (by omega)] at h
        exact h
      · rw [if_neg (by omega), if_pos z2, if_pos (by omega)] at h
        exact h
  have a1 : m = -1 → (t ≠ -1 ∧ p ≠ t) ∨ (t = -1 ∧ p = d) → K (some (0, 0, 2)) σ := fun z y => by
    rw [if_neg (fun w => w z), if_pos y] at h
    exact h
  refine fs_m_whyNot_0 hG ?_
  rw [m1, e48, e49, e47, cm, ct, cd, cp]
  refine ⟨fun z1 => ⟨fun z2 => ⟨fun z3 => a0 z1 ?_, fun z3 => a1 z1 (Or.inr ⟨z2, z3⟩)⟩, fun z2 => ⟨fun z3 => a0 z1 ?_, fun z3 => a1 z1 (Or.inl ⟨z2, z3⟩)⟩⟩, fun z1 => ?_⟩
  · omega
  · omega
  · rw [if_pos z1] at h
    exact h)
theorem fm_m_judgeLine (hinj : nn_inj ad) : fw_H l cy ad wr cr D 328 1 sp_m_judgeLine := fw_mk hinj (⟨"NameNotesModel", "judgeLine", "(II)V"⟩, prog_14_method_124_code, 4, (Option.none : Option Jvm.ClassFile.FieldType), 2, true, 4) rfl rfl nn_KI20_ok nn_KJ20_ok nn_PF20_ok nn_PS20_ok (by decide +kernel) rfl rfl (List.forall_mem_cons.mpr ⟨fw_row nn_PM20_ok (x := 439) (k := 0) (mn := 329) (np := 2) (ob := true) (ci := 11) (⟨"NameNotesModel", "whyNot", "(II)I"⟩, prog_14_method_123_code, 3, (Option.some Jvm.ClassFile.FieldType.int), 2, true, 0) rfl (by decide +kernel) rfl rfl (by decide) (fun _ => ⟨_, _, rfl⟩) (fm_m_whyNot hinj), (fun _ h => absurd h List.not_mem_nil)⟩) (fun as σ K h => by
  obtain ⟨A, s, p, n, i, rfl, J, hw, hB, hp, hn, h95, hf, hi, h⟩ := h
  have T1 : ∀ {σ : ab_SG} {k j a b : Nat} {v : Int}, (a ≠ k ∨ b ≠ j) → (ab_ups σ k j v) a b = σ a b := fun hh => ab_ups_ne (fun z => hh.elim (fun y => y z.1) (fun y => y z.2))
  have m1 : fw_c (-1) = -1 := fw_s (by decide) (by decide)
  refine ⟨rfl, fun G hG => fs_m_judgeLine_0 hG ⟨A, s, p, n, rfl, J, hB, hp, hn, h95, hf, fs_m_judgeLine_7 hG ?_⟩⟩
  have wb := jg_w_b A s p n
  have en : jg_1 A s i p n = if s.1 ≠ 0 then s else if jg_w A s p n ≠ 0 then (jg_w A s p n, i, s.2.2.1, s.2.2.2.1, s.2.2.2.2.1, s.2.2.2.2.2) else if n = 0 then (0, s.2.1, s.2.2.1, s.2.2.2.1, p, -1) else (0, s.2.1, n, p, s.2.2.2.2.1, s.2.2.2.1) := rfl
  rw [if_neg (fun z => z hw)] at en
  generalize jg_w A s p n = w at wb en
  have cw : fw_c w = w := fw_s (by omega) (by omega)
  have cp : fw_c p = p := fw_s (by omega) (by omega)
  have cn : fw_c n = n := fw_s (by omega) (by omega)
  have ci : fw_c i = i := fw_s (by omega) (by omega)
  have cd : fw_c (σ 93 47) = s.2.2.2.1 := by
    have := hB.2.2.2.1
    rw [J.2.2.2.1]
    exact fw_s (by omega) (by omega)
  rw [cw, cw, cp, cn, cd, m1, hi.1, ci]
  refine ⟨fun z => ⟨fun z2 => ?_, fun z2 => ?_⟩, fun z => ?_⟩
  · rw [if_neg (fun y => y z), if_neg z2] at en
    refine h _ (fw_okM_ups (fw_okM_ups (fw_okM_ups (fw_okM_ups (fw_okM_refl _ _) (by decide)) (by decide)) (by decide)) (by decide)) ?_
    rw [en]
    refine ⟨?_, ?_, ?_, ?_, ?_, ?_⟩
    · rw [T1 (by decide), T1 (by decide), T1 (by decide), ab_ups_eq]
      exact z
    · rw [T1 (by decide), T1 (by decide), T1 (by decide), T1 (by decide)]
      exact J.2.1
    · rw [T1 (by decide), T1 (by decide), ab_ups_eq]
    · rw [T1 (by decide), ab_ups_eq]
    · rw [T1 (by decide), T1 (by decide), T1 (by decide), T1 (by decide)]
      exact J.2.2.2.2.1
    · rw [ab_ups_eq]
  · rw [if_neg (fun y => y z), if_pos z2] at en
    refine h _ (fw_okM_ups (fw_okM_ups (fw_okM_ups (fw_okM_refl _ _) (by decide)) (by decide)) (by decide)) ?_
    rw [en]
    refine ⟨?_, ?_, ?_, ?_, ?_, ?_⟩
    · rw [T1 (by decide), T1 (by decide), ab_ups_eq]
      exact z
    · rw [T1 (by decide), T1 (by decide), T1 (by decide)]
      exact J.2.1
    · rw [T1 (by decide), T1 (by decide), T1 (by decide)]
      exact J.2.2.1
    · rw [T1 (by decide), T1 (by decide), T1 (by decide)]
      exact J.2.2.2.1
    · rw [T1 (by decide), ab_ups_eq]
    · rw [ab_ups_eq]
  · rw [if_pos z] at en
    refine h _ (fw_okM_ups (fw_okM_ups (fw_okM_refl _ _) (by decide)) (by decide)) ?_
    rw [en]
    refine ⟨?_, ?_, ?_, ?_, ?_, ?_⟩
    · rw [T1 (by decide), ab_ups_eq]
    · rw [ab_ups_eq]
    · rw [T1 (by decide), T1 (by decide)]
      exact J.2.2.1
    · rw [T1 (by decide), T1 (by decide)]
      exact J.2.2.2.1
    · rw [T1 (by decide), T1 (by decide)]
      exact J.2.2.2.2.1
    · rw [T1 (by decide), T1 (by decide)]
      exact J.2.2.2.2.2)
theorem fm_m_readBid (hinj : nn_inj ad) : fw_H l cy ad wr cr D 327 4 sp_m_readBid := fw_mk hinj (⟨"NameNotesModel", "readBid", "()Z"⟩, prog_14_method_125_code, 3, (Option.some Jvm.ClassFile.FieldType.boolean), 0, true, 1) rfl rfl nn_KI20_ok nn_KJ20_ok nn_PF20_ok nn_PS20_ok (by decide +kernel) rfl rfl (List.forall_mem_cons.mpr ⟨fw_row nn_PM20_ok (x := 168) (k := 0) (mn := 221) (np := 1) (ob := true) (ci := 11) (⟨"NameNotesModel", "bad", "(I)Z"⟩, prog_14_method_23_code, 2, (Option.some Jvm.ClassFile.FieldType.boolean), 1, true, 1) rfl (by decide +kernel) rfl rfl (by decide) (fun _ => ⟨_, _, rfl⟩) (fm_m_bad hinj), (List.forall_mem_cons.mpr ⟨fw_row nn_PM20_ok (x := 182) (k := 0) (mn := 212) (np := 0) (ob := true) (ci := 11) (⟨"NameNotesModel", "go", "()V"⟩, prog_14_method_17_code, 5, (Option.none : Option Jvm.ClassFile.FieldType), 0, true, 4) rfl (by decide +kernel) rfl rfl (by decide) (fun _ => ⟨_, _, rfl⟩) (fm_m_go hinj), (List.forall_mem_cons.mpr ⟨fw_row nn_PM20_ok (x := 199) (k := 0) (mn := 223) (np := 0) (ob := true) (ci := 11) (⟨"NameNotesModel", "isName", "()Z"⟩, prog_14_method_22_code, 2, (Option.some Jvm.ClassFile.FieldType.boolean), 0, true, 1) rfl (by decide +kernel) rfl rfl (by decide) (fun _ => ⟨_, _, rfl⟩) (fm_m_isName hinj), (List.forall_mem_cons.mpr ⟨fw_row nn_PM20_ok (x := 203) (k := 0) (mn := 224) (np := 4) (ob := false) (ci := 0) (⟨"NameNotesModel", "findIn", "([JIIJ)I"⟩, prog_14_method_29_code, 6, (Option.some Jvm.ClassFile.FieldType.int), 4, false, 0) rfl (by decide +kernel) rfl rfl (by decide) (fun q => by cases q) (fm_m_findIn99 hinj), (List.forall_mem_cons.mpr ⟨fw_row nn_PM20_ok (x := 210) (k := 0) (mn := 227) (np := 2) (ob := true) (ci := 11) (⟨"NameNotesModel", "readNumber", "(II)Z"⟩, prog_14_method_25_code, 3, (Option.some Jvm.ClassFile.FieldType.boolean), 2, true, 1) rfl (by decide +kernel) rfl rfl (by decide) (fun _ => ⟨_, _, rfl⟩) (fm_m_readNumberP hinj), (List.forall_mem_cons.mpr ⟨fw_row nn_PM20_ok (x := 225) (k := 0) (mn := 217) (np := 1) (ob := true) (ci := 11) (⟨"NameNotesModel", "isWord", "(I)Z"⟩, prog_14_method_20_code, 2, (Option.some Jvm.ClassFile.FieldType.boolean), 1, true, 1) rfl (by decide +kernel) rfl rfl (by decide) (fun _ => ⟨_, _, rfl⟩) (fm_m_isWord hinj), (List.forall_mem_cons.mpr ⟨fw_row nn_PM20_ok (x := 246) (k := 0) (mn := 235) (np := 0) (ob := true) (ci := 11) (⟨"NameNotesModel", "readEnd", "()Z"⟩, prog_14_method_26_code, 1, (Option.some Jvm.ClassFile.FieldType.boolean), 0, true, 1) rfl (by decide +kernel) rfl rfl (by decide) (fun _ => ⟨_, _, rfl⟩) (fm_m_readEndP hinj), (List.forall_mem_cons.mpr ⟨fw_row nn_PM20_ok (x := 451) (k := 0) (mn := 328) (np := 2) (ob := true) (ci := 11) (⟨"NameNotesModel", "judgeLine", "(II)V"⟩, prog_14_method_124_code, 4, (Option.none : Option Jvm.ClassFile.FieldType), 2, true, 4) rfl (by decide +kernel) rfl rfl (by decide) (fun _ => ⟨_, _, rfl⟩) (fm_m_judgeLine hinj), (fun _ h => absurd h List.not_mem_nil)⟩)⟩)⟩)⟩)⟩)⟩)⟩)⟩) (fun as σ K h => by
  obtain ⟨A, e, p, i, s, rfl, hN, hm, J, hB, hi, h95, h0, h1⟩ := h
  have m1 : fw_c (-1) = -1 := fw_s (by decide) (by decide)
  have c2 : fw_c 2 = 2 := fw_s (by decide) (by decide)
  have t2 : (fw_c 2).toNat = 2 := by rw [c2]; rfl
  have n13 := hN.1.2.2.1
  have f14 := hN.2.1.2.2.2.2
  refine ⟨rfl, fun G hG => fs_m_readBid_0 hG ⟨e, p, rfl, hm.1, fs_m_readBid_4 hG ⟨fun z => ?_, fun z => ?_⟩⟩⟩
  · have hq := fw_bo_ne z
    have ek : pr_sk A e 59 (A 49 13) p = if pr_ix A e 59 (A 49 13) p < 0 then 3 else 0 := if_pos hq
    rw [t2, c2, (NM_n hN).2.2]
    refine ⟨by decide, mf_find (b := 15) hm hq.1 ⟨n13.1, by omega, by omega⟩ (rm_13 hN) (fs_m_readBid_32 hG ?_)⟩
    have hl := rw_fd_le (A 59) (pr_wd e p) (A 49 13).toNat 0
    replace hl : pr_ix A e 59 (A 49 13) p < 0 ∨ (((0 : Nat) : Int) ≤ pr_ix A e 59 (A 49 13) p ∧ pr_ix A e 59 (A 49 13) p < ((0 : Nat) : Int) + (A 49 13).toNat) := hl
    by_cases y : pr_ix A e 59 (A 49 13) p < 0
    · rw [if_pos y] at ek
      have eg : ev_g A e p = (3, ev_st e p) := by
        unfold ev_g
        rw [if_pos (by rw [ek]; decide), ek]
      rw [eg] at h0
      have ix : pr_ix A e 59 (A 49 13) p = -1 := by
        have g : ∀ (f i : Nat), rw_fd (A 59) (pr_wd e p) f i < 0 → rw_fd (A 59) (pr_wd e p) f i = -1 := by
          intro f
          induction f with
          | zero => intro i _; rfl
          | succ f ih =>
            intro i hh
            unfold rw_fd at hh ⊢
            split at hh
            · omega
            · rename_i c
              rw [if_neg c]
              exact ih (i + 1) hh
        exact g _ _ y
      refine ⟨fun w => absurd (by rw [ix]) w, fun _ => mp_bad hm.1 (by decide) (fun σ' hM h10 h11 => fs_m_readBid_43 hG ⟨fw_01, h0 (show (3 : Int) ≠ 0 by decide) σ' (fw_okM_tr (fw_okM_refl _ _) hM (by decide)) ?_ h11⟩)⟩
      have k := (mg_kind hm.1).1.mpr hq.1
      rw [h10, if_neg (by omega)]
    · rw [if_neg y] at ek
      have cx : fw_c (pr_ix A e 59 (A 49 13) p) = pr_ix A e 59 (A 49 13) p := fw_s (by omega) (by omega)
      refine ⟨fun _ => mt_go hm (fun σ1 M1 hm1 => fs_m_readBid_48 hG ⟨6, e, tn e p, rfl, by decide, hm1.1, ?_⟩), fun w => absurd w (by rw [cx, m1]; omega)⟩
      have M1b : ab_okM mb_M σ σ1 := fw_okM_tr (fw_okM_refl _ _) M1 (by decide)
      -- behind the bid
      have fin : ∀ (σ2 : ab_SG) (q : Nat) (v : Int), ab_okM mb_M σ σ2 → (jm_is σ2 s ∧ σ2 93 43 = (i : Int) + 1 ∧ σ2 95 3 = A 49 14) → q = tn e (tn e p) → mt_is σ2 e q → (tw e (tn e p) = 6 ∨ pr_nm e (tn e p) 1 9 = 0) → v = ev_w e p → G 83 [some (2, 93, 0), some (0, 0, pr_ix A e 59 (A 49 13) p), some (0, 0, v)] [] σ2 := by
        intro σ2 q v M2 ⟨J2, i2, f2⟩ eq hm2 hg ev
        subst eq
        refine fs_m_readBid_83 hG ⟨e, _, rfl, hm2, fun z σ' hM h10 h11 => ?_, fun z σ3 M3 hm3 => ?_⟩
        · have eg : ev_g A e p = (1, ev_st e (tn e (tn e p))) := by
            unfold ev_g
            rw [if_neg (fun w => w ek), if_neg (fun w => hg.elim (fun u => w.1 u) (fun u => w.2 u)), if_pos z]
          rw [eg] at h0
          exact fs_m_readBid_87 hG ⟨fun w => absurd fw_c0 w, fun _ => ⟨fw_01, h0 (show (1 : Int) ≠ 0 by decide) σ' (ev_tr M2 (ev_up hM (by decide))) h10 h11⟩⟩
        · have eg : (ev_g A e p).1 = 0 := by
            unfold ev_g
            rw [if_neg (fun w => w ek), if_neg (fun w => hg.elim (fun u => w.1 u) (fun u => w.2 u)), if_neg (fun w => w z)]
          have bb := ev_b hN.1 eg
          have r3 : ∀ j : Nat, 13 ≤ j → σ3 93 j = σ2 93 j := fun j hj => M3 93 j (fun q hq w => by
            have g : ∀ q ∈ go_M, q.2 ≤ 12 := by decide
            have := g q hq
            rcases w.2 with y | y <;> omega)
          have J3 : jm_is σ3 s := ⟨(r3 44 (by decide)).trans J2.1, (r3 45 (by decide)).trans J2.2.1, (r3 46 (by decide)).trans J2.2.2.1, (r3 47 (by decide)).trans J2.2.2.2.1, (r3 48 (by decide)).trans J2.2.2.2.2.1, (r3 49 (by decide)).trans J2.2.2.2.2.2⟩
          have i3 : σ3 93 43 = (i : Int) + 1 := (r3 43 (by decide)).trans i2
          have f3 : σ3 95 3 = A 49 14 := (mk_row M3 (k := 95) (by decide) 3).trans f2
          have M3b : ab_okM mb_M σ σ3 := ev_tr M2 (ev_up M3 (by decide))
          have c44 : fw_c (σ3 93 44) = s.1 := by
            have := hB.1
            rw [J3.1]
            exact fw_s (by omega) (by omega)
          have last : ∀ σ4 : ab_SG, ab_okM jl_M σ3 σ4 → jm_is σ4 (jg_1 A s ((i : Int) + 1) (ev_p A e p) (ev_w e p)) → G 105 [some (2, 93, 0), some (0, 0, pr_ix A e 59 (A 49 13) p), some (0, 0, v)] [] σ4 := by
            intro σ4 M4 J4
            have i4 : σ4 93 43 = (i : Int) + 1 := (mk_at M4 (k := 93) (j := 43) (by decide)).trans i3
            have T1 : ∀ (b : Nat) (x : Int), b ≠ 43 → (ab_ups σ4 93 43 x) 93 b = σ4 93 b := fun b x hb => ab_ups_ne (fun z => hb z.2)
            have hm4 : mt_is σ4 e (tn e (tn e (tn e p))) := by
              obtain ⟨a1, a2, a3, a4, a5, a6, a7⟩ := hm3
              have r : ∀ j : Nat, j < 13 → σ4 93 j = σ3 93 j := fun j hj => M4 93 j (fun q hq w => by
                have g : ∀ q ∈ jl_M, 44 ≤ q.2 ∧ q.2 ≤ 49 := by decide
                have := g q hq
                rcases w.2 with y | y <;> omega)
              refine ⟨?_, mg_tp_M a2 M4 (by decide) (r 3 (by decide)), (r 3 (by decide)).trans a3, (r 4 (by decide)).trans a4, a5, (r 10 (by decide)).trans a6, ?_⟩
              · unfold mg_is
                rw [r 6 (by decide), r 5 (by decide), r 7 (by decide), r 12 (by decide), r 8 (by decide), r 9 (by decide)]
                exact a1
              · rw [r 3 (by decide), r 4 (by decide)]
                exact a7
            have ci : fw_c ((i : Int) + 1 + 1) = ((i + 1 : Nat) : Int) + 1 := fw_s (by omega) (by omega)
            refine fs_m_readBid_105 hG ⟨fw_11, ?_⟩
            rw [i4, ci]
            exact h1 eg _ (fw_okM_ups (ev_tr M3b (ev_up M4 (by decide))) (by decide)) (mt_ups hm4 (Or.inr ⟨rfl, by decide⟩)) ⟨(T1 44 _ (by decide)).trans J4.1, (T1 45 _ (by decide)).trans J4.2.1, (T1 46 _ (by decide)).trans J4.2.2.1, (T1 47 _ (by decide)).trans J4.2.2.2.1, (T1 48 _ (by decide)).trans J4.2.2.2.2.1, (T1 49 _ (by decide)).trans J4.2.2.2.2.2⟩ ab_ups_eq
          refine fs_m_readBid_87 hG ⟨fun _ => ?_, fun w => absurd (fw_c1.symm.trans w) (by decide)⟩
          rw [c44]
          refine ⟨fun w => last σ3 (fw_okM_refl _ _) ?_, fun w => ⟨A, s, _, _, (i : Int) + 1, by rw [ev]; rfl, J3, w, hB, bb.1, bb.2, f3, f14, ⟨i3, by omega, by omega⟩, fun σ4 M4 J4 => last σ4 M4 J4⟩⟩
          unfold jg_1
          rw [if_pos w]
          exact J3
      have r1 : ∀ j : Nat, 13 ≤ j → σ1 93 j = σ 93 j := fun j hj => M1 93 j (fun q hq w => by
        have g : ∀ q ∈ go_M, q.2 ≤ 12 := by decide
        have := g q hq
        rcases w.2 with y | y <;> omega)
      have J1 : jm_is σ1 s := ⟨(r1 44 (by decide)).trans J.1, (r1 45 (by decide)).trans J.2.1, (r1 46 (by decide)).trans J.2.2.1, (r1 47 (by decide)).trans J.2.2.2.1, (r1 48 (by decide)).trans J.2.2.2.2.1, (r1 49 (by decide)).trans J.2.2.2.2.2⟩
      have i1 : σ1 93 43 = (i : Int) + 1 := (r1 43 (by decide)).trans hi.1
      have f1 : σ1 95 3 = A 49 14 := (mk_row M1 (k := 95) (by decide) 3).trans h95
      show G 56 _ [(0, 0, fw_bo (tw e (tn e p) = ((6 : Nat) : Int)))] σ1
      by_cases hw : tw e (tn e p) = 6
      · rw [fw_bo_t (show tw e (tn e p) = ((6 : Nat) : Int) from hw)]
        refine fs_m_readBid_56 hG ⟨fun w => absurd (fw_c1.symm.trans w) (by decide), fun _ => mt_go hm1 (fun σ2 M2 hm2 => fs_m_readBid_63 hG ?_)⟩
        have r2 : ∀ j : Nat, 13 ≤ j → σ2 93 j = σ1 93 j := fun j hj => M2 93 j (fun q hq w => by
          have g : ∀ q ∈ go_M, q.2 ≤ 12 := by decide
          have := g q hq
          rcases w.2 with y | y <;> omega)
        refine fin σ2 _ _ (ev_tr M1b (ev_up M2 (by decide))) ⟨⟨(r2 44 (by decide)).trans J1.1, (r2 45 (by decide)).trans J1.2.1, (r2 46 (by decide)).trans J1.2.2.1, (r2 47 (by decide)).trans J1.2.2.2.1, (r2 48 (by decide)).trans J1.2.2.2.2.1, (r2 49 (by decide)).trans J1.2.2.2.2.2⟩, (r2 43 (by decide)).trans i1, (mk_row M2 (k := 95) (by decide) 3).trans f1⟩ rfl hm2 (Or.inl hw) ?_
        unfold ev_w
        rw [if_pos hw]
      · rw [fw_bo_f (show ¬ tw e (tn e p) = ((6 : Nat) : Int) from hw)]
        refine fs_m_readBid_56 hG ⟨fun _ => ⟨1, 9, e, tn e p, rfl, by decide, hm1, fun z σ' hM h10 h11 => ?_, fun z σ2 M2 e13 hm2 => ?_⟩, fun w => absurd fw_c0 w⟩
        · have eg : ev_g A e p = (pr_nm e (tn e p) 1 9, ev_st e (tn e p)) := by
            unfold ev_g
            rw [if_neg (fun w => w ek), if_pos ⟨hw, z⟩]
          rw [eg] at h0
          exact fs_m_readBid_73 hG ⟨fun w => absurd fw_c0 w, fun _ => ⟨fw_01, h0 z σ' (ev_tr M1b (ev_up hM (by decide))) h10 h11⟩⟩
        · have r2 : ∀ j : Nat, 14 ≤ j → σ2 93 j = σ1 93 j := fun j hj => M2 93 j (fun q hq w => by
            have g : ∀ q ∈ ((93, 13) :: go_M : ab_ML), q.2 ≤ 13 := by decide
            have := g q hq
            rcases w.2 with y | y <;> omega)
          refine fs_m_readBid_73 hG ⟨fun _ => ?_, fun w => absurd (fw_c1.symm.trans w) (by decide)⟩
          refine fin σ2 _ _ (ev_tr M1b (ev_up M2 (by decide))) ⟨⟨(r2 44 (by decide)).trans J1.1, (r2 45 (by decide)).trans J1.2.1, (r2 46 (by decide)).trans J1.2.2.1, (r2 47 (by decide)).trans J1.2.2.2.1, (r2 48 (by decide)).trans J1.2.2.2.2.1, (r2 49 (by decide)).trans J1.2.2.2.2.2⟩, (r2 43 (by decide)).trans i1, (mk_row M2 (k := 95) (by decide) 3).trans f1⟩ rfl hm2 (Or.inr z) ?_
          unfold ev_w
          rw [if_neg hw]
          exact e13
  · have hq := fw_bo_eq z
    have eg : ev_g A e p = (1, ev_st e p) := by
      have ek : pr_sk A e 59 (A 49 13) p = 1 := if_neg hq
      unfold ev_g
      rw [if_pos (by rw [ek]; decide), ek]
    rw [eg] at h0
    refine mp_bad hm.1 (by decide) (fun σ' hM h10 h11 => fs_m_readBid_12 hG ⟨fw_01, h0 (show (1 : Int) ≠ 0 by decide) σ' (fw_okM_tr (fw_okM_refl _ _) hM (by decide)) ?_ h11⟩)
    rw [h10]
    split <;> rfl)
theorem fm_m_readHeard (hinj : nn_inj ad) : fw_H l cy ad wr cr D 326 4 sp_m_readHeard := fw_mk hinj (⟨"NameNotesModel", "readHeard", "()Z"⟩, prog_14_method_126_code, 1, (Option.some Jvm.ClassFile.FieldType.boolean), 0, true, 1) rfl rfl nn_KI20_ok nn_KJ20_ok nn_PF20_ok nn_PS20_ok (by decide +kernel) rfl rfl (List.forall_mem_cons.mpr ⟨fw_row nn_PM20_ok (x := 168) (k := 0) (mn := 221) (np := 1) (ob := true) (ci := 11) (⟨"NameNotesModel", "bad", "(I)Z"⟩, prog_14_method_23_code, 2, (Option.some Jvm.ClassFile.FieldType.boolean), 1, true, 1) rfl (by decide +kernel) rfl rfl (by decide) (fun _ => ⟨_, _, rfl⟩) (fm_m_bad hinj), (List.forall_mem_cons.mpr ⟨fw_row nn_PM20_ok (x := 182) (k := 0) (mn := 212) (np := 0) (ob := true) (ci := 11) (⟨"NameNotesModel", "go", "()V"⟩, prog_14_method_17_code, 5, (Option.none : Option Jvm.ClassFile.FieldType), 0, true, 4) rfl (by decide +kernel) rfl rfl (by decide) (fun _ => ⟨_, _, rfl⟩) (fm_m_go hinj), (List.forall_mem_cons.mpr ⟨fw_row nn_PM20_ok (x := 199) (k := 0) (mn := 223) (np := 0) (ob := true) (ci := 11) (⟨"NameNotesModel", "isName", "()Z"⟩, prog_14_method_22_code, 2, (Option.some Jvm.ClassFile.FieldType.boolean), 0, true, 1) rfl (by decide +kernel) rfl rfl (by decide) (fun _ => ⟨_, _, rfl⟩) (fm_m_isName hinj), (List.forall_mem_cons.mpr ⟨fw_row nn_PM20_ok (x := 203) (k := 0) (mn := 224) (np := 4) (ob := false) (ci := 0) (⟨"NameNotesModel", "findIn", "([JIIJ)I"⟩, prog_14_method_29_code, 6, (Option.some Jvm.ClassFile.FieldType.int), 4, false, 0) rfl (by decide +kernel) rfl rfl (by decide) (fun q => by cases q) (fm_m_findIn99 hinj), (List.forall_mem_cons.mpr ⟨fw_row nn_PM20_ok (x := 225) (k := 0) (mn := 217) (np := 1) (ob := true) (ci := 11) (⟨"NameNotesModel", "isWord", "(I)Z"⟩, prog_14_method_20_code, 2, (Option.some Jvm.ClassFile.FieldType.boolean), 1, true, 1) rfl (by decide +kernel) rfl rfl (by decide) (fun _ => ⟨_, _, rfl⟩) (fm_m_isWord hinj), (List.forall_mem_cons.mpr ⟨fw_row nn_PM20_ok (x := 246) (k := 0) (mn := 235) (np := 0) (ob := true) (ci := 11) (⟨"NameNotesModel", "readEnd", "()Z"⟩, prog_14_method_26_code, 1, (Option.some Jvm.ClassFile.FieldType.boolean), 0, true, 1) rfl (by decide +kernel) rfl rfl (by decide) (fun _ => ⟨_, _, rfl⟩) (fm_m_readEndP hinj), (fun _ h => absurd h List.not_mem_nil)⟩)⟩)⟩)⟩)⟩)⟩) (fun as σ K h => by
  obtain ⟨A, e, rfl, hN, hm, h0, h1⟩ := h
  have m1 : fw_c (-1) = -1 := fw_s (by decide) (by decide)
  have t1 : (fw_c 1).toNat = 1 := by rw [fw_c1]; rfl
  have n12 := hN.1.2.1
  refine ⟨rfl, fun G hG => fs_m_readHeard_0 hG ⟨1, e, 0, rfl, by decide, hm.1, ?_⟩⟩
  show G 5 _ [(0, 0, fw_bo (tw e 0 = ((1 : Nat) : Int)))] σ
  by_cases hw : tw e 0 = 1
  · rw [fw_bo_t (show tw e 0 = ((1 : Nat) : Int) from hw)]
    refine fs_m_readHeard_5 hG ⟨fun _ => mt_go hm (fun σ1 M1 hm1 => fs_m_readHeard_18 hG ⟨e, tn e 0, rfl, hm1.1, fs_m_readHeard_22 hG ⟨fun z => ?_, fun z => ?_⟩⟩), fun w => absurd (fw_c1.symm.trans w) (by decide)⟩
    · have hq := fw_bo_ne z
      have N1 : NM σ1 A := ev_NM M1 (by decide +kernel) hN
      have M1b : ab_okM ((93, 53) :: mp_M) σ σ1 := fw_okM_tr (fw_okM_refl _ _) M1 (by decide)
      have ek : pr_sk A e 58 (A 49 12) (tn e 0) = if pr_ix A e 58 (A 49 12) (tn e 0) < 0 then 3 else 0 := if_pos hq
      rw [t1, fw_c1, (NM_n N1).2.1]
      refine ⟨by decide, mf_find (b := 9) hm1 hq.1 ⟨n12.1, by omega, by omega⟩ (rm_12 N1) (fs_m_readHeard_51 hG ?_)⟩
      have hl := rw_fd_le (A 58) (pr_wd e (tn e 0)) (A 49 12).toNat 0
      replace hl : pr_ix A e 58 (A 49 12) (tn e 0) < 0 ∨ (((0 : Nat) : Int) ≤ pr_ix A e 58 (A 49 12) (tn e 0) ∧ pr_ix A e 58 (A 49 12) (tn e 0) < ((0 : Nat) : Int) + (A 49 12).toNat) := hl
      by_cases y : pr_ix A e 58 (A 49 12) (tn e 0) < 0
      · rw [if_pos y] at ek
        have eg : ev_h A e = (3, ev_st e (tn e 0)) := by
          unfold ev_h
          rw [if_neg (fun w => w hw), if_pos (by rw [ek]; decide), ek]
        rw [eg] at h0
        have ix : pr_ix A e 58 (A 49 12) (tn e 0) = -1 := by
          have g : ∀ (f i : Nat), rw_fd (A 58) (pr_wd e (tn e 0)) f i < 0 → rw_fd (A 58) (pr_wd e (tn e 0)) f i = -1 := by
            intro f
            induction f with
            | zero => intro i _; rfl
            | succ f ih =>
              intro i hh
              unfold rw_fd at hh ⊢
              split at hh
              · omega
              · rename_i c
                rw [if_neg c]
                exact ih (i + 1) hh
          exact g _ _ y
        have hm2 : mt_is (ab_ups σ1 93 53 (fw_c (pr_ix A e 58 (A 49 12) (tn e 0)))) e (tn e 0) := mt_ups hm1 (Or.inr ⟨rfl, by decide⟩)
        refine ⟨fun w => absurd (by rw [ix, fw_c_c]) w, fun _ => mp_bad hm2.1 (by decide) (fun σ' hM h10 h11 => fs_m_readHeard_67 hG ⟨fw_01, h0 (show (3 : Int) ≠ 0 by decide) σ' (fw_okM_tr (fw_okM_ups M1b (by decide)) hM (by decide)) ?_ h11⟩)⟩
        have k := (mg_kind hm2.1).1.mpr hq.1
        rw [h10, if_neg (by omega)]
      · rw [if_neg y] at ek
        have cx : fw_c (pr_ix A e 58 (A 49 12) (tn e 0)) = pr_ix A e 58 (A 49 12) (tn e 0) := fw_s (by omega) (by omega)
        rw [cx, cx, m1]
        have hm2 : mt_is (ab_ups σ1 93 53 (pr_ix A e 58 (A 49 12) (tn e 0))) e (tn e 0) := mt_ups hm1 (Or.inr ⟨rfl, by decide⟩)
        refine ⟨fun _ => mt_go hm2 (fun σ2 M2 hm3 => fs_m_readHeard_72 hG ⟨e, _, rfl, hm3, fun z σ' hM h10 h11 => ?_, fun z σ3 M3 hm4 => ?_⟩), fun w => absurd w (by omega)⟩
        · have eg : ev_h A e = (1, ev_st e (tn e (tn e 0))) := by
            unfold ev_h
            rw [if_neg (fun w => w hw), if_neg (fun w => w ek), if_pos z]
          rw [eg] at h0
          exact fs_m_readHeard_76 hG ⟨fw_01, h0 (show (1 : Int) ≠ 0 by decide) σ' (ev_tr (ev_tr (fw_okM_ups M1b (by decide)) (ev_up M2 (by decide))) (ev_up hM (by decide))) h10 h11⟩
        · have eg : (ev_h A e).1 = 0 := by
            unfold ev_h
            rw [if_neg (fun w => w hw), if_neg (fun w => w ek), if_neg (fun w => w z)]
          exact fs_m_readHeard_76 hG ⟨fw_11, h1 eg σ3 (ev_tr (ev_tr (fw_okM_ups M1b (by decide)) (ev_up M2 (by decide))) (ev_up M3 (by decide))) hm4 ((mk_at M3 (k := 93) (j := 53) (by decide)).trans ((mk_at M2 (k := 93) (j := 53) (by decide)).trans ab_ups_eq))⟩
    · have hq := fw_bo_eq z
      have eg : ev_h A e = (1, ev_st e (tn e 0)) := by
        have ek : pr_sk A e 58 (A 49 12) (tn e 0) = 1 := if_neg hq
        unfold ev_h
        rw [if_neg (fun w => w hw), if_pos (by rw [ek]; decide), ek]
      rw [eg] at h0
      refine mp_bad hm1.1 (by decide) (fun σ' hM h10 h11 => fs_m_readHeard_30 hG ⟨fw_01, h0 (show (1 : Int) ≠ 0 by decide) σ' (fw_okM_tr (fw_okM_tr (fw_okM_refl _ _) M1 (by decide)) hM (by decide)) ?_ h11⟩)
      rw [h10]
      split <;> rfl
  · rw [fw_bo_f (show ¬ tw e 0 = ((1 : Nat) : Int) from hw)]
    have eg : ev_h A e = (1, ev_st e 0) := by
      unfold ev_h
      rw [if_pos hw]
    rw [eg] at h0
    refine fs_m_readHeard_5 hG ⟨fun w => absurd fw_c0 w, fun _ => mp_bad hm.1 (by decide) (fun σ' hM h10 h11 => fs_m_readHeard_13 hG ⟨fw_01, h0 (show (1 : Int) ≠ 0 by decide) σ' (fw_okM_tr (fw_okM_refl _ _) hM (by decide)) ?_ h11⟩)⟩
    rw [h10]
    split <;> rfl)
theorem fm_m_evening (hinj : nn_inj ad) : fw_H l cy ad wr cr D 325 5 sp_m_evening := fw_mk hinj (⟨"NameNotesModel", "evening", "()I"⟩, prog_14_method_127_code, 1, (Option.some Jvm.ClassFile.FieldType.int), 0, true, 0) rfl rfl nn_KI20_ok nn_KJ20_ok nn_PF20_ok nn_PS20_ok (by decide +kernel) rfl rfl (List.forall_mem_cons.mpr ⟨fw_row nn_PM20_ok (x := 249) (k := 0) (mn := 209) (np := 1) (ob := true) (ci := 11) (⟨"NameNotesModel", "begin", "(I)V"⟩, prog_14_method_27_code, 2, (Option.none : Option Jvm.ClassFile.FieldType), 1, true, 4) rfl (by decide +kernel) rfl rfl (by decide) (fun _ => ⟨_, _, rfl⟩) (fm_m_begin hinj), (List.forall_mem_cons.mpr ⟨fw_row nn_PM20_ok (x := 457) (k := 0) (mn := 326) (np := 0) (ob := true) (ci := 11) (⟨"NameNotesModel", "readHeard", "()Z"⟩, prog_14_method_126_code, 1, (Option.some Jvm.ClassFile.FieldType.boolean), 0, true, 1) rfl (by decide +kernel) rfl rfl (by decide) (fun _ => ⟨_, _, rfl⟩) (fm_m_readHeard hinj), (List.forall_mem_cons.mpr ⟨fw_row nn_PM20_ok (x := 460) (k := 0) (mn := 327) (np := 0) (ob := true) (ci := 11) (⟨"NameNotesModel", "readBid", "()Z"⟩, prog_14_method_125_code, 3, (Option.some Jvm.ClassFile.FieldType.boolean), 0, true, 1) rfl (by decide +kernel) rfl rfl (by decide) (fun _ => ⟨_, _, rfl⟩) (fm_m_readBid hinj), (fun _ h => absurd h List.not_mem_nil)⟩)⟩)⟩) (fun as σ K h => by
  obtain ⟨A, t, rfl, hb, ht, hly, hN0, hf, hg⟩ := h
  have m1 : fw_c (-1) = -1 := fw_s (by decide) (by decide)
  have c2 : fw_c 2 = 2 := fw_s (by decide) (by decide)
  have c3 : fw_c 3 = 3 := fw_s (by decide) (by decide)
  have c4 : fw_c 4 = 4 := fw_s (by decide) (by decide)
  have t0 : (fw_c 0).toNat = 0 := by rw [fw_c0]; rfl
  have t1 : (fw_c 1).toNat = 1 := by rw [fw_c1]; rfl
  have t2 : (fw_c 2).toNat = 2 := by rw [c2]; rfl
  have t3 : (fw_c 3).toNat = 3 := by rw [c3]; rfl
  have t4 : (fw_c 4).toNat = 4 := by rw [c4]; rfl
  have T1 : ∀ {σ : ab_SG} {k j a b : Nat} {v : Int}, (a ≠ k ∨ b ≠ j) → (ab_ups σ k j v) a b = σ a b := fun hh => ab_ups_ne (fun z => hh.elim (fun y => y z.1) (fun y => y z.2))
  have up2 : ∀ {τ τ' : ab_SG} {j : Nat} {v : Int}, j ≠ 22 → ly_is τ τ' → ly_is τ (ab_ups τ' 93 j v) := fun hj h => ⟨(T1 (Or.inr (fun z => hj z.symm))).trans h.1, fun y => (T1 (Or.inl (by decide))).trans (h.2.1 y), fun y => (T1 (Or.inl (by decide))).trans (h.2.2 y)⟩
  refine ⟨rfl, fun G hG => fs_m_evening_0 hG ⟨400, t, rfl, by decide, hb, ht, hly, fun σ1 M1 hm1 l1 z1 _ => fs_m_evening_7 hG ?_⟩⟩
  generalize he : ((t, (σ 93 2).toNat, 400) : tk_E) = e at hf hg hm1
  have e940 : e.2.1 ≤ 940 := by
    rw [← he]
    show (σ 93 2).toNat ≤ 940
    omega
  obtain ⟨N1, f1⟩ := NM_ly M1 l1 hN0
  have M1b : ab_okM mf_N σ σ1 := fw_okM_tr (fw_okM_refl _ _) M1 (by decide)
  have M1c : ∀ {τ : ab_SG} {M : ab_ML}, ab_okM M σ1 τ → M.all (fun q => q.1.beq 93 && Nat.ble 5 q.2 && Nat.ble q.2 21 || q.1.beq 93 && Nat.ble 23 q.2 && Nat.ble q.2 100) = true → ly_is σ τ ∧ τ 93 2 = 0 := fun {τ M} hM hm => by
    have r : ∀ a b : Nat, a ≠ 93 ∨ b = 22 ∨ b < 5 → τ a b = σ1 a b := fun a b hab => hM a b (fun q hq w => by
      have g := List.all_eq_true.mp hm q hq
      rw [Bool.or_eq_true, Bool.and_eq_true, Bool.and_eq_true, Bool.and_eq_true, Bool.and_eq_true] at g
      rcases g with g | g
      · have g1 := Nat.eq_of_beq_eq_true g.1.1
        have g2 := Nat.le_of_ble_eq_true g.1.2
        have g3 := Nat.le_of_ble_eq_true g.2
        rcases w.2 with y | y <;> omega
      · have g1 := Nat.eq_of_beq_eq_true g.1.1
        have g2 := Nat.le_of_ble_eq_true g.1.2
        have g3 := Nat.le_of_ble_eq_true g.2
        rcases w.2 with y | y <;> omega)
    exact ⟨⟨(r 93 22 (by decide)).trans l1.1, fun y => (r 95 3 (by decide)).trans (l1.2.1 y), fun y => (r 95 3 (by decide)).trans (l1.2.2 y)⟩, (r 93 2 (by decide)).trans z1⟩
  refine ⟨A, e, rfl, N1, hm1, fun q σ' M' h10 h11 => ?_, fun q σ2 M2 hm2 e53 => ?_⟩
  · have k := M1c M' (by decide)
    have er : ev_r A e = ((ev_h A e).1, (ev_h A e).2, 0) := ev_r1 q
    refine fs_m_evening_11 hG ⟨fun w => absurd fw_c0 w, fun _ => ?_⟩
    have g := hf (by rw [er]; exact q) σ' (ev_tr M1b (ev_up M' (by decide))) k.2 k.1 (by rw [er]; exact h10)
    unfold v_ev at g
    rw [if_pos (by rw [er]; exact q), er] at g
    rw [h11]
    exact g
  · have er : ev_r A e = ev_a A e 400 0 := ev_r2 q
    have k2 := M1c M2 (by decide)
    have N2 : NM σ2 A := ev_NM M2 (by decide +kernel) N1
    have f2 : σ2 95 3 = A 49 14 := (mk_row M2 (k := 95) (by decide) 3).trans f1
    refine fs_m_evening_11 hG ⟨fun _ => ?_, fun w => absurd (fw_c1.symm.trans w) (by decide)⟩
    rw [fw_c0, fw_c1, m1]
    have q0 := ev_q0 (A := A) (e := e) q
    have M3 : ab_okM ((93, 53) :: mb_M) σ1 (ab_ups (ab_ups (ab_ups (ab_ups (ab_ups (ab_ups (ab_ups σ2 93 43 1) 93 44 0) 93 45 (-1)) 93 46 0) 93 47 (-1)) 93 48 (-1)) 93 49 (-1)) := fw_okM_ups (fw_okM_ups (fw_okM_ups (fw_okM_ups (fw_okM_ups (fw_okM_ups (fw_okM_ups (ev_up M2 (by decide)) (by decide)) (by decide)) (by decide)) (by decide)) (by decide)) (by decide)) (by decide)
    have hm3 : mt_is (ab_ups (ab_ups (ab_ups (ab_ups (ab_ups (ab_ups (ab_ups σ2 93 43 1) 93 44 0) 93 45 (-1)) 93 46 0) 93 47 (-1)) 93 48 (-1)) 93 49 (-1)) e (ev_q e 0) := mt_ups (mt_ups (mt_ups (mt_ups (mt_ups (mt_ups (mt_ups hm2 (Or.inr ⟨rfl, by decide⟩)) (Or.inr ⟨rfl, by decide⟩)) (Or.inr ⟨rfl, by decide⟩)) (Or.inr ⟨rfl, by decide⟩)) (Or.inr ⟨rfl, by decide⟩)) (Or.inr ⟨rfl, by decide⟩)) (Or.inr ⟨rfl, by decide⟩)
    have J3 : jm_is (ab_ups (ab_ups (ab_ups (ab_ups (ab_ups (ab_ups (ab_ups σ2 93 43 1) 93 44 0) 93 45 (-1)) 93 46 0) 93 47 (-1)) 93 48 (-1)) 93 49 (-1)) (jg_n A e 0) := by
      refine ⟨?_, ?_, ?_, ?_, ?_, ?_⟩
      · rw [T1 (by decide), T1 (by decide), T1 (by decide), T1 (by decide), T1 (by decide), ab_ups_eq]
        rfl
      · rw [T1 (by decide), T1 (by decide), T1 (by decide), T1 (by decide), ab_ups_eq]
        rfl
      · rw [T1 (by decide), T1 (by decide), T1 (by decide), ab_ups_eq]
        rfl
      · rw [T1 (by decide), T1 (by decide), ab_ups_eq]
        rfl
      · rw [T1 (by decide), ab_ups_eq]
        rfl
      · rw [ab_ups_eq]
        rfl
    have g43 : (ab_ups (ab_ups (ab_ups (ab_ups (ab_ups (ab_ups (ab_ups σ2 93 43 1) 93 44 0) 93 45 (-1)) 93 46 0) 93 47 (-1)) 93 48 (-1)) 93 49 (-1)) 93 43 = 1 := by
      rw [T1 (by decide), T1 (by decide), T1 (by decide), T1 (by decide), T1 (by decide), T1 (by decide), ab_ups_eq]
    have g53 : (ab_ups (ab_ups (ab_ups (ab_ups (ab_ups (ab_ups (ab_ups σ2 93 43 1) 93 44 0) 93 45 (-1)) 93 46 0) 93 47 (-1)) 93 48 (-1)) 93 49 (-1)) 93 53 = ev_c A e := by
      rw [T1 (by decide), T1 (by decide), T1 (by decide), T1 (by decide), T1 (by decide), T1 (by decide), T1 (by decide)]
      exact e53
    generalize ab_ups (ab_ups (ab_ups (ab_ups (ab_ups (ab_ups (ab_ups σ2 93 43 1) 93 44 0) 93 45 (-1)) 93 46 0) 93 47 (-1)) 93 48 (-1)) 93 49 (-1) = σ3 at M3 hm3 J3 g43 g53 ⊢
    have loop : ∀ (f i : Nat) (τ : ab_SG), i + f = 400 → ab_okM ((93, 53) :: mb_M) σ1 τ → mt_is τ e (ev_q e i) → 4 * i + 4 ≤ ev_q e i → τ 93 53 = ev_c A e → jm_is τ (jg_n A e i) → τ 93 43 = (i : Int) + 1 → (∀ j : Nat, j < i → (ev_g A e (ev_q e j)).1 = 0) → ev_r A e = ev_a A e f i → G 57 [some (2, 93, 0)] [] τ := by
      intro f
      induction f with
      | zero =>
        intro i τ hi M hm hq _ _ _ _ _
        have := hm.2.2.2.2.1
        omega
      | succ f ih =>
        intro i τ hi M hm hq h53 J h43 hl hr
        have k := M1c M (by decide)
        have B := jg_nB hN0.1 (e := e) i (by omega) hl
        have kk := mg_kind hm.1
        have c7 : fw_c (τ 93 7) = τ 93 7 := fw_s (by omega) (by omega)
        refine fs_m_evening_57 hG ?_
        rw [c7]
        refine ⟨fun z => ?_, fun z => ?_⟩
        · have z0 := kk.2.2.2.1.mp z
          rw [ev_a0 z0] at hr
          have M9 : ab_okM me_N σ τ := ev_tr (ev_up M1b (by decide)) (ev_up M (by decide))
          have e954 : τ 95 4 = σ 95 4 := (mk_row M (k := 95) (by decide) 4).trans (M1 95 4 (by decide))
          obtain ⟨j1, j2, j3, j4, j5, j6⟩ := J
          rw [t0, t1, t2, t3, t4, c2, c3, c4, fw_c0, fw_c1, m1, j1, j3, j4, j5, j6, e954]
          generalize hs : jg_n A e i = s at B j1 j2 j3 j4 j5 j6
          obtain ⟨why, wr, b, d, m, tt⟩ := s
          obtain ⟨b1, b2, b3, b4, b5, b6, -⟩ := B
          replace b1 : 0 ≤ why ∧ why ≤ 4 := b1
          replace b3 : 0 ≤ b ∧ b ≤ 9 := b3
          replace b4 : -1 ≤ d ∧ d ≤ 4 := b4
          replace b5 : -1 ≤ m ∧ m ≤ 4 := b5
          replace b6 : -1 ≤ tt ∧ tt ≤ 4 := b6
          replace j2 : τ 93 45 = wr := j2
          have cw : fw_c why = why := fw_s (by omega) (by omega)
          have cb : fw_c b = b := fw_s (by omega) (by omega)
          have cd : fw_c d = d := fw_s (by omega) (by omega)
          have cm : fw_c m = m := fw_s (by omega) (by omega)
          have ct : fw_c tt = tt := fw_s (by omega) (by omega)
          show ((0 : Int) ≤ 0 ∧ (0 : Int) < ((5 : Nat) : Int)) ∧ True ∧ ((0 : Int) ≤ 1 ∧ (1 : Int) < ((5 : Nat) : Int)) ∧ True ∧ ((0 : Int) ≤ 2 ∧ (2 : Int) < ((5 : Nat) : Int)) ∧ True ∧ ((0 : Int) ≤ 3 ∧ (3 : Int) < ((5 : Nat) : Int)) ∧ True ∧ ((0 : Int) ≤ 4 ∧ (4 : Int) < ((5 : Nat) : Int)) ∧ True ∧ (fw_c why ≠ 0 → G 154 [some (2, 93, 0)] [(2, 93, 0)] (ab_ups (ab_ups (ab_ups (ab_ups (ab_ups τ 117 0 (fw_c why)) 117 1 (fw_c b)) 117 2 (fw_c d)) 117 3 (fw_c m)) 117 4 (fw_c tt))) ∧ (fw_c why = 0 → (fw_c m = -1 → G 154 [some (2, 93, 0)] [(2, 93, 0)] (ab_ups (ab_ups (ab_ups (ab_ups (ab_ups τ 117 0 (fw_c why)) 117 1 (fw_c b)) 117 2 (fw_c d)) 117 3 (fw_c m)) 117 4 (fw_c tt))) ∧ (fw_c m ≠ -1 → ((0 : Int) ≤ 4 ∧ (4 : Int) < ((474 : Nat) : Int)) ∧ G 155 [some (2, 93, 0)] [(0, 0, σ 95 4), (2, 93, 0)] (ab_ups (ab_ups (ab_ups (ab_ups (ab_ups τ 117 0 (fw_c why)) 117 1 (fw_c b)) 117 2 (fw_c d)) 117 3 (fw_c m)) 117 4 (fw_c tt))))
          rw [cw, cb, cd, cm, ct]
          have out : ∀ v : Int, fw_c v = (if why = 0 ∧ m ≠ -1 then fw_c (σ 95 4) else -1) → G 155 [some (2, 93, 0)] [(0, 0, v), (2, 93, 0)] (ab_ups (ab_ups (ab_ups (ab_ups (ab_ups τ 117 0 why) 117 1 b) 117 2 d) 117 3 m) 117 4 tt) := by
            intro v ev
            refine fs_m_evening_155 hG ?_
            have cc : fw_c (ev_c A e) = ev_c A e := by
              have u := pr_sk_0 (ev_h0 q).2.1
              have n12 := hN0.1.2.1
              show fw_c (pr_ix A e 58 (A 49 12) (tn e 0)) = pr_ix A e 58 (A 49 12) (tn e 0)
              exact fw_s (by omega) (by omega)
            have x53 : (ab_ups (ab_ups (ab_ups (ab_ups (ab_ups τ 117 0 why) 117 1 b) 117 2 d) 117 3 m) 117 4 tt) 93 53 = ev_c A e := by
              rw [T1 (by decide), T1 (by decide), T1 (by decide), T1 (by decide), T1 (by decide)]
              exact h53
            have x45 : (ab_ups (ab_ups (ab_ups (ab_ups (ab_ups τ 117 0 why) 117 1 b) 117 2 d) 117 3 m) 117 4 tt) 93 45 = wr := by
              rw [T1 (by decide), T1 (by decide), T1 (by decide), T1 (by decide), T1 (by decide)]
              exact j2
            rw [x53, x45, cc, ev]
            rw [hr, hs] at hg
            have q2 : (ab_ups (ab_ups (ab_ups (ab_ups (ab_ups (ab_ups (ab_ups τ 117 0 why) 117 1 b) 117 2 d) 117 3 m) 117 4 tt) 93 51 (if why = 0 ∧ m ≠ -1 then fw_c (σ 95 4) else -1)) 93 52 (ev_c A e)) 93 2 = 0 := by
              rw [T1 (by decide), T1 (by decide), T1 (by decide), T1 (by decide), T1 (by decide), T1 (by decide), T1 (by decide)]
              exact k.2
            have ql : ly_is σ (ab_ups (ab_ups (ab_ups (ab_ups (ab_ups τ 117 0 why) 117 1 b) 117 2 d) 117 3 m) 117 4 tt) := ⟨by rw [T1 (by decide), T1 (by decide), T1 (by decide), T1 (by decide), T1 (by decide)]; exact k.1.1, fun y => by rw [T1 (by decide), T1 (by decide), T1 (by decide), T1 (by decide), T1 (by decide)]; exact k.1.2.1 y, fun y => by rw [T1 (by decide), T1 (by decide), T1 (by decide), T1 (by decide), T1 (by decide)]; exact k.1.2.2 y⟩
            have q10 : (ab_ups (ab_ups (ab_ups (ab_ups (ab_ups (ab_ups (ab_ups τ 117 0 why) 117 1 b) 117 2 d) 117 3 m) 117 4 tt) 93 51 (if why = 0 ∧ m ≠ -1 then fw_c (σ 95 4) else -1)) 93 52 (ev_c A e)) 93 10 = 0 := by
              rw [T1 (by decide), T1 (by decide), T1 (by decide), T1 (by decide), T1 (by decide), T1 (by decide), T1 (by decide)]
              exact hm.2.2.2.2.2.1
            have qj : jh_is (ab_ups (ab_ups (ab_ups (ab_ups (ab_ups (ab_ups (ab_ups τ 117 0 why) 117 1 b) 117 2 d) 117 3 m) 117 4 tt) 93 51 (if why = 0 ∧ m ≠ -1 then fw_c (σ 95 4) else -1)) 93 52 (ev_c A e)) (why, wr, b, d, m, tt) := by
              refine ⟨?_, ?_, ?_, ?_, ?_⟩
              · rw [T1 (by decide), T1 (by decide), T1 (by decide), T1 (by decide), T1 (by decide), T1 (by decide), ab_ups_eq]
              · rw [T1 (by decide), T1 (by decide), T1 (by decide), T1 (by decide), T1 (by decide), ab_ups_eq]
              · rw [T1 (by decide), T1 (by decide), T1 (by decide), T1 (by decide), ab_ups_eq]
              · rw [T1 (by decide), T1 (by decide), T1 (by decide), ab_ups_eq]
              · rw [T1 (by decide), T1 (by decide), ab_ups_eq]
            have q51 : (ab_ups (ab_ups (ab_ups (ab_ups (ab_ups (ab_ups (ab_ups τ 117 0 why) 117 1 b) 117 2 d) 117 3 m) 117 4 tt) 93 51 (if why = 0 ∧ m ≠ -1 then fw_c (σ 95 4) else -1)) 93 52 (ev_c A e)) 93 51 = (if why = 0 ∧ m ≠ -1 then fw_c (σ 95 4) else -1) := by
              rw [T1 (by decide), ab_ups_eq]
            have g := hg rfl (ab_ups (ab_ups (ab_ups (ab_ups (ab_ups (ab_ups (ab_ups τ 117 0 why) 117 1 b) 117 2 d) 117 3 m) 117 4 tt) 93 51 (if why = 0 ∧ m ≠ -1 then fw_c (σ 95 4) else -1)) 93 52 (ev_c A e)) (fw_okM_ups (fw_okM_ups (fw_okM_upa (fw_okM_upa (fw_okM_upa (fw_okM_upa (fw_okM_upa M9 (by decide)) (by decide)) (by decide)) (by decide)) (by decide)) (by decide)) (by decide)) q2 (up2 (by decide) (up2 (by decide) ql)) q10 qj q51 ab_ups_eq
            unfold v_ev at g
            rw [hr, if_neg (fun y => y rfl)] at g
            replace g : K (some (0, 0, (jg_n A e i).2.1)) (ab_ups (ab_ups (ab_ups (ab_ups (ab_ups (ab_ups (ab_ups τ 117 0 why) 117 1 b) 117 2 d) 117 3 m) 117 4 tt) 93 51 (if why = 0 ∧ m ≠ -1 then fw_c (σ 95 4) else -1)) 93 52 (ev_c A e)) := g
            rw [hs] at g
            exact g
          refine ⟨by decide, trivial, by decide, trivial, by decide, trivial, by decide, trivial, by decide, trivial, fun w => fs_m_evening_154 hG (out (-1) ?_), fun w => ⟨fun w2 => fs_m_evening_154 hG (out (-1) ?_), fun w2 => ⟨by decide, out _ ?_⟩⟩⟩
          · rw [if_neg (fun y => w y.1), m1]
          · rw [if_neg (fun y => y.2 w2), m1]
          · rw [if_pos ⟨w, w2⟩]
        · have z0 : (tk e (ev_q e i)).1 ≠ 0 := fun y => z (kk.2.2.2.1.mpr y)
          have Nt : NM τ A := ev_NM M (by decide +kernel) N1
          refine ⟨A, e, ev_q e i, i, jg_n A e i, rfl, Nt, hm, J, B, ⟨h43, by omega⟩, (mk_row M (k := 95) (by decide) 3).trans f1, fun y σ' M' h10 h11 => ?_, fun y σ' M' hm' J' h43' => ?_⟩
          · have er2 : ev_r A e = ((ev_g A e (ev_q e i)).1, (ev_g A e (ev_q e i)).2, i) := by rw [hr, ev_a1 z0 y]
            have M9 : ab_okM ((93, 53) :: mb_M) σ1 σ' := ev_tr M (ev_up M' (by decide))
            have k9 := M1c M9 (by decide)
            refine fs_m_evening_68 hG ⟨fun w => absurd fw_c0 w, fun _ => ?_⟩
            have g := hf (by rw [er2]; exact y) σ' (ev_tr M1b (ev_up M9 (by decide))) k9.2 k9.1 (by rw [er2]; exact h10)
            unfold v_ev at g
            rw [if_pos (by rw [er2]; exact y), er2] at g
            rw [h11]
            exact g
          · refine fs_m_evening_68 hG ⟨fun _ => ?_, fun w => absurd (fw_c1.symm.trans w) (by decide)⟩
            have q4 := ev_q4 (A := A) hm.2.2.2.2.1 y
            exact ih (i + 1) σ' (by omega) (ev_tr M (ev_up M' (by decide))) hm' (by rw [ev_qs]; omega) ((mk_at M' (k := 93) (j := 53) (by decide)).trans h53) J' h43' (fun j hj => by
              by_cases c : j = i
              · rw [c]
                exact y
              · exact hl j (by omega)) (hr.trans (ev_a2 z0 y))
    exact loop 400 0 σ3 rfl M3 hm3 (by omega) g53 J3 g43 (fun j hj => absurd hj (Nat.not_lt_zero j)) er)
end
