section
/-! a tune's text -/
def lg : List Int → Nat → Int
  | [], _ => 0
  | a :: _, 0 => a
  | _ :: l, j + 1 => lg l j
theorem lg_a : ∀ (l r : List Int) (j : Nat), j < l.length → lg (l ++ r) j = lg l j
  | [], _, j, h => absurd h (Nat.not_lt_zero j)
  | _ :: _, _, 0, _ => rfl
  | _ :: l, r, j + 1, h => lg_a l r j (Nat.lt_of_succ_lt_succ h)
theorem lg_e : ∀ (l : List Int) (c : Int), lg (l ++ [c]) l.length = c
  | [], _ => rfl
  | _ :: l, c => lg_e l c
def nu (v : Int) : List Int := if fw_c 10 ≤ fw_c v then [fw_c (48 + fw_op 3 v 10), fw_c (48 + fw_op 4 v 10)] else [fw_c (48 + fw_op 4 v 10)]
theorem nu_l (v : Int) : (nu v).length ≤ 2 := by
  unfold nu
  split
  · exact Nat.le_refl _
  · exact Nat.le_succ _
def nk (A : ab_SG) (x k : Nat) : Int := if k % 2 = 0 then A 50 (x * 9 + k / 2) else A 51 (x * 9 + k / 2)
def sq (k : Nat) : List Int := if k = 0 then [] else [fw_c 32]
theorem sq_l (k : Nat) : (sq k).length ≤ 1 := by
  unfold sq
  split
  · exact Nat.zero_le _
  · exact Nat.le_refl _
def v_wk (A : ab_SG) (x : Nat) : Nat → List Int
  | 0 => []
  | k + 1 => (v_wk A x k ++ sq k) ++ nu (nk A x k)
theorem v_wk_s (A : ab_SG) (x k : Nat) : v_wk A x (k + 1) = (v_wk A x k ++ sq k) ++ nu (nk A x k) := rfl
theorem v_wk_l (A : ab_SG) (x : Nat) : ∀ k : Nat, (v_wk A x k).length ≤ 3 * k
  | 0 => Nat.le_refl _
  | k + 1 => by
    have a := v_wk_l A x k
    have b := nu_l (nk A x k)
    have c := sq_l k
    rw [v_wk_s, List.length_append, List.length_append]
    omega
theorem nk_0 (A : ab_SG) (x i : Nat) : nk A x (2 * i) = A 50 (x * 9 + i) := by
  unfold nk
  rw [if_pos (by omega), show 2 * i / 2 = i by omega]
theorem nk_1 (A : ab_SG) (x i : Nat) : nk A x (2 * i + 1) = A 51 (x * 9 + i) := by
  unfold nk
  rw [if_neg (by omega), show (2 * i + 1) / 2 = i by omega]
def v_write (A : ab_SG) (x : Int) : Int := if 0 ≤ x ∧ x < A 49 11 then ((v_wk A x.toNat (2 * (A 52 x.toNat).toNat)).length : Int) else -1
def tx_M : ab_ML := [(87, 1), (88, 1000000)]
def tm_M : ab_ML := [(93, 39), (113, 1000000)]
def wm_M : ab_ML := [(93, 0), (93, 39), (113, 1000000)]
def TXc (σ : ab_SG) (T : List Int) : Prop := σ 87 1 = (T.length : Int) ∧ ∀ j : Nat, j < T.length → σ 88 j = lg T j
def TXm (σ : ab_SG) (T : List Int) : Prop := σ 93 39 = (T.length : Int) ∧ ∀ j : Nat, j < T.length → σ 113 j = lg T j
theorem su_ne8 {k j : Nat} (h : su k j) : k ≠ 87 ∧ k ≠ 88 := by
  unfold su at h
  omega
theorem sw_ne8 {k j : Nat} (h : sw k j) : k ≠ 87 ∧ k ≠ 88 := by
  have g : sw_T.all (fun q => !(q.1.beq 87) && !(q.1.beq 88)) = true := by decide +kernel
  rcases h with ⟨q, hq, rfl, -⟩ | ⟨rfl, -⟩ | ⟨rfl, -⟩
  · have g2 : (!(q.1.beq 87) && !(q.1.beq 88)) = true := List.all_eq_true.mp g q hq
    refine ⟨fun e => ?_, fun e => ?_⟩
    · rw [e] at g2
      exact absurd g2 (by decide)
    · rw [e] at g2
      exact absurd g2 (by decide)
  · decide
  · decide
theorem sl_ne8 {k j : Nat} (h : sl k j) : k ≠ 87 ∧ k ≠ 88 := by
  have g : sw_L.all (fun q => !(q.1.beq 87) && !(q.1.beq 88)) = true := by decide +kernel
  obtain ⟨q, hq, rfl, -⟩ := h
  have g2 : (!(q.1.beq 87) && !(q.1.beq 88)) = true := List.all_eq_true.mp g q hq
  refine ⟨fun e => ?_, fun e => ?_⟩
  · rw [e] at g2
    exact absurd g2 (by decide)
  · rw [e] at g2
    exact absurd g2 (by decide)
theorem vW_wr {σ σ1 σm : ab_SG} (hc : cN σ) (h1 : ab_okM tx_M σ σ1) (hv : vW σm σ1) : vW σm σ := by
  have e : ∀ k j : Nat, k ≠ 87 ∧ k ≠ 88 → σ1 k j = σ k j := fun k j hk => h1 k j (fun q hq hh => by
    rcases List.mem_cons.mp hq with rfl | hq
    · exact hk.1 hh.1.symm
    · rw [List.mem_singleton.mp hq] at hh
      exact hk.2 hh.1.symm)
  refine ⟨fun k j hs => ?_, fun k j hs => ?_⟩
  · rw [hv.1 k j hs, e k j (hs.elim su_ne8 sw_ne8)]
  · rw [hv.2 k j hs, e k j (sl_ne8 hs)]
theorem RQ_wr {σ σ1 σm σ2 σ5 : ab_SG} (hc : cN σ) (hR : RQ σ) (h1 : ab_okM tx_M σ σ1) (hv : vW σm σ1) (h2 : ab_okM wm_M σm σ2) (hw : vW σ5 σ2) : RQ σ5 :=
  ⟨RQ9_tr (vw_W hw) ⟨ra_two (cn_N hc) h1 (vw_W hv) h2 (by decide) (by decide) hR.1.1, rb_two (cn_N hc) h1 (vw_W hv) h2 (by decide) (by decide) hR.1.2.1, rk_two (cn_N hc) h1 (vw_W hv) h2 (by decide) (by decide) hR.1.2.2⟩, rx_two hc h1 hv h2 hw (by decide +kernel) (by decide +kernel) hR.2⟩
theorem NC_wr {M : ab_ML} {σ σ' A : ab_SG} (h : ab_okM M σ σ') (m : rc_b M 3 = true) (hN : NC σ A) : NC σ' A := ⟨hN.1, hN.2.1, cn_cg hN.1 (cb_M h m) hN.2.2⟩
theorem NM_wr {M : ab_ML} {σ σ' A : ab_SG} (h : ab_okM M σ σ') (m : (M.all (fun q => !(q.1.beq 95)) && M.all (fun q => !(q.1.beq 99)) && mk_b M 93 22) = true) (hN : NM σ A) : NM σ' A := by
  rw [Bool.and_eq_true, Bool.and_eq_true] at m
  refine ⟨hN.1, hN.2.1, ?_⟩
  have e : mlN σ' = mlN σ := by
    funext j
    unfold mlN
    rw [mk_at h m.2, mk_row h m.1.1 j]
  rw [e, show σ' 99 = σ 99 from funext (mk_row h m.1.2)]
  exact hN.2.2
def sp_put88 : fw_SP := put_k 88 200
def sp_tclear : fw_SP := fun as σ K => as = [(2, 87, 0)] ∧ ∀ σ' : ab_SG, ab_okM tx_M σ σ' → TXc σ' [] → K none σ'
def sp_tsign : fw_SP := fun as σ K => ∃ (T : List Int) (c : Int), as = [(2, 87, 0), (0, 0, c)] ∧ T.length < 200 ∧ TXc σ T ∧ ∀ σ' : ab_SG, ab_okM tx_M σ σ' → TXc σ' (T ++ [fw_c c]) → K none σ'
def sp_tnum : fw_SP := fun as σ K => ∃ (T : List Int) (v : Int), as = [(2, 87, 0), (0, 0, v)] ∧ T.length < 198 ∧ TXc σ T ∧ ∀ σ' : ab_SG, ab_okM tx_M σ σ' → TXc σ' (T ++ nu v) → K none σ'
def sp_write : fw_SP := fun as σ K => ∃ (A : ab_SG) (x : Int), as = [(2, 0, 0), (0, 0, x)] ∧ fw_c x = x ∧ NC σ A ∧ ∀ σ' : ab_SG, ab_okM tx_M σ σ' → ((0 ≤ x ∧ x < A 49 11) → TXc σ' (v_wk A x.toNat (2 * (A 52 x.toNat).toNat))) → (¬ (0 ≤ x ∧ x < A 49 11) → σ' = σ) → K (some (0, 0, v_write A x)) σ'
def sp_m_put : fw_SP := fun as σ K => ∃ (T : List Int) (c : Int), as = [(2, 93, 0), (0, 0, c)] ∧ T.length < 200 ∧ TXm σ T ∧ ∀ σ' : ab_SG, ab_okM tm_M σ σ' → TXm σ' (T ++ [fw_c c]) → K none σ'
def sp_m_write : fw_SP := fun as σ K => ∃ (A : ab_SG) (x : Int), as = [(2, 93, 0), (0, 0, x)] ∧ fw_c x = x ∧ NM σ A ∧ ∀ σ' : ab_SG, ab_okM wm_M σ σ' → ((0 ≤ x ∧ x < A 49 11) → TXm σ' (v_wk A x.toNat (2 * (A 52 x.toNat).toNat))) → (¬ (0 ≤ x ∧ x < A 49 11) → σ' = ab_ups σ 93 0 0) → K (some (0, 0, v_write A x)) σ'
theorem tx_put {k f : Nat} {σ : ab_SG} {b : Nat} {T : List Int} {c : Int} (hk : k ≠ b) (hl : T.length < 200) (h1 : σ b f = (T.length : Int)) (h2 : ∀ j : Nat, j < T.length → σ k j = lg T j) {τ : ab_SG} (e : τ = ab_ups (ab_ups σ k (fw_c (σ b f)).toNat (fw_c c)) b f (fw_c (σ b f + 1))) :
    τ b f = ((T ++ [fw_c c]).length : Int) ∧ ∀ j : Nat, j < (T ++ [fw_c c]).length → τ k j = lg (T ++ [fw_c c]) j := by
  have el : (T ++ [fw_c c]).length = T.length + 1 := List.length_append
  have e1 : fw_c (σ b f) = (T.length : Int) := by
    rw [h1]
    exact fw_s (by omega) (by omega)
  refine ⟨?_, fun j hj => ?_⟩
  · rw [e, ab_ups_eq, h1, el, fw_s (x := (T.length : Int) + 1) (by omega) (by omega)]
    omega
  · rw [e, ab_ups_ne (fun z => hk z.1), e1, Int.toNat_natCast]
    by_cases q : j = T.length
    · rw [q, ab_ups_eq, lg_e]
    · rw [ab_ups_ne (fun z => q z.2), lg_a _ _ _ (by omega)]
      exact h2 j (by omega)
abbrev fk_put88 : List fw_CR := []
abbrev st_put88 : fw_K → fw_KR → fw_K := fw_st vwCl nn_sh nn_kd fw_kv fw_wc (nn_KI1.map (fun x => x.1)) (nn_KJ1.map (fun x => x.1)) (nn_PF1.map (fun x => x.1)) (nn_PS1.map (fun x => x.1)) fk_put88 0 nn_dt27 3 4
theorem fs_put88_0 {G : fw_K} {R : fw_KR} (hG : fw_cls st_put88 R G) {x v : Int} {σ : ab_SG} (h : (fw_c x < 0 → R none σ) ∧ (0 ≤ fw_c x → (fw_c ((200 : Nat) : Int) ≤ fw_c x → R none σ) ∧ (fw_c x < fw_c ((200 : Nat) : Int) → (0 ≤ fw_c x ∧ fw_c x < ((200 : Nat) : Int)) ∧ True ∧ (R none (ab_ups σ 88 (fw_c x).toNat (fw_c v)))))) : G 0 [some (2, 88, 0), some (0, 0, x), some (0, 0, v)] [] σ := fw_on hG [] 200 h
abbrev fk_tclear : List fw_CR := []
abbrev st_tclear : fw_K → fw_KR → fw_K := fw_st vwCl nn_sh nn_kd fw_kv fw_wc (nn_KI11.map (fun x => x.1)) (nn_KJ11.map (fun x => x.1)) (nn_PF11.map (fun x => x.1)) (nn_PS11.map (fun x => x.1)) fk_tclear 0 nn_dt109 1 4
theorem fs_tclear_0 {G : fw_K} {R : fw_KR} (hG : fw_cls st_tclear R G) {σ : ab_SG} (h : R none (ab_ups σ 87 1 (fw_c 0))) : G 0 [some (2, 87, 0)] [] σ := fw_on hG [] 200 h
abbrev fk_tsign : List fw_CR := [(17, 3, false, 0, 0, sp_put88)]
abbrev st_tsign : fw_K → fw_KR → fw_K := fw_st vwCl nn_sh nn_kd fw_kv fw_wc (nn_KI11.map (fun x => x.1)) (nn_KJ11.map (fun x => x.1)) (nn_PF11.map (fun x => x.1)) (nn_PS11.map (fun x => x.1)) fk_tsign 1 nn_dt122 2 4
theorem fs_tsign_0 {G : fw_K} {R : fw_KR} (hG : fw_cls st_tsign R G) {c : Int} {σ : ab_SG} (h : sp_put88 [(2, 88, 0), (0, 0, σ 87 1), (0, 0, c)] σ (fun rv σ2 => G 12 [some (2, 87, 0), some (0, 0, c)] (rv.toList ++ []) σ2)) : G 0 [some (2, 87, 0), some (0, 0, c)] [] σ := fw_on hG [12] 200 h
theorem fs_tsign_12 {G : fw_K} {R : fw_KR} (hG : fw_cls st_tsign R G) {o1 : Option ab_AV} {σ : ab_SG} (h : R none (ab_ups σ 87 1 (fw_c ((σ 87 1) + 1)))) : G 12 [some (2, 87, 0), o1] [] σ := fw_on hG [12] 200 h
abbrev fk_tnum : List fw_CR := [(33, 1, true, 9, 1, sp_tsign)]
abbrev st_tnum : fw_K → fw_KR → fw_K := fw_st vwCl nn_sh nn_kd fw_kv fw_wc (nn_KI11.map (fun x => x.1)) (nn_KJ11.map (fun x => x.1)) (nn_PF11.map (fun x => x.1)) (nn_PS11.map (fun x => x.1)) fk_tnum 2 nn_dt125 2 4
theorem fs_tnum_0 {G : fw_K} {R : fw_KR} (hG : fw_cls st_tnum R G) {v : Int} {σ : ab_SG} (h : (fw_c v < fw_c 10 → G 17 [some (2, 87, 0), some (0, 0, v)] [] σ) ∧ (fw_c 10 ≤ fw_c v → fw_c 10 ≠ 0 ∧ (sp_tsign [(2, 87, 0), (0, 0, 48 + (fw_op 3 v 10))] σ (fun rv σ2 => G 17 [some (2, 87, 0), some (0, 0, v)] (rv.toList ++ []) σ2)))) : G 0 [some (2, 87, 0), some (0, 0, v)] [] σ := fw_on hG [17, 28] 200 h
theorem fs_tnum_17 {G : fw_K} {R : fw_KR} (hG : fw_cls st_tnum R G) {a1 : Int} {σ : ab_SG} (h : fw_c 10 ≠ 0 ∧ (sp_tsign [(2, 87, 0), (0, 0, 48 + (fw_op 4 a1 10))] σ (fun rv σ2 => G 28 [some (2, 87, 0), some (0, 0, a1)] (rv.toList ++ []) σ2))) : G 17 [some (2, 87, 0), some (0, 0, a1)] [] σ := fw_on hG [17, 28] 200 h
theorem fs_tnum_28 {G : fw_K} {R : fw_KR} (hG : fw_cls st_tnum R G) {o1 : Option ab_AV} {σ : ab_SG} (h : R none σ) : G 28 [some (2, 87, 0), o1] [] σ := fw_on hG [17, 28] 200 h
abbrev fk_write : List fw_CR := [(150, 2, true, 6, 1, sp_pitch3), (154, 2, true, 6, 1, sp_beat3), (157, 1, true, 6, 0, sp_isTune3), (180, 2, false, 0, 0, sp_atn), (281, 0, true, 9, 0, sp_tclear), (300, 1, true, 9, 1, sp_tsign), (306, 1, true, 9, 2, sp_tnum)]
abbrev st_write : fw_K → fw_KR → fw_K := fw_st vwCl nn_sh nn_kd fw_kv fw_wc (nn_KI1.map (fun x => x.1)) (nn_KJ1.map (fun x => x.1)) (nn_PF1.map (fun x => x.1)) (nn_PS1.map (fun x => x.1)) fk_write 4 nn_dt170 3 0
theorem fs_write_0 {G : fw_K} {R : fw_KR} (hG : fw_cls st_write R G) {x : Int} {σ : ab_SG} (h : sp_isTune3 [(2, 3, 0), (0, 0, x)] σ (fun rv σ2 => G 8 [some (2, 0, 0), some (0, 0, x), none] (rv.toList ++ []) σ2)) : G 0 [some (2, 0, 0), some (0, 0, x), none] [] σ := fw_on hG [8, 20, 22, 34, 50, 63, 66, 75, 88, 91] 200 h
theorem fs_write_8 {G : fw_K} {R : fw_KR} (hG : fw_cls st_write R G) {a1 b0 : Int} {o2 : Option ab_AV} {σ : ab_SG} (h : (fw_c b0 ≠ 0 → sp_tclear [(2, 87, 0)] σ (fun rv σ2 => G 20 [some (2, 0, 0), some (0, 0, a1), o2] (rv.toList ++ []) σ2)) ∧ (fw_c b0 = 0 → R (some (0, 0, (-1))) σ)) : G 8 [some (2, 0, 0), some (0, 0, a1), o2] [(0, 0, b0)] σ := fw_on hG [8, 20, 22, 34, 50, 63, 66, 75, 88, 91] 200 h
theorem fs_write_20 {G : fw_K} {R : fw_KR} (hG : fw_cls st_write R G) {a1 : Int} {o2 : Option ab_AV} {σ : ab_SG} (h : G 22 [some (2, 0, 0), some (0, 0, a1), some (0, 0, 0)] [] σ) : G 20 [some (2, 0, 0), some (0, 0, a1), o2] [] σ := fw_on hG [8, 20, 22, 34, 50, 63, 66, 75, 88, 91] 200 h
theorem fs_write_22 {G : fw_K} {R : fw_KR} (hG : fw_cls st_write R G) {a1 a2 : Int} {σ : ab_SG} (h : sp_atn [(2, 6, 0), (0, 0, a1)] σ (fun rv σ2 => G 34 [some (2, 0, 0), some (0, 0, a1), some (0, 0, a2)] (rv.toList ++ [(0, 0, a2)]) σ2)) : G 22 [some (2, 0, 0), some (0, 0, a1), some (0, 0, a2)] [] σ := fw_on hG [8, 20, 22, 34, 50, 63, 66, 75, 88, 91] 200 h
theorem fs_write_34 {G : fw_K} {R : fw_KR} (hG : fw_cls st_write R G) {a1 a2 b0 b1 : Int} {σ : ab_SG} (h : (fw_c b0 ≤ fw_c b1 → R (some (0, 0, σ 87 1)) σ) ∧ (fw_c b1 < fw_c b0 → (fw_c a2 ≤ 0 → G 50 [some (2, 0, 0), some (0, 0, a1), some (0, 0, a2)] [] σ) ∧ (0 < fw_c a2 → sp_tsign [(2, 87, 0), (0, 0, 32)] σ (fun rv σ2 => G 50 [some (2, 0, 0), some (0, 0, a1), some (0, 0, a2)] (rv.toList ++ []) σ2)))) : G 34 [some (2, 0, 0), some (0, 0, a1), some (0, 0, a2)] [(0, 0, b0), (0, 0, b1)] σ := fw_on hG [8, 20, 22, 34, 50, 63, 66, 75, 88, 91] 200 h
theorem fs_write_50 {G : fw_K} {R : fw_KR} (hG : fw_cls st_write R G) {a1 a2 : Int} {σ : ab_SG} (h : sp_pitch3 [(2, 3, 0), (0, 0, a1), (0, 0, a2)] σ (fun rv σ2 => G 63 [some (2, 0, 0), some (0, 0, a1), some (0, 0, a2)] (rv.toList ++ [(2, 87, 0)]) σ2)) : G 50 [some (2, 0, 0), some (0, 0, a1), some (0, 0, a2)] [] σ := fw_on hG [8, 20, 22, 34, 50, 63, 66, 75, 88, 91] 200 h
theorem fs_write_63 {G : fw_K} {R : fw_KR} (hG : fw_cls st_write R G) {a1 a2 b0 : Int} {σ : ab_SG} (h : sp_tnum [(2, 87, 0), (0, 0, b0)] σ (fun rv σ2 => G 66 [some (2, 0, 0), some (0, 0, a1), some (0, 0, a2)] (rv.toList ++ []) σ2)) : G 63 [some (2, 0, 0), some (0, 0, a1), some (0, 0, a2)] [(0, 0, b0), (2, 87, 0)] σ := fw_on hG [8, 20, 22, 34, 50, 63, 66, 75, 88, 91] 200 h
theorem fs_write_66 {G : fw_K} {R : fw_KR} (hG : fw_cls st_write R G) {a1 a2 : Int} {σ : ab_SG} (h : sp_tsign [(2, 87, 0), (0, 0, 32)] σ (fun rv σ2 => G 75 [some (2, 0, 0), some (0, 0, a1), some (0, 0, a2)] (rv.toList ++ []) σ2)) : G 66 [some (2, 0, 0), some (0, 0, a1), some (0, 0, a2)] [] σ := fw_on hG [8, 20, 22, 34, 50, 63, 66, 75, 88, 91] 200 h
theorem fs_write_75 {G : fw_K} {R : fw_KR} (hG : fw_cls st_write R G) {a1 a2 : Int} {σ : ab_SG} (h : sp_beat3 [(2, 3, 0), (0, 0, a1), (0, 0, a2)] σ (fun rv σ2 => G 88 [some (2, 0, 0), some (0, 0, a1), some (0, 0, a2)] (rv.toList ++ [(2, 87, 0)]) σ2)) : G 75 [some (2, 0, 0), some (0, 0, a1), some (0, 0, a2)] [] σ := fw_on hG [8, 20, 22, 34, 50, 63, 66, 75, 88, 91] 200 h
theorem fs_write_88 {G : fw_K} {R : fw_KR} (hG : fw_cls st_write R G) {a1 a2 b0 : Int} {σ : ab_SG} (h : sp_tnum [(2, 87, 0), (0, 0, b0)] σ (fun rv σ2 => G 91 [some (2, 0, 0), some (0, 0, a1), some (0, 0, a2)] (rv.toList ++ []) σ2)) : G 88 [some (2, 0, 0), some (0, 0, a1), some (0, 0, a2)] [(0, 0, b0), (2, 87, 0)] σ := fw_on hG [8, 20, 22, 34, 50, 63, 66, 75, 88, 91] 200 h
theorem fs_write_91 {G : fw_K} {R : fw_KR} (hG : fw_cls st_write R G) {a1 a2 : Int} {σ : ab_SG} (h : G 22 [some (2, 0, 0), some (0, 0, a1), some (0, 0, a2 + 1)] [] σ) : G 91 [some (2, 0, 0), some (0, 0, a1), some (0, 0, a2)] [] σ := fw_on hG [8, 20, 22, 34, 50, 63, 66, 75, 88, 91] 200 h
abbrev fk_m_put : List fw_CR := []
abbrev st_m_put : fw_K → fw_KR → fw_K := fw_st vwCl nn_sh nn_kd fw_kv fw_wc (nn_KI20.map (fun x => x.1)) (nn_KJ20.map (fun x => x.1)) (nn_PF20.map (fun x => x.1)) (nn_PS20.map (fun x => x.1)) fk_m_put 0 nn_dt311 2 4
theorem fs_m_put_0 {G : fw_K} {R : fw_KR} (hG : fw_cls st_m_put R G) {c : Int} {σ : ab_SG} (h : (0 ≤ fw_c (σ 93 39) ∧ fw_c (σ 93 39) < ((200 : Nat) : Int)) ∧ True ∧ (R none (ab_ups (ab_ups σ 113 (fw_c (σ 93 39)).toNat (fw_c c)) 93 39 (fw_c ((σ 93 39) + 1))))) : G 0 [some (2, 93, 0), some (0, 0, c)] [] σ := fw_on hG [] 200 h
abbrev fk_m_write : List fw_CR := [(267, 1, true, 11, 1, sp_m_isTune), (270, 1, true, 11, 1, sp_m_notes), (273, 3, true, 11, 1, sp_m_noteOf), (404, 1, true, 11, 0, sp_m_put)]
abbrev st_m_write : fw_K → fw_KR → fw_K := fw_st vwCl nn_sh nn_kd fw_kv fw_wc (nn_KI20.map (fun x => x.1)) (nn_KJ20.map (fun x => x.1)) (nn_PF20.map (fun x => x.1)) (nn_PS20.map (fun x => x.1)) fk_m_write 3 nn_dt312 4 0
theorem fs_m_write_0 {G : fw_K} {R : fw_KR} (hG : fw_cls st_m_write R G) {x : Int} {σ : ab_SG} (h : sp_m_isTune [(2, 93, 0), (0, 0, x)] (ab_ups σ 93 0 (fw_c 0)) (fun rv σ2 => G 10 [some (2, 93, 0), some (0, 0, x), none, none] (rv.toList ++ []) σ2)) : G 0 [some (2, 93, 0), some (0, 0, x), none, none] [] σ := fw_on hG [10, 22, 29, 43, 54, 72, 83] 200 h
theorem fs_m_write_10 {G : fw_K} {R : fw_KR} (hG : fw_cls st_m_write R G) {a1 b0 : Int} {o2 o3 : Option ab_AV} {σ : ab_SG} (h : (fw_c b0 ≠ 0 → G 22 [some (2, 93, 0), some (0, 0, a1), some (0, 0, 0), o3] [] (ab_ups σ 93 39 (fw_c 0))) ∧ (fw_c b0 = 0 → R (some (0, 0, (-1))) σ)) : G 10 [some (2, 93, 0), some (0, 0, a1), o2, o3] [(0, 0, b0)] σ := fw_on hG [10, 22, 29, 43, 54, 72, 83] 200 h
theorem fs_m_write_22 {G : fw_K} {R : fw_KR} (hG : fw_cls st_m_write R G) {a1 a2 : Int} {o3 : Option ab_AV} {σ : ab_SG} (h : sp_m_notes [(2, 93, 0), (0, 0, a1)] σ (fun rv σ2 => G 29 [some (2, 93, 0), some (0, 0, a1), some (0, 0, a2), o3] (rv.toList ++ [(0, 0, 2), (0, 0, a2)]) σ2)) : G 22 [some (2, 93, 0), some (0, 0, a1), some (0, 0, a2), o3] [] σ := fw_on hG [10, 22, 29, 43, 54, 72, 83] 200 h
theorem fs_m_write_29 {G : fw_K} {R : fw_KR} (hG : fw_cls st_m_write R G) {a1 a2 b0 b1 b2 : Int} {o3 : Option ab_AV} {σ : ab_SG} (h : (fw_c (b1 * b0) ≤ fw_c b2 → R (some (0, 0, σ 93 39)) σ) ∧ (fw_c b2 < fw_c (b1 * b0) → (fw_c a2 ≤ 0 → G 43 [some (2, 93, 0), some (0, 0, a1), some (0, 0, a2), o3] [] σ) ∧ (0 < fw_c a2 → sp_m_put [(2, 93, 0), (0, 0, 32)] σ (fun rv σ2 => G 43 [some (2, 93, 0), some (0, 0, a1), some (0, 0, a2), o3] (rv.toList ++ []) σ2)))) : G 29 [some (2, 93, 0), some (0, 0, a1), some (0, 0, a2), o3] [(0, 0, b0), (0, 0, b1), (0, 0, b2)] σ := fw_on hG [10, 22, 29, 43, 54, 72, 83] 200 h
theorem fs_m_write_43 {G : fw_K} {R : fw_KR} (hG : fw_cls st_m_write R G) {a1 a2 : Int} {o3 : Option ab_AV} {σ : ab_SG} (h : fw_c 2 ≠ 0 ∧ (fw_c 2 ≠ 0 ∧ (sp_m_noteOf [(2, 93, 0), (0, 0, a1), (0, 0, fw_op 3 a2 2), (0, 0, fw_op 4 a2 2)] σ (fun rv σ2 => G 54 [some (2, 93, 0), some (0, 0, a1), some (0, 0, a2), o3] (rv.toList ++ []) σ2)))) : G 43 [some (2, 93, 0), some (0, 0, a1), some (0, 0, a2), o3] [] σ := fw_on hG [10, 22, 29, 43, 54, 72, 83] 200 h
theorem fs_m_write_54 {G : fw_K} {R : fw_KR} (hG : fw_cls st_m_write R G) {a1 a2 b0 : Int} {o3 : Option ab_AV} {σ : ab_SG} (h : (fw_c b0 ≤ fw_c 9 → G 72 [some (2, 93, 0), some (0, 0, a1), some (0, 0, a2), some (0, 0, b0)] [] σ) ∧ (fw_c 9 < fw_c b0 → fw_c 10 ≠ 0 ∧ (sp_m_put [(2, 93, 0), (0, 0, 48 + (fw_op 3 b0 10))] σ (fun rv σ2 => G 72 [some (2, 93, 0), some (0, 0, a1), some (0, 0, a2), some (0, 0, b0)] (rv.toList ++ []) σ2)))) : G 54 [some (2, 93, 0), some (0, 0, a1), some (0, 0, a2), o3] [(0, 0, b0)] σ := fw_on hG [10, 22, 29, 43, 54, 72, 83] 200 h
theorem fs_m_write_72 {G : fw_K} {R : fw_KR} (hG : fw_cls st_m_write R G) {a1 a2 a3 : Int} {σ : ab_SG} (h : fw_c 10 ≠ 0 ∧ (sp_m_put [(2, 93, 0), (0, 0, 48 + (fw_op 4 a3 10))] σ (fun rv σ2 => G 83 [some (2, 93, 0), some (0, 0, a1), some (0, 0, a2), some (0, 0, a3)] (rv.toList ++ []) σ2))) : G 72 [some (2, 93, 0), some (0, 0, a1), some (0, 0, a2), some (0, 0, a3)] [] σ := fw_on hG [10, 22, 29, 43, 54, 72, 83] 200 h
theorem fs_m_write_83 {G : fw_K} {R : fw_KR} (hG : fw_cls st_m_write R G) {a1 a2 : Int} {o3 : Option ab_AV} {σ : ab_SG} (h : G 22 [some (2, 93, 0), some (0, 0, a1), some (0, 0, a2 + 1), o3] [] σ) : G 83 [some (2, 93, 0), some (0, 0, a1), some (0, 0, a2), o3] [] σ := fw_on hG [10, 22, 29, 43, 54, 72, 83] 200 h
section
variable {l : Launch} {cy : Nat → ClassId} {ad wr cr : Nat → Nat} {D : va_G}
theorem fm_put88 (hinj : nn_inj ad) : fw_H l cy ad wr cr D 27 0 sp_put88 := fw_mk hinj (⟨"NameNotes", "put", "([III)V"⟩, prog_1_method_86_code, 3, (Option.none : Option Jvm.ClassFile.FieldType), 3, false, 4) rfl rfl nn_KI1_ok nn_KJ1_ok nn_PF1_ok nn_PS1_ok (by decide +kernel) rfl rfl (fun _ h => absurd h List.not_mem_nil) (fun as σ K h => by
  obtain ⟨x, v, rfl, h1, h2⟩ := h
  exact ⟨rfl, fun G hG => put_gen (k := 88) (n := 200) (K := K) (σ := σ) (x := x) (c := fw_c v) (by decide) (fs_put88_0 hG) h1 h2⟩)
theorem fm_tclear (hinj : nn_inj ad) : fw_H l cy ad wr cr D 109 0 sp_tclear := fw_mk hinj (⟨"NameNotes$Text", "clear", "()V"⟩, prog_11_method_2_code, 1, (Option.none : Option Jvm.ClassFile.FieldType), 0, true, 4) rfl rfl nn_KI11_ok nn_KJ11_ok nn_PF11_ok nn_PS11_ok (by decide +kernel) rfl rfl (fun _ h => absurd h List.not_mem_nil) (fun as σ K h => by
  obtain ⟨rfl, h⟩ := h
  refine ⟨rfl, fun G hG => fs_tclear_0 hG (h _ (fw_okM_ups (fw_okM_refl _ _) (by decide)) ⟨?_, fun j hj => absurd hj (Nat.not_lt_zero j)⟩)⟩
  rw [ab_ups_eq, fw_c0]
  rfl)
theorem fm_tsign (hinj : nn_inj ad) : fw_H l cy ad wr cr D 122 1 sp_tsign := fw_mk hinj (⟨"NameNotes$Text", "addSign", "(I)V"⟩, prog_11_method_3_code, 2, (Option.none : Option Jvm.ClassFile.FieldType), 1, true, 4) rfl rfl nn_KI11_ok nn_KJ11_ok nn_PF11_ok nn_PS11_ok (by decide +kernel) rfl rfl (List.forall_mem_cons.mpr ⟨fw_row nn_PM11_ok (x := 17) (k := 2) (mn := 27) (np := 3) (ob := false) (ci := 0) (⟨"NameNotes", "put", "([III)V"⟩, prog_1_method_86_code, 3, (Option.none : Option Jvm.ClassFile.FieldType), 3, false, 4) rfl (by decide +kernel) rfl rfl (by decide) (fun q => by cases q) (fm_put88 hinj), (fun _ h => absurd h List.not_mem_nil)⟩) (fun as σ K h => by
  obtain ⟨T, c, rfl, hl, hT, h⟩ := h
  have e : fw_c (σ 87 1) = (T.length : Int) := by
    rw [hT.1]
    exact fw_s (by omega) (by omega)
  refine ⟨rfl, fun G hG => fs_tsign_0 hG ⟨_, _, rfl, fun _ => fs_tsign_12 hG (h _ (fw_okM_ups (fw_okM_upa (fw_okM_refl _ _) (by decide)) (by decide)) (tx_put (k := 88) (b := 87) (f := 1) (by decide) hl hT.1 hT.2 (by rw [ab_ups_ne (σ := σ) (k := 88) (fun z => absurd z.1 (by decide))]))), fun z => absurd (by rw [e]; exact ⟨Int.natCast_nonneg _, by omega⟩) z⟩⟩)
theorem fm_tnum (hinj : nn_inj ad) : fw_H l cy ad wr cr D 125 2 sp_tnum := fw_mk hinj (⟨"NameNotes$Text", "addNumber", "(I)V"⟩, prog_11_method_6_code, 2, (Option.none : Option Jvm.ClassFile.FieldType), 1, true, 4) rfl rfl nn_KI11_ok nn_KJ11_ok nn_PF11_ok nn_PS11_ok (by decide +kernel) rfl rfl (List.forall_mem_cons.mpr ⟨fw_row nn_PM11_ok (x := 33) (k := 0) (mn := 122) (np := 1) (ob := true) (ci := 9) (⟨"NameNotes$Text", "addSign", "(I)V"⟩, prog_11_method_3_code, 2, (Option.none : Option Jvm.ClassFile.FieldType), 1, true, 4) rfl (by decide +kernel) rfl rfl (by decide) (fun _ => ⟨_, _, rfl⟩) (fm_tsign hinj), (fun _ h => absurd h List.not_mem_nil)⟩) (fun as σ K h => by
  obtain ⟨T, v, rfl, hl, hT, h⟩ := h
  have t10 : fw_c 10 ≠ 0 := by
    rw [fw_s (x := 10) (by decide) (by decide)]
    decide
  refine ⟨rfl, fun G hG => ?_⟩
  have last : ∀ (T' : List Int) (τ : ab_SG), T'.length < 200 → ab_okM tx_M σ τ → TXc τ T' → (∀ σ' : ab_SG, ab_okM tx_M σ σ' → TXc σ' (T' ++ [fw_c (48 + fw_op 4 v 10)]) → K none σ') → G 17 [some (2, 87, 0), some (0, 0, v)] [] τ :=
    fun T' τ hl' M hT' g => fs_tnum_17 hG ⟨t10, T', _, rfl, hl', hT', fun τ' M' t => fs_tnum_28 hG (g τ' (fw_okM_tr M M' (fun _ h => h)) t)⟩
  refine fs_tnum_0 hG ⟨fun q => last T σ (by omega) (fw_okM_refl _ _) hT (fun σ' M t => h σ' M ?_), fun q => ⟨t10, T, _, rfl, by omega, hT, fun τ M t => last (T ++ [fw_c (48 + fw_op 3 v 10)]) τ ?_ M t (fun σ' M' t' => h σ' M' ?_)⟩⟩
  · unfold nu
    rw [if_neg (by omega)]
    exact t
  · rw [List.length_append]
    show T.length + 1 < 200
    omega
  · unfold nu
    rw [if_pos q]
    rw [List.append_assoc] at t'
    exact t')
theorem fm_write (hinj : nn_inj ad) : fw_H l cy ad wr cr D 170 4 sp_write := fw_mk hinj (⟨"NameNotes", "write", "(I)I"⟩, prog_1_method_53_code, 3, (Option.some Jvm.ClassFile.FieldType.int), 1, true, 0) rfl rfl nn_KI1_ok nn_KJ1_ok nn_PF1_ok nn_PS1_ok (by decide +kernel) rfl rfl (List.forall_mem_cons.mpr ⟨fw_row nn_PM1_ok (x := 150) (k := 0) (mn := 47) (np := 2) (ob := true) (ci := 6) (⟨"NameNotes$Studio", "pitch", "(II)I"⟩, prog_8_method_11_code, 3, (Option.some Jvm.ClassFile.FieldType.int), 2, true, 0) rfl (by decide +kernel) rfl rfl (by decide) (fun _ => ⟨_, _, rfl⟩) (fm_pitch3 hinj), (List.forall_mem_cons.mpr ⟨fw_row nn_PM1_ok (x := 154) (k := 0) (mn := 48) (np := 2) (ob := true) (ci := 6) (⟨"NameNotes$Studio", "beat", "(II)I"⟩, prog_8_method_12_code, 3, (Option.some Jvm.ClassFile.FieldType.int), 2, true, 0) rfl (by decide +kernel) rfl rfl (by decide) (fun _ => ⟨_, _, rfl⟩) (fm_beat3 hinj), (List.forall_mem_cons.mpr ⟨fw_row nn_PM1_ok (x := 157) (k := 0) (mn := 46) (np := 1) (ob := true) (ci := 6) (⟨"NameNotes$Studio", "isTune", "(I)Z"⟩, prog_8_method_4_code, 2, (Option.some Jvm.ClassFile.FieldType.boolean), 1, true, 1) rfl (by decide +kernel) rfl rfl (by decide) (fun _ => ⟨_, _, rfl⟩) (fm_isTune3 hinj), (List.forall_mem_cons.mpr ⟨fw_row nn_PM1_ok (x := 180) (k := 0) (mn := 29) (np := 2) (ob := false) (ci := 0) (⟨"NameNotes", "at", "([II)I"⟩, prog_1_method_84_code, 2, (Option.some Jvm.ClassFile.FieldType.int), 2, false, 0) rfl (by decide +kernel) rfl rfl (by decide) (fun q => by cases q) (fm_atn hinj), (List.forall_mem_cons.mpr ⟨fw_row nn_PM1_ok (x := 281) (k := 0) (mn := 109) (np := 0) (ob := true) (ci := 9) (⟨"NameNotes$Text", "clear", "()V"⟩, prog_11_method_2_code, 1, (Option.none : Option Jvm.ClassFile.FieldType), 0, true, 4) rfl (by decide +kernel) rfl rfl (by decide) (fun _ => ⟨_, _, rfl⟩) (fm_tclear hinj), (List.forall_mem_cons.mpr ⟨fw_row nn_PM1_ok (x := 300) (k := 0) (mn := 122) (np := 1) (ob := true) (ci := 9) (⟨"NameNotes$Text", "addSign", "(I)V"⟩, prog_11_method_3_code, 2, (Option.none : Option Jvm.ClassFile.FieldType), 1, true, 4) rfl (by decide +kernel) rfl rfl (by decide) (fun _ => ⟨_, _, rfl⟩) (fm_tsign hinj), (List.forall_mem_cons.mpr ⟨fw_row nn_PM1_ok (x := 306) (k := 0) (mn := 125) (np := 1) (ob := true) (ci := 9) (⟨"NameNotes$Text", "addNumber", "(I)V"⟩, prog_11_method_6_code, 2, (Option.none : Option Jvm.ClassFile.FieldType), 1, true, 4) rfl (by decide +kernel) rfl rfl (by decide) (fun _ => ⟨_, _, rfl⟩) (fm_tnum hinj), (fun _ h => absurd h List.not_mem_nil)⟩)⟩)⟩)⟩)⟩)⟩)⟩) (fun as σ K h => by
  obtain ⟨A, x, rfl, ex, hN, h⟩ := h
  unfold v_write at h
  refine ⟨rfl, fun G hG => fs_write_0 hG ⟨x, rfl, fs_write_8 hG ?_⟩⟩
  rw [c_tu_v hN ex]
  refine ⟨fun q1 => ?_, fun q => ?_⟩
  · have h1 := fw_bo_ne q1
    rw [if_pos h1] at h
    obtain ⟨x', rfl⟩ := Int.eq_ofNat_of_zero_le h1.1
    obtain ⟨s9, s1, s2⟩ := N_sz hN.1 hN.2.1 h1.2
    obtain ⟨N, eN⟩ := Int.eq_ofNat_of_zero_le (show 0 ≤ A 52 x' by omega)
    rw [Int.toNat_natCast, eN, Int.toNat_natCast] at h
    have NCt : ∀ τ : ab_SG, ab_okM tx_M σ τ → NC τ A := fun τ M => NC_wr M (by decide +kernel) hN
    have loop : ∀ (f i : Nat) (τ : ab_SG), i + f = N → ab_okM tx_M σ τ → TXc τ (v_wk A x' (2 * i)) → G 22 [some (2, 0, 0), some (0, 0, (x' : Int)), some (0, 0, (i : Int))] [] τ := by
      intro f
      induction f with
      | zero =>
        intro i τ hi M t
        have e : i = N := by omega
        refine fs_write_22 hG ⟨(6, 9), by decide, _, rfl, fun _ => fs_write_34 hG ?_, fun z => absurd (by rw [ex]; exact ⟨Int.natCast_nonneg _, by omega⟩) z⟩
        rw [ex, Int.toNat_natCast, NC_sz (NCt τ M) h1.2, eN, t.1, e, fw_s (x := (N : Int)) (by omega) (by omega)]
        rw [e] at t
        exact ⟨fun _ => h τ M (fun _ => t) (fun z => absurd h1 z), fun z => absurd z (Int.lt_irrefl _)⟩
      | succ f ih =>
        intro i τ hi M t
        have hi2 : (i : Int) < A 52 x' := by omega
        have l0 := v_wk_l A x' (2 * i)
        have l1 : (v_wk A x' (2 * i) ++ sq (2 * i)).length ≤ 6 * i + 1 := by
          have := sq_l (2 * i)
          rw [List.length_append]
          omega
        have l2 : (v_wk A x' (2 * i) ++ sq (2 * i) ++ nu (A 50 (x' * 9 + i))).length ≤ 6 * i + 3 := by
          have := nu_l (A 50 (x' * 9 + i))
          rw [List.length_append]
          omega
        have l3 : (v_wk A x' (2 * i) ++ sq (2 * i) ++ nu (A 50 (x' * 9 + i)) ++ [fw_c 32]).length ≤ 6 * i + 4 := by
          rw [List.length_append]
          show _ + 1 ≤ _
          omega
        have rest : ∀ τ : ab_SG, ab_okM tx_M σ τ → TXc τ (v_wk A x' (2 * i) ++ sq (2 * i)) → G 50 [some (2, 0, 0), some (0, 0, (x' : Int)), some (0, 0, (i : Int))] [] τ := by
          intro τ M t
          refine fs_write_50 hG ⟨A, x', i, rfl, NCt τ M, h1.2, hi2, fs_write_63 hG ⟨_, _, rfl, by omega, t, fun τ1 M1 t1 => fs_write_66 hG ⟨_, _, rfl, by omega, t1, fun τ2 M2 t2 => fs_write_75 hG ⟨A, x', i, rfl, NCt τ2 (fw_okM_tr (fw_okM_tr M M1 (fun _ h => h)) M2 (fun _ h => h)), h1.2, hi2, fs_write_88 hG ⟨_, _, rfl, by omega, t2, fun τ3 M3 t3 => fs_write_91 hG (ih (i + 1) τ3 (by omega) (fw_okM_tr (fw_okM_tr (fw_okM_tr M M1 (fun _ h => h)) M2 (fun _ h => h)) M3 (fun _ h => h)) ?_)⟩⟩⟩⟩⟩
          rw [show 2 * (i + 1) = 2 * i + 1 + 1 by omega, v_wk_s, v_wk_s, nk_0, nk_1]
          exact t3
        refine fs_write_22 hG ⟨(6, 9), by decide, _, rfl, fun _ => fs_write_34 hG ?_, fun z => absurd (by rw [ex]; exact ⟨Int.natCast_nonneg _, by omega⟩) z⟩
        rw [ex, Int.toNat_natCast, NC_sz (NCt τ M) h1.2, eN, fw_s (x := (N : Int)) (by omega) (by omega), fw_s (x := (i : Int)) (by omega) (by omega)]
        refine ⟨fun z => absurd z (by omega), fun _ => ⟨fun q => rest τ M ?_, fun q => ⟨_, _, rfl, by omega, t, fun τ1 M1 t1 => rest τ1 (fw_okM_tr M M1 (fun _ h => h)) ?_⟩⟩⟩
        · unfold sq
          rw [if_pos (by omega), List.append_nil]
          exact t
        · unfold sq
          rw [if_neg (by omega)]
          exact t1
    exact ⟨rfl, fun τ M t => fs_write_20 hG (loop N 0 τ (Nat.zero_add _) M t)⟩
  · have hn : ¬ (0 ≤ x ∧ x < A 49 11) := fw_bo_eq q
    rw [if_neg hn] at h
    exact h σ (fw_okM_refl _ _) (fun z => absurd z hn) (fun _ => rfl))
theorem fm_m_put (hinj : nn_inj ad) : fw_H l cy ad wr cr D 311 0 sp_m_put := fw_mk hinj (⟨"NameNotesModel", "put", "(I)V"⟩, prog_14_method_107_code, 2, (Option.none : Option Jvm.ClassFile.FieldType), 1, true, 4) rfl rfl nn_KI20_ok nn_KJ20_ok nn_PF20_ok nn_PS20_ok (by decide +kernel) rfl rfl (fun _ h => absurd h List.not_mem_nil) (fun as σ K h => by
  obtain ⟨T, c, rfl, hl, hT, h⟩ := h
  have e : fw_c (σ 93 39) = (T.length : Int) := by
    rw [hT.1]
    exact fw_s (by omega) (by omega)
  exact ⟨rfl, fun G hG => fs_m_put_0 hG ⟨by rw [e]; exact ⟨Int.natCast_nonneg _, by omega⟩, trivial, h _ (fw_okM_ups (fw_okM_upa (fw_okM_refl _ _) (by decide)) (by decide)) (tx_put (k := 113) (b := 93) (f := 39) (by decide) hl hT.1 hT.2 rfl)⟩⟩)
theorem fm_m_write (hinj : nn_inj ad) : fw_H l cy ad wr cr D 312 3 sp_m_write := fw_mk hinj (⟨"NameNotesModel", "write", "(I)I"⟩, prog_14_method_110_code, 4, (Option.some Jvm.ClassFile.FieldType.int), 1, true, 0) rfl rfl nn_KI20_ok nn_KJ20_ok nn_PF20_ok nn_PS20_ok (by decide +kernel) rfl rfl (List.forall_mem_cons.mpr ⟨fw_row nn_PM20_ok (x := 267) (k := 0) (mn := 239) (np := 1) (ob := true) (ci := 11) (⟨"NameNotesModel", "isTune", "(I)Z"⟩, prog_14_method_42_code, 2, (Option.some Jvm.ClassFile.FieldType.boolean), 1, true, 1) rfl (by decide +kernel) rfl rfl (by decide) (fun _ => ⟨_, _, rfl⟩) (fm_m_isTune hinj), (List.forall_mem_cons.mpr ⟨fw_row nn_PM20_ok (x := 270) (k := 0) (mn := 241) (np := 1) (ob := true) (ci := 11) (⟨"NameNotesModel", "notes", "(I)I"⟩, prog_14_method_45_code, 2, (Option.some Jvm.ClassFile.FieldType.int), 1, true, 0) rfl (by decide +kernel) rfl rfl (by decide) (fun _ => ⟨_, _, rfl⟩) (fm_m_notes hinj), (List.forall_mem_cons.mpr ⟨fw_row nn_PM20_ok (x := 273) (k := 0) (mn := 242) (np := 3) (ob := true) (ci := 11) (⟨"NameNotesModel", "noteOf", "(III)I"⟩, prog_14_method_46_code, 4, (Option.some Jvm.ClassFile.FieldType.int), 3, true, 0) rfl (by decide +kernel) rfl rfl (by decide) (fun _ => ⟨_, _, rfl⟩) (fm_m_noteOf hinj), (List.forall_mem_cons.mpr ⟨fw_row nn_PM20_ok (x := 404) (k := 0) (mn := 311) (np := 1) (ob := true) (ci := 11) (⟨"NameNotesModel", "put", "(I)V"⟩, prog_14_method_107_code, 2, (Option.none : Option Jvm.ClassFile.FieldType), 1, true, 4) rfl (by decide +kernel) rfl rfl (by decide) (fun _ => ⟨_, _, rfl⟩) (fm_m_put hinj), (fun _ h => absurd h List.not_mem_nil)⟩)⟩)⟩)⟩) (fun as σ K h => by
  obtain ⟨A, x, rfl, ex, hN, h⟩ := h
  have hU := NM_ups (v := 0) hN
  unfold v_write at h
  refine ⟨rfl, fun G hG => fs_m_write_0 hG ?_⟩
  rw [fw_c0]
  refine ⟨x, rfl, fs_m_write_10 hG ?_⟩
  rw [m_tu_v hU ex]
  refine ⟨fun q1 => ?_, fun q => ?_⟩
  · have h1 := fw_bo_ne q1
    rw [if_pos h1] at h
    obtain ⟨x', rfl⟩ := Int.eq_ofNat_of_zero_le h1.1
    obtain ⟨s9, s1, s2⟩ := N_sz hN.1 hN.2.1 h1.2
    obtain ⟨N, eN⟩ := Int.eq_ofNat_of_zero_le (show 0 ≤ A 52 x' by omega)
    rw [Int.toNat_natCast, eN, Int.toNat_natCast] at h
    have NMt : ∀ τ : ab_SG, ab_okM wm_M σ τ → NM τ A := fun τ M => NM_wr M (by decide +kernel) hN
    have up : ∀ τ τ' : ab_SG, ab_okM wm_M σ τ → ab_okM tm_M τ τ' → ab_okM wm_M σ τ' := fun τ τ' M M' => fw_okM_tr M M' (by decide)
    have t10 : fw_c 10 = 10 := fw_s (by decide) (by decide)
    have t9 : fw_c 9 = 9 := fw_s (by decide) (by decide)
    have t2 : fw_c 2 = 2 := fw_s (by decide) (by decide)
    have n10 : fw_c 10 ≠ 0 := by
      rw [t10]
      decide
    have n2 : fw_c 2 ≠ 0 := by
      rw [t2]
      decide
    have dv : ∀ k : Nat, k < 18 → fw_op 3 (k : Int) 2 = ((k / 2 : Nat) : Int) ∧ fw_op 4 (k : Int) 2 = ((k % 2 : Nat) : Int) := by decide +kernel
    have nt : ∀ (τ : ab_SG) (k : Nat), ab_okM wm_M σ τ → k < 2 * N → τ 95 (6 + k % 2 + 19 * x' + 2 * (k / 2)) = nk A x' k := by
      intro τ k M hk
      have g := NM_nt (NMt τ M) h1.2 (i := k / 2) (by omega)
      unfold nk
      by_cases q : k % 2 = 0
      · rw [if_pos q, q]
        exact g.1
      · rw [if_neg q, show k % 2 = 1 by omega]
        exact g.2
    have loop : ∀ (f k : Nat) (τ : ab_SG) (o3 : Option ab_AV), k + f = 2 * N → ab_okM wm_M σ τ → TXm τ (v_wk A x' k) → G 22 [some (2, 93, 0), some (0, 0, (x' : Int)), some (0, 0, (k : Int)), o3] [] τ := by
      intro f
      induction f with
      | zero =>
        intro k τ o3 hk M t
        have e : k = 2 * N := by omega
        refine fs_m_write_22 hG ⟨x', rfl, s9, fs_m_write_29 hG ?_⟩
        rw [NM_sz (NMt τ M) h1.2, eN, t.1, fw_s (x := 2 * (N : Int)) (by omega) (by omega), fw_s (x := (k : Int)) (by omega) (by omega), e]
        rw [e] at t
        exact ⟨fun _ => h τ M (fun _ => t) (fun z => absurd h1 z), fun z => absurd z (by omega)⟩
      | succ f ih =>
        intro k τ o3 hk M t
        have l0 := v_wk_l A x' k
        have l1 : (v_wk A x' k ++ sq k).length ≤ 3 * k + 1 := by
          have := sq_l k
          rw [List.length_append]
          omega
        have d := dv k (by omega)
        have last : ∀ (T : List Int) (τ : ab_SG), T.length < 200 → ab_okM wm_M σ τ → TXm τ T → T ++ [fw_c (48 + fw_op 4 (nk A x' k) 10)] = v_wk A x' (k + 1) → G 72 [some (2, 93, 0), some (0, 0, (x' : Int)), some (0, 0, (k : Int)), some (0, 0, nk A x' k)] [] τ := by
          intro T τ hl M t e
          refine fs_m_write_72 hG ⟨n10, T, _, rfl, hl, t, fun τ' M' t' => fs_m_write_83 hG (ih (k + 1) τ' _ (by omega) (up _ _ M M') ?_)⟩
          rw [← e]
          exact t'
        have rest : ∀ τ : ab_SG, ab_okM wm_M σ τ → TXm τ (v_wk A x' k ++ sq k) → G 43 [some (2, 93, 0), some (0, 0, (x' : Int)), some (0, 0, (k : Int)), o3] [] τ := by
          intro τ M t
          refine fs_m_write_43 hG ⟨n2, n2, x', k / 2, k % 2, by rw [d.1, d.2], s9, by omega, by omega, fs_m_write_54 hG ?_⟩
          rw [nt τ k M (by omega)]
          refine ⟨fun q => last _ τ (by omega) M t ?_, fun q => ⟨n10, _, _, rfl, by omega, t, fun τ1 M1 t1 => last _ τ1 ?_ (up _ _ M M1) t1 ?_⟩⟩
          · rw [v_wk_s, nu, if_neg (by omega)]
          · rw [List.length_append]
            show _ + 1 < 200
            omega
          · rw [v_wk_s, nu, if_pos (by omega), List.append_assoc (v_wk A x' k ++ sq k)]
            rfl
        refine fs_m_write_22 hG ⟨x', rfl, s9, fs_m_write_29 hG ?_⟩
        rw [NM_sz (NMt τ M) h1.2, eN, fw_s (x := 2 * (N : Int)) (by omega) (by omega), fw_s (x := (k : Int)) (by omega) (by omega)]
        refine ⟨fun z => absurd z (by omega), fun _ => ⟨fun q => rest τ M ?_, fun q => ⟨_, _, rfl, by omega, t, fun τ1 M1 t1 => rest τ1 (up _ _ M M1) ?_⟩⟩⟩
        · unfold sq
          rw [if_pos (by omega), List.append_nil]
          exact t
        · unfold sq
          rw [if_neg (by omega)]
          exact t1
    refine loop (2 * N) 0 _ _ (Nat.zero_add _) (fw_okM_ups (fw_okM_ups (fw_okM_refl _ _) (by decide)) (by decide)) ⟨?_, fun j hj => absurd hj (Nat.not_lt_zero j)⟩
    rw [ab_ups_eq, fw_c0]
    rfl
  · have hn : ¬ (0 ≤ x ∧ x < A 49 11) := fw_bo_eq q
    rw [if_neg hn] at h
    exact h _ (fw_okM_ups (fw_okM_refl _ _) (by decide)) (fun z => absurd z hn) (fun _ => rfl))
end
end
section
/-! the letters of a name: as the class writes them, as the reference does -/
def nm_nl : Nat → Int → List Int
  | 0, _ => []
  | n + 1, w => if w = 0 then [] else nm_nl n (w / 32) ++ [w % 32 + 96]
def nm_dv : Nat → Int → Int
  | 0, w => w
  | k + 1, w => nm_dv k (w / 32)
/-- the letters from place k - 1 down to 0 -/
def nm_cl : Nat → Int → List Int
  | 0, _ => []
  | k + 1, w => (if 0 < nm_dv k w % 32 then [96 + nm_dv k w % 32] else []) ++ nm_cl k w
theorem nm_cl_in (k : Nat) : ∀ w : Int, nm_cl (k + 1) w = nm_cl k (w / 32) ++ (if 0 < w % 32 then [96 + w % 32] else []) := by
  induction k with
  | zero =>
    intro w
    show (if 0 < w % 32 then [96 + w % 32] else []) ++ [] = [] ++ (if 0 < w % 32 then [96 + w % 32] else [])
    rw [List.append_nil, List.nil_append]
  | succ k ih =>
    intro w
    show (if 0 < nm_dv k (w / 32) % 32 then [96 + nm_dv k (w / 32) % 32] else []) ++ nm_cl (k + 1) w = ((if 0 < nm_dv k (w / 32) % 32 then [96 + nm_dv k (w / 32) % 32] else []) ++ nm_cl k (w / 32)) ++ _
    rw [ih w, List.append_assoc]
theorem nm_cl_0 : ∀ k : Nat, nm_cl k 0 = [] := by
  intro k
  induction k with
  | zero => rfl
  | succ k ih =>
    rw [nm_cl_in, show (0 : Int) / 32 = 0 from by decide, ih]
    rfl
theorem nm_cn : ∀ (n : Nat) (w : Int), rf_ok n w → nm_cl n w = nm_nl n w := by
  intro n
  induction n with
  | zero => intro w _; rfl
  | succ n ih =>
    intro w h
    rw [nm_cl_in]
    rcases h with h | ⟨h1, h2, h3⟩
    · subst h
      rw [show (0 : Int) / 32 = 0 from by decide, nm_cl_0]
      rfl
    · rw [ih _ h3, if_pos (by omega)]
      show _ = if w = 0 then [] else nm_nl n (w / 32) ++ [w % 32 + 96]
      rw [if_neg (by omega), Int.add_comm]
theorem nm_dv_s (k : Nat) : ∀ w : Int, nm_dv (k + 1) w = nm_dv k w / 32 := by
  induction k with
  | zero => intro w; rfl
  | succ k ih => intro w; exact ih (w / 32)
theorem nm_dv_ok : ∀ (k n : Nat) (w : Int), rf_ok (k + n) w → rf_ok n (nm_dv k w) := by
  intro k
  induction k with
  | zero => intro n w h; rw [Nat.zero_add] at h; exact h
  | succ k ih =>
    intro n w h
    rw [show k + 1 + n = (k + n) + 1 by omega] at h
    show rf_ok n (nm_dv k (w / 32))
    refine ih n (w / 32) ?_
    rcases h with h | ⟨-, -, h⟩
    · rw [h, show (0 : Int) / 32 = 0 from by decide]
      exact rf_ok_0 _
    · exact h
/-- the reference's number: its last digit, and the rest -/
theorem nm_rf (n : Nat) {w : Int} (h : rf_ok (n + 1) w) : rf_w (n + 1) w % 27 = w % 32 ∧ rf_w (n + 1) w / 27 = rf_w n (w / 32) ∧ (rf_w (n + 1) w = 0 ↔ w = 0) := by
  have b := rf_w_in n (w / 32)
  show (27 * rf_w n (w / 32) + w % 32) % 27 = w % 32 ∧ (27 * rf_w n (w / 32) + w % 32) / 27 = rf_w n (w / 32) ∧ (27 * rf_w n (w / 32) + w % 32 = 0 ↔ w = 0)
  rcases h with h | ⟨h1, h2, h3⟩
  · subst h
    rw [show (0 : Int) / 32 = 0 from by decide, rf_w_0]
    decide
  · omega
end
section
/-! the evening that both bid best, as a text -/
theorem lf_one (w s : Int) : fw_lop 5 (fw_u w s) 31 = ((((Int64.ofInt w).toUInt64 >>> ((Int32.ofInt s).toInt64.toUInt64 &&& Int64.toUInt64 63)).toInt64) &&& Int64.ofInt 31).toInt := by
  show (Int64.ofInt (fw_u w s) &&& Int64.ofInt 31).toInt = _
  unfold fw_u
  rw [Int64.ofInt_toInt]
theorem lf_e {m : Nat} (hm : m < 34359738368) (s : Nat) : ((BitVec.ofInt 64 (m : Int) >>> s) &&& 31#64).toInt = ((m / 2 ^ s % 32 : Nat) : Int) := by
  have e0 : (BitVec.ofInt 64 (m : Int)).toNat = m := by
    rw [BitVec.toNat_ofInt]
    omega
  have e1 : ((BitVec.ofInt 64 (m : Int) >>> s) &&& 31#64).toNat = m / 2 ^ s % 32 := by
    rw [BitVec.toNat_and, BitVec.toNat_ushiftRight, e0, Nat.shiftRight_eq_div_pow]
    exact Nat.and_two_pow_sub_one_eq_mod _ 5
  have e2 : m / 2 ^ s % 32 < 32 := Nat.mod_lt _ (by decide)
  rw [BitVec.toInt_eq_toNat_of_lt (by rw [e1]; omega), e1]
theorem lf_dv (m : Nat) : ∀ k : Nat, nm_dv k (m : Int) = ((m / 32 ^ k : Nat) : Int) := by
  intro k
  induction k with
  | zero =>
    show (m : Int) = ((m / 1 : Nat) : Int)
    rw [Nat.div_one]
  | succ k ih =>
    rw [nm_dv_s, ih, Nat.pow_succ, ← Nat.div_div_eq_div_mul]
    omega
theorem lf_0 (V : Int64) : ((V.toUInt64 >>> ((Int32.ofInt 0).toInt64.toUInt64 &&& Int64.toUInt64 63)).toInt64 &&& Int64.ofInt 31).toInt = ((V.toBitVec >>> 0) &&& 31#64).toInt := rfl
theorem lf_5 (V : Int64) : ((V.toUInt64 >>> ((Int32.ofInt 5).toInt64.toUInt64 &&& Int64.toUInt64 63)).toInt64 &&& Int64.ofInt 31).toInt = ((V.toBitVec >>> 5) &&& 31#64).toInt := rfl
theorem lf_10 (V : Int64) : ((V.toUInt64 >>> ((Int32.ofInt 10).toInt64.toUInt64 &&& Int64.toUInt64 63)).toInt64 &&& Int64.ofInt 31).toInt = ((V.toBitVec >>> 10) &&& 31#64).toInt := rfl
theorem lf_15 (V : Int64) : ((V.toUInt64 >>> ((Int32.ofInt 15).toInt64.toUInt64 &&& Int64.toUInt64 63)).toInt64 &&& Int64.ofInt 31).toInt = ((V.toBitVec >>> 15) &&& 31#64).toInt := rfl
theorem lf_20 (V : Int64) : ((V.toUInt64 >>> ((Int32.ofInt 20).toInt64.toUInt64 &&& Int64.toUInt64 63)).toInt64 &&& Int64.ofInt 31).toInt = ((V.toBitVec >>> 20) &&& 31#64).toInt := rfl
theorem lf_25 (V : Int64) : ((V.toUInt64 >>> ((Int32.ofInt 25).toInt64.toUInt64 &&& Int64.toUInt64 63)).toInt64 &&& Int64.ofInt 31).toInt = ((V.toBitVec >>> 25) &&& 31#64).toInt := rfl
theorem lf_30 (V : Int64) : ((V.toUInt64 >>> ((Int32.ofInt 30).toInt64.toUInt64 &&& Int64.toUInt64 63)).toInt64 &&& Int64.ofInt 31).toInt = ((V.toBitVec >>> 30) &&& 31#64).toInt := rfl
/-- letter k of a name, as the class takes it out -/
theorem lf_k {w : Int} (h0 : 0 ≤ w) (h1 : w < 34359738368) (k : Nat) (hk : k < 7) : fw_lop 5 (fw_u w (5 * (k : Int))) 31 = nm_dv k w % 32 := by
  obtain ⟨m, rfl⟩ := Int.eq_ofNat_of_zero_le h0
  have hm : m < 34359738368 := by omega
  rw [lf_one, lf_dv]
  have mo : ∀ x : Nat, ((x % 32 : Nat) : Int) = (x : Int) % 32 := fun x => by omega
  rcases (show k = 0 ∨ k = 1 ∨ k = 2 ∨ k = 3 ∨ k = 4 ∨ k = 5 ∨ k = 6 by omega) with rfl | rfl | rfl | rfl | rfl | rfl | rfl
  · exact (lf_0 (Int64.ofInt (m : Int))).trans ((lf_e hm 0).trans (mo _))
  · exact (lf_5 (Int64.ofInt (m : Int))).trans ((lf_e hm 5).trans (mo _))
  · exact (lf_10 (Int64.ofInt (m : Int))).trans ((lf_e hm 10).trans (mo _))
  · exact (lf_15 (Int64.ofInt (m : Int))).trans ((lf_e hm 15).trans (mo _))
  · exact (lf_20 (Int64.ofInt (m : Int))).trans ((lf_e hm 20).trans (mo _))
  · exact (lf_25 (Int64.ofInt (m : Int))).trans ((lf_e hm 25).trans (mo _))
  · exact (lf_30 (Int64.ofInt (m : Int))).trans ((lf_e hm 30).trans (mo _))
theorem nm_nl_l : ∀ (n : Nat) (w : Int), (nm_nl n w).length ≤ n
  | 0, _ => Nat.le_refl _
  | n + 1, w => by
    show (if w = 0 then [] else nm_nl n (w / 32) ++ [w % 32 + 96]).length ≤ n + 1
    by_cases h : w = 0
    · rw [if_pos h]
      exact Nat.zero_le _
    · rw [if_neg h, List.length_append]
      have := nm_nl_l n (w / 32)
      show _ + 1 ≤ _
      omega
def pw_c : List Int := [99, 108, 117, 101, 32]
def pw_n : List Int := [110, 97, 109, 101, 59]
def pl_f (mv : Nat → Int) (P Q : List Int) : Nat → Nat → Nat → List Int
  | 0, _, _ => []
  | f + 1, side, n => ((if side = 0 then P else Q) ++ [32]) ++ (if mv (10 * side + n) = 0 then pw_n else [48 + mv (10 * side + n)] ++ ([59] ++ pl_f mv P Q f (1 - side) (mv (10 * side + n)).toNat))
theorem pl_s (mv : Nat → Int) (P Q : List Int) (f side n : Nat) : pl_f mv P Q (f + 1) side n = ((if side = 0 then P else Q) ++ [32]) ++ (if mv (10 * side + n) = 0 then pw_n else [48 + mv (10 * side + n)] ++ ([59] ++ pl_f mv P Q f (1 - side) (mv (10 * side + n)).toNat)) := rfl
def v_pt (A : ab_SG) (p q c : Int) : List Int := ((pw_c ++ nm_nl 7 (A 58 c.toNat)) ++ [59]) ++ pl_f (v_du A p q c).2 (nm_nl 7 (A 59 p.toNat)) (nm_nl 7 (A 59 q.toNat)) 10 0 0
def v_play (A : ab_SG) (p q c : Int) : Int := if v_bd A p q 0 c then ((v_pt A p q c).length : Int) else -1
/-- the names are words -/
def rw_ok (A : ab_SG) : Prop := (∀ j : Nat, (j : Int) < A 49 12 → rf_ok 7 (A 58 j)) ∧ (∀ j : Nat, (j : Int) < A 49 13 → rf_ok 7 (A 59 j))
theorem rw_of {N W : Nat → Int} {A : ab_SG} (h : sr_is N W A) : rw_ok A := ⟨fun j hj => (h.2.2.2.2.2.2.2.2.2.1 j hj).1, fun j hj => (h.2.2.2.2.2.2.2.2.2.2 j hj).1⟩
theorem nm_in {w : Int} (h : rf_ok 7 w) : 0 ≤ w ∧ w < 34359738368 := rf_ok_in 7 w h
def pl_M : ab_ML := (87, 1) :: (88, 1000000) :: du_M
def pm_T : ab_ML := [(93, 39), (113, 1000000), (114, 1000000)]
def pm_N : ab_ML := (93, 39) :: (113, 1000000) :: (114, 1000000) :: dm_N
def tw_T : List (Nat × Nat) := [(12, 6), (13, 5)]
def sp_atw : fw_SP := sp_of atl_k tw_T
def sp_at88 : fw_SP := at_k 88 200
def sp_addName : fw_SP := fun as σ K => ∃ (T : List Int) (w : Int), as = [(2, 87, 0), (1, 0, w)] ∧ rf_ok 7 w ∧ T.length + 7 ≤ 200 ∧ TXc σ T ∧ ∀ σ' : ab_SG, ab_okM tx_M σ σ' → TXc σ' (T ++ nm_nl 7 w) → K none σ'
def sp_addSpeaker : fw_SP := fun as σ K => ∃ (A : ab_SG) (T : List Int) (p : Nat), as = [(2, 0, 0), (0, 0, (p : Int))] ∧ NC σ A ∧ rw_ok A ∧ (p : Int) < A 49 13 ∧ T.length + 8 ≤ 200 ∧ TXc σ T ∧ ∀ σ' : ab_SG, ab_okM tx_M σ σ' → TXc σ' (T ++ (nm_nl 7 (A 59 p) ++ [32])) → K none σ'
def sp_play : fw_SP := fun as σ K => ∃ (A : ab_SG) (p q c : Int), as = [(2, 0, 0), (0, 0, p), (0, 0, q), (0, 0, c)] ∧ (fw_c p = p ∧ fw_c q = q ∧ fw_c c = c) ∧ NC σ A ∧ rw_ok A ∧ ∀ σ' : ab_SG, ab_okM pl_M σ σ' → (v_bd A p q 0 c → TXc σ' (v_pt A p q c)) → (¬ v_bd A p q 0 c → σ' = σ) → K (some (0, 0, v_play A p q c)) σ'
def sp_m_putName : fw_SP := fun as σ K => ∃ (T : List Int) (w : Int), as = [(2, 93, 0), (1, 0, rf_w 7 w)] ∧ rf_ok 7 w ∧ T.length + 7 ≤ 200 ∧ TXm σ T ∧ ∀ σ' : ab_SG, ab_okM pm_T σ σ' → TXm σ' (T ++ nm_nl 7 w) → K none σ'
def sp_m_play : fw_SP := fun as σ K => ∃ (A : ab_SG) (p q c : Int), as = [(2, 93, 0), (0, 0, p), (0, 0, q), (0, 0, c)] ∧ (fw_c p = p ∧ fw_c q = q ∧ fw_c c = c) ∧ NM σ A ∧ (0 < A 49 13 → σ 95 3 = A 49 14) ∧ ∀ σ' : ab_SG, ab_okM pm_N σ σ' → (v_bd A p q 0 c → TXm σ' (v_pt A p q c)) → (¬ v_bd A p q 0 c → σ' = ab_ups σ 93 0 0) → K (some (0, 0, v_play A p q c)) σ'
theorem vW_pl {σ σ1 σm : ab_SG} (hc : cN σ) (h1 : ab_okM pl_M σ σ1) (hv : vW σm σ1) : vW σm σ := vW_free (by decide +kernel) h1 hv
theorem RQ_pl {σ σ1 σm σ2 σ5 : ab_SG} (hc : cN σ) (hR : RQ σ) (h1 : ab_okM pl_M σ σ1) (hv : vW σm σ1) (h2 : ab_okM pm_N σm σ2) (hw : vW σ5 σ2) : RQ σ5 :=
  ⟨RQ9_tr (vw_W hw) ⟨ra_two (cn_N hc) h1 (vw_W hv) h2 (by decide) (by decide) hR.1.1, rb_two (cn_N hc) h1 (vw_W hv) h2 (by decide) (by decide) hR.1.2.1, rk_two (cn_N hc) h1 (vw_W hv) h2 (by decide) (by decide) hR.1.2.2⟩, rx_two hc h1 hv h2 hw (by decide +kernel) (by decide +kernel) hR.2⟩
theorem du_95p {σ σ1 σm A : ab_SG} (hc : cN σ) (hR : RQ σ) (h1 : ab_okM pl_M σ σ1) (hv : vW σm σ1) (hA : cn_is σ 3 A) (hp : 0 < A 49 13) : σm 95 3 = A 49 14 := by
  have e : σm 95 3 = σ 95 3 := xm_at hc h1 hv (Or.inl (su95 (by decide))) (by decide)
  obtain ⟨-, -, h13, h4⟩ := hR.1.2.1
  rcases h4 with ⟨-, b⟩ | ⟨-, -, -, -, b⟩
  · rw [e, b]
    exact hA.2.2.2.1
  · have := hA.2.2.1
    omega
theorem TXm_k {σ σ' : ab_SG} {T : List Int} (e1 : σ' 93 39 = σ 93 39) (e2 : ∀ j : Nat, σ' 113 j = σ 113 j) (h : TXm σ T) : TXm σ' T := ⟨e1.trans h.1, fun j hj => (e2 j).trans (h.2 j hj)⟩
abbrev fk_at12 : List fw_CR := []
abbrev st_at12 : fw_K → fw_KR → fw_K := fw_st vwCl nn_sh nn_kd fw_kv fw_wc (nn_KI1.map (fun x => x.1)) (nn_KJ1.map (fun x => x.1)) (nn_PF1.map (fun x => x.1)) (nn_PS1.map (fun x => x.1)) fk_at12 0 nn_dt87 2 2
theorem fs_at12_0 {G : fw_K} {R : fw_KR} (hG : fw_cls st_at12 R G) {x : Int} {σ : ab_SG} (h : (fw_c x < 0 → R (some (1, 0, ((0 : Nat) : Int))) σ) ∧ (0 ≤ fw_c x → (fw_c ((6 : Nat) : Int) ≤ fw_c x → R (some (1, 0, ((0 : Nat) : Int))) σ) ∧ (fw_c x < fw_c ((6 : Nat) : Int) → (0 ≤ fw_c x ∧ fw_c x < ((6 : Nat) : Int)) ∧ (R (some (1, 0, σ 12 (fw_c x).toNat)) σ)))) : G 0 [some (2, 12, 0), some (0, 0, x)] [] σ := fw_on hG [] 200 h
abbrev fk_at13 : List fw_CR := []
abbrev st_at13 : fw_K → fw_KR → fw_K := fw_st vwCl nn_sh nn_kd fw_kv fw_wc (nn_KI1.map (fun x => x.1)) (nn_KJ1.map (fun x => x.1)) (nn_PF1.map (fun x => x.1)) (nn_PS1.map (fun x => x.1)) fk_at13 0 nn_dt87 2 2
theorem fs_at13_0 {G : fw_K} {R : fw_KR} (hG : fw_cls st_at13 R G) {x : Int} {σ : ab_SG} (h : (fw_c x < 0 → R (some (1, 0, ((0 : Nat) : Int))) σ) ∧ (0 ≤ fw_c x → (fw_c ((5 : Nat) : Int) ≤ fw_c x → R (some (1, 0, ((0 : Nat) : Int))) σ) ∧ (fw_c x < fw_c ((5 : Nat) : Int) → (0 ≤ fw_c x ∧ fw_c x < ((5 : Nat) : Int)) ∧ (R (some (1, 0, σ 13 (fw_c x).toNat)) σ)))) : G 0 [some (2, 13, 0), some (0, 0, x)] [] σ := fw_on hG [] 200 h
abbrev fk_addName : List fw_CR := [(33, 1, true, 9, 1, sp_tsign)]
abbrev st_addName : fw_K → fw_KR → fw_K := fw_st vwCl nn_sh nn_kd fw_kv fw_wc (nn_KI11.map (fun x => x.1)) (nn_KJ11.map (fun x => x.1)) (nn_PF11.map (fun x => x.1)) (nn_PS11.map (fun x => x.1)) fk_addName 2 nn_dt123 5 4
theorem fs_addName_0 {G : fw_K} {R : fw_KR} (hG : fw_cls st_addName R G) {w : Int} {σ : ab_SG} (h : G 3 [some (2, 87, 0), some (1, 0, w), none, some (0, 0, 30), none] [] σ) : G 0 [some (2, 87, 0), some (1, 0, w), none, none, none] [] σ := fw_on hG [3, 31] 200 h
theorem fs_addName_3 {G : fw_K} {R : fw_KR} (hG : fw_cls st_addName R G) {a1 a3 : Int} {o4 : Option ab_AV} {σ : ab_SG} (h : (fw_c a3 < 0 → R none σ) ∧ (0 ≤ fw_c a3 → (fw_c (fw_lop 5 (fw_u a1 a3) 31) ≤ 0 → G 31 [some (2, 87, 0), some (1, 0, a1), none, some (0, 0, a3), some (0, 0, fw_lop 5 (fw_u a1 a3) 31)] [] σ) ∧ (0 < fw_c (fw_lop 5 (fw_u a1 a3) 31) → sp_tsign [(2, 87, 0), (0, 0, 96 + (fw_lop 5 (fw_u a1 a3) 31))] σ (fun rv σ2 => G 31 [some (2, 87, 0), some (1, 0, a1), none, some (0, 0, a3), some (0, 0, fw_lop 5 (fw_u a1 a3) 31)] (rv.toList ++ []) σ2)))) : G 3 [some (2, 87, 0), some (1, 0, a1), none, some (0, 0, a3), o4] [] σ := fw_on hG [3, 31] 200 h
theorem fs_addName_31 {G : fw_K} {R : fw_KR} (hG : fw_cls st_addName R G) {a1 a3 : Int} {o4 : Option ab_AV} {σ : ab_SG} (h : G 3 [some (2, 87, 0), some (1, 0, a1), none, some (0, 0, a3 + (-5)), o4] [] σ) : G 31 [some (2, 87, 0), some (1, 0, a1), none, some (0, 0, a3), o4] [] σ := fw_on hG [3, 31] 200 h
abbrev fk_addSpeaker : List fw_CR := [(293, 2, false, 0, 0, sp_atw), (296, 1, true, 9, 2, sp_addName), (300, 1, true, 9, 1, sp_tsign)]
abbrev st_addSpeaker : fw_K → fw_KR → fw_K := fw_st vwCl nn_sh nn_kd fw_kv fw_wc (nn_KI1.map (fun x => x.1)) (nn_KJ1.map (fun x => x.1)) (nn_PF1.map (fun x => x.1)) (nn_PS1.map (fun x => x.1)) fk_addSpeaker 3 nn_dt124 2 4
theorem fs_addSpeaker_0 {G : fw_K} {R : fw_KR} (hG : fw_cls st_addSpeaker R G) {p : Int} {σ : ab_SG} (h : sp_atw [(2, 13, 0), (0, 0, p)] σ (fun rv σ2 => G 15 [some (2, 0, 0), some (0, 0, p)] (rv.toList ++ [(2, 87, 0)]) σ2)) : G 0 [some (2, 0, 0), some (0, 0, p)] [] σ := fw_on hG [15, 18, 27] 200 h
theorem fs_addSpeaker_15 {G : fw_K} {R : fw_KR} (hG : fw_cls st_addSpeaker R G) {a1 b0 : Int} {σ : ab_SG} (h : sp_addName [(2, 87, 0), (1, 0, b0)] σ (fun rv σ2 => G 18 [some (2, 0, 0), some (0, 0, a1)] (rv.toList ++ []) σ2)) : G 15 [some (2, 0, 0), some (0, 0, a1)] [(1, 0, b0), (2, 87, 0)] σ := fw_on hG [15, 18, 27] 200 h
theorem fs_addSpeaker_18 {G : fw_K} {R : fw_KR} (hG : fw_cls st_addSpeaker R G) {a1 : Int} {σ : ab_SG} (h : sp_tsign [(2, 87, 0), (0, 0, 32)] σ (fun rv σ2 => G 27 [some (2, 0, 0), some (0, 0, a1)] (rv.toList ++ []) σ2)) : G 18 [some (2, 0, 0), some (0, 0, a1)] [] σ := fw_on hG [15, 18, 27] 200 h
theorem fs_addSpeaker_27 {G : fw_K} {R : fw_KR} (hG : fw_cls st_addSpeaker R G) {a1 : Int} {σ : ab_SG} (h : R none σ) : G 27 [some (2, 0, 0), some (0, 0, a1)] [] σ := fw_on hG [15, 18, 27] 200 h
abbrev fk_play : List fw_CR := [(239, 4, true, 10, 2, sp_canBid), (242, 3, true, 10, 5, sp_weigh), (246, 2, true, 0, 1, sp_dmove), (281, 0, true, 9, 0, sp_tclear), (293, 2, false, 0, 0, sp_atw), (296, 1, true, 9, 2, sp_addName), (300, 1, true, 9, 1, sp_tsign), (303, 1, true, 10, 3, sp_addSpeaker), (306, 1, true, 9, 2, sp_tnum)]
abbrev st_play : fw_K → fw_KR → fw_K := fw_st vwCl nn_sh nn_kd fw_kv fw_wc (nn_KI1.map (fun x => x.1)) (nn_KJ1.map (fun x => x.1)) (nn_PF1.map (fun x => x.1)) (nn_PS1.map (fun x => x.1)) fk_play 12 nn_dt108 7 0
theorem fs_play_0 {G : fw_K} {R : fw_KR} (hG : fw_cls st_play R G) {p q c : Int} {σ : ab_SG} (h : sp_canBid [(2, 0, 0), (0, 0, p), (0, 0, q), (0, 0, 0), (0, 0, c)] σ (fun rv σ2 => G 8 [some (2, 0, 0), some (0, 0, p), some (0, 0, q), some (0, 0, c), none, none, none] (rv.toList ++ []) σ2)) : G 0 [some (2, 0, 0), some (0, 0, p), some (0, 0, q), some (0, 0, c), none, none, none] [] σ := fw_on hG [8, 20, 27, 31, 37, 52, 55, 64, 76, 81, 104, 107, 116, 125, 142, 150, 161, 164, 168, 174] 200 h
theorem fs_play_8 {G : fw_K} {R : fw_KR} (hG : fw_cls st_play R G) {a1 a2 a3 b0 : Int} {o4 o5 o6 : Option ab_AV} {σ : ab_SG} (h : (fw_c b0 ≠ 0 → sp_weigh [(2, 0, 0), (0, 0, a1), (0, 0, a2), (0, 0, a3)] σ (fun rv σ2 => G 20 [some (2, 0, 0), some (0, 0, a1), some (0, 0, a2), some (0, 0, a3), o4, o5, o6] (rv.toList ++ []) σ2)) ∧ (fw_c b0 = 0 → R (some (0, 0, (-1))) σ)) : G 8 [some (2, 0, 0), some (0, 0, a1), some (0, 0, a2), some (0, 0, a3), o4, o5, o6] [(0, 0, b0)] σ := fw_on hG [8, 20, 27, 31, 37, 52, 55, 64, 76, 81, 104, 107, 116, 125, 142, 150, 161, 164, 168, 174] 200 h
theorem fs_play_20 {G : fw_K} {R : fw_KR} (hG : fw_cls st_play R G) {a1 a2 a3 : Int} {o4 o5 o6 : Option ab_AV} {σ : ab_SG} (h : sp_tclear [(2, 87, 0)] σ (fun rv σ2 => G 27 [some (2, 0, 0), some (0, 0, a1), some (0, 0, a2), some (0, 0, a3), o4, o5, o6] (rv.toList ++ []) σ2)) : G 20 [some (2, 0, 0), some (0, 0, a1), some (0, 0, a2), some (0, 0, a3), o4, o5, o6] [] σ := fw_on hG [8, 20, 27, 31, 37, 52, 55, 64, 76, 81, 104, 107, 116, 125, 142, 150, 161, 164, 168, 174] 200 h
theorem fs_play_27 {G : fw_K} {R : fw_KR} (hG : fw_cls st_play R G) {a1 a2 a3 : Int} {o4 o5 o6 : Option ab_AV} {σ : ab_SG} (h : G 31 [some (2, 0, 0), some (0, 0, a1), some (0, 0, a2), some (0, 0, a3), o4, o5, o6] [(2, 87, 0)] σ) : G 27 [some (2, 0, 0), some (0, 0, a1), some (0, 0, a2), some (0, 0, a3), o4, o5, o6] [] σ := fw_on hG [8, 20, 27, 31, 37, 52, 55, 64, 76, 81, 104, 107, 116, 125, 142, 150, 161, 164, 168, 174] 200 h
theorem fs_play_37 {G : fw_K} {R : fw_KR} (hG : fw_cls st_play R G) {a1 a2 a3 : Int} {o4 o5 o6 : Option ab_AV} {σ : ab_SG} (h : sp_atw [(2, 12, 0), (0, 0, a3)] σ (fun rv σ2 => G 52 [some (2, 0, 0), some (0, 0, a1), some (0, 0, a2), some (0, 0, a3), o4, o5, o6] (rv.toList ++ [(2, 87, 0)]) σ2)) : G 37 [some (2, 0, 0), some (0, 0, a1), some (0, 0, a2), some (0, 0, a3), o4, o5, o6] [] σ := fw_on hG [8, 20, 27, 31, 37, 52, 55, 64, 76, 81, 104, 107, 116, 125, 142, 150, 161, 164, 168, 174] 200 h
theorem fs_play_52 {G : fw_K} {R : fw_KR} (hG : fw_cls st_play R G) {a1 a2 a3 b0 : Int} {o4 o5 o6 : Option ab_AV} {σ : ab_SG} (h : sp_addName [(2, 87, 0), (1, 0, b0)] σ (fun rv σ2 => G 55 [some (2, 0, 0), some (0, 0, a1), some (0, 0, a2), some (0, 0, a3), o4, o5, o6] (rv.toList ++ []) σ2)) : G 52 [some (2, 0, 0), some (0, 0, a1), some (0, 0, a2), some (0, 0, a3), o4, o5, o6] [(1, 0, b0), (2, 87, 0)] σ := fw_on hG [8, 20, 27, 31, 37, 52, 55, 64, 76, 81, 104, 107, 116, 125, 142, 150, 161, 164, 168, 174] 200 h
theorem fs_play_55 {G : fw_K} {R : fw_KR} (hG : fw_cls st_play R G) {a1 a2 a3 : Int} {o4 o5 o6 : Option ab_AV} {σ : ab_SG} (h : sp_tsign [(2, 87, 0), (0, 0, 59)] σ (fun rv σ2 => G 64 [some (2, 0, 0), some (0, 0, a1), some (0, 0, a2), some (0, 0, a3), o4, o5, o6] (rv.toList ++ []) σ2)) : G 55 [some (2, 0, 0), some (0, 0, a1), some (0, 0, a2), some (0, 0, a3), o4, o5, o6] [] σ := fw_on hG [8, 20, 27, 31, 37, 52, 55, 64, 76, 81, 104, 107, 116, 125, 142, 150, 161, 164, 168, 174] 200 h
theorem fs_play_64 {G : fw_K} {R : fw_KR} (hG : fw_cls st_play R G) {a1 a2 a3 : Int} {o4 o5 o6 : Option ab_AV} {σ : ab_SG} (h : sp_dmove [(2, 77, 0), (0, 0, 0), (0, 0, 0)] σ (fun rv σ2 => G 76 [some (2, 0, 0), some (0, 0, a1), some (0, 0, a2), some (0, 0, a3), some (0, 0, 0), o5, o6] (rv.toList ++ []) σ2)) : G 64 [some (2, 0, 0), some (0, 0, a1), some (0, 0, a2), some (0, 0, a3), o4, o5, o6] [] σ := fw_on hG [8, 20, 27, 31, 37, 52, 55, 64, 76, 81, 104, 107, 116, 125, 142, 150, 161, 164, 168, 174] 200 h
theorem fs_play_76 {G : fw_K} {R : fw_KR} (hG : fw_cls st_play R G) {a1 a2 a3 a4 b0 : Int} {o5 o6 : Option ab_AV} {σ : ab_SG} (h : G 81 [some (2, 0, 0), some (0, 0, a1), some (0, 0, a2), some (0, 0, a3), some (0, 0, a4), some (0, 0, b0), some (0, 0, 0)] [] σ) : G 76 [some (2, 0, 0), some (0, 0, a1), some (0, 0, a2), some (0, 0, a3), some (0, 0, a4), o5, o6] [(0, 0, b0)] σ := fw_on hG [8, 20, 27, 31, 37, 52, 55, 64, 76, 81, 104, 107, 116, 125, 142, 150, 161, 164, 168, 174] 200 h
theorem fs_play_81 {G : fw_K} {R : fw_KR} (hG : fw_cls st_play R G) {a1 a2 a3 a4 a5 a6 : Int} {σ : ab_SG} (h : (fw_c 9 ≤ fw_c a6 → G 150 [some (2, 0, 0), some (0, 0, a1), some (0, 0, a2), some (0, 0, a3), some (0, 0, a4), some (0, 0, a5), some (0, 0, a6)] [] σ) ∧ (fw_c a6 < fw_c 9 → (fw_c a5 ≤ 0 → G 150 [some (2, 0, 0), some (0, 0, a1), some (0, 0, a2), some (0, 0, a3), some (0, 0, a4), some (0, 0, a5), some (0, 0, a6)] [] σ) ∧ (0 < fw_c a5 → (fw_c a4 ≠ 0 → G 104 [some (2, 0, 0), some (0, 0, a1), some (0, 0, a2), some (0, 0, a3), some (0, 0, a4), some (0, 0, a5), some (0, 0, a6)] [(0, 0, a2), (2, 0, 0)] σ) ∧ (fw_c a4 = 0 → G 104 [some (2, 0, 0), some (0, 0, a1), some (0, 0, a2), some (0, 0, a3), some (0, 0, a4), some (0, 0, a5), some (0, 0, a6)] [(0, 0, a1), (2, 0, 0)] σ)))) : G 81 [some (2, 0, 0), some (0, 0, a1), some (0, 0, a2), some (0, 0, a3), some (0, 0, a4), some (0, 0, a5), some (0, 0, a6)] [] σ := fw_on hG [8, 20, 27, 31, 37, 52, 55, 64, 76, 81, 104, 107, 116, 125, 142, 150, 161, 164, 168, 174] 200 h
theorem fs_play_150 {G : fw_K} {R : fw_KR} (hG : fw_cls st_play R G) {a1 a2 a3 a4 : Int} {o5 o6 : Option ab_AV} {σ : ab_SG} (h : (fw_c a4 ≠ 0 → G 161 [some (2, 0, 0), some (0, 0, a1), some (0, 0, a2), some (0, 0, a3), some (0, 0, a4), o5, o6] [(0, 0, a2), (2, 0, 0)] σ) ∧ (fw_c a4 = 0 → G 161 [some (2, 0, 0), some (0, 0, a1), some (0, 0, a2), some (0, 0, a3), some (0, 0, a4), o5, o6] [(0, 0, a1), (2, 0, 0)] σ)) : G 150 [some (2, 0, 0), some (0, 0, a1), some (0, 0, a2), some (0, 0, a3), some (0, 0, a4), o5, o6] [] σ := fw_on hG [8, 20, 27, 31, 37, 52, 55, 64, 76, 81, 104, 107, 116, 125, 142, 150, 161, 164, 168, 174] 200 h
theorem fs_play_104 {G : fw_K} {R : fw_KR} (hG : fw_cls st_play R G) {a1 a2 a3 a4 a5 a6 b0 : Int} {σ : ab_SG} (h : sp_addSpeaker [(2, 0, 0), (0, 0, b0)] σ (fun rv σ2 => G 107 [some (2, 0, 0), some (0, 0, a1), some (0, 0, a2), some (0, 0, a3), some (0, 0, a4), some (0, 0, a5), some (0, 0, a6)] (rv.toList ++ []) σ2)) : G 104 [some (2, 0, 0), some (0, 0, a1), some (0, 0, a2), some (0, 0, a3), some (0, 0, a4), some (0, 0, a5), some (0, 0, a6)] [(0, 0, b0), (2, 0, 0)] σ := fw_on hG [8, 20, 27, 31, 37, 52, 55, 64, 76, 81, 104, 107, 116, 125, 142, 150, 161, 164, 168, 174] 200 h
theorem fs_play_161 {G : fw_K} {R : fw_KR} (hG : fw_cls st_play R G) {a3 b0 : Int} {o1 o2 o4 o5 o6 : Option ab_AV} {σ : ab_SG} (h : sp_addSpeaker [(2, 0, 0), (0, 0, b0)] σ (fun rv σ2 => G 164 [some (2, 0, 0), o1, o2, some (0, 0, a3), o4, o5, o6] (rv.toList ++ []) σ2)) : G 161 [some (2, 0, 0), o1, o2, some (0, 0, a3), o4, o5, o6] [(0, 0, b0), (2, 0, 0)] σ := fw_on hG [8, 20, 27, 31, 37, 52, 55, 64, 76, 81, 104, 107, 116, 125, 142, 150, 161, 164, 168, 174] 200 h
theorem fs_play_107 {G : fw_K} {R : fw_KR} (hG : fw_cls st_play R G) {a1 a2 a3 a4 a5 a6 : Int} {σ : ab_SG} (h : sp_tnum [(2, 87, 0), (0, 0, a5)] σ (fun rv σ2 => G 116 [some (2, 0, 0), some (0, 0, a1), some (0, 0, a2), some (0, 0, a3), some (0, 0, a4), some (0, 0, a5), some (0, 0, a6)] (rv.toList ++ []) σ2)) : G 107 [some (2, 0, 0), some (0, 0, a1), some (0, 0, a2), some (0, 0, a3), some (0, 0, a4), some (0, 0, a5), some (0, 0, a6)] [] σ := fw_on hG [8, 20, 27, 31, 37, 52, 55, 64, 76, 81, 104, 107, 116, 125, 142, 150, 161, 164, 168, 174] 200 h
theorem fs_play_164 {G : fw_K} {R : fw_KR} (hG : fw_cls st_play R G) {a3 : Int} {o1 o2 o4 o5 o6 : Option ab_AV} {σ : ab_SG} (h : G 168 [some (2, 0, 0), o1, o2, some (0, 0, a3), o4, o5, o6] [(2, 87, 0)] σ) : G 164 [some (2, 0, 0), o1, o2, some (0, 0, a3), o4, o5, o6] [] σ := fw_on hG [8, 20, 27, 31, 37, 52, 55, 64, 76, 81, 104, 107, 116, 125, 142, 150, 161, 164, 168, 174] 200 h
theorem fs_play_116 {G : fw_K} {R : fw_KR} (hG : fw_cls st_play R G) {a1 a2 a3 a4 a5 a6 : Int} {σ : ab_SG} (h : sp_tsign [(2, 87, 0), (0, 0, 59)] σ (fun rv σ2 => G 125 [some (2, 0, 0), some (0, 0, a1), some (0, 0, a2), some (0, 0, a3), some (0, 0, a4), some (0, 0, a5), some (0, 0, a6)] (rv.toList ++ []) σ2)) : G 116 [some (2, 0, 0), some (0, 0, a1), some (0, 0, a2), some (0, 0, a3), some (0, 0, a4), some (0, 0, a5), some (0, 0, a6)] [] σ := fw_on hG [8, 20, 27, 31, 37, 52, 55, 64, 76, 81, 104, 107, 116, 125, 142, 150, 161, 164, 168, 174] 200 h
theorem fs_play_125 {G : fw_K} {R : fw_KR} (hG : fw_cls st_play R G) {a1 a2 a3 a4 a5 a6 : Int} {σ : ab_SG} (h : sp_dmove [(2, 77, 0), (0, 0, 1 - a4), (0, 0, a5)] σ (fun rv σ2 => G 142 [some (2, 0, 0), some (0, 0, a1), some (0, 0, a2), some (0, 0, a3), some (0, 0, 1 - a4), some (0, 0, a5), some (0, 0, a6)] (rv.toList ++ []) σ2)) : G 125 [some (2, 0, 0), some (0, 0, a1), some (0, 0, a2), some (0, 0, a3), some (0, 0, a4), some (0, 0, a5), some (0, 0, a6)] [] σ := fw_on hG [8, 20, 27, 31, 37, 52, 55, 64, 76, 81, 104, 107, 116, 125, 142, 150, 161, 164, 168, 174] 200 h
theorem fs_play_174 {G : fw_K} {R : fw_KR} (hG : fw_cls st_play R G) {a3 : Int} {o1 o2 o4 o5 o6 : Option ab_AV} {σ : ab_SG} (h : R (some (0, 0, σ 87 1)) σ) : G 174 [some (2, 0, 0), o1, o2, some (0, 0, a3), o4, o5, o6] [] σ := fw_on hG [8, 20, 27, 31, 37, 52, 55, 64, 76, 81, 104, 107, 116, 125, 142, 150, 161, 164, 168, 174] 200 h
theorem fs_play_142 {G : fw_K} {R : fw_KR} (hG : fw_cls st_play R G) {a1 a2 a3 a4 a6 b0 : Int} {o5 : Option ab_AV} {σ : ab_SG} (h : G 81 [some (2, 0, 0), some (0, 0, a1), some (0, 0, a2), some (0, 0, a3), some (0, 0, a4), some (0, 0, b0), some (0, 0, a6 + 1)] [] σ) : G 142 [some (2, 0, 0), some (0, 0, a1), some (0, 0, a2), some (0, 0, a3), some (0, 0, a4), o5, some (0, 0, a6)] [(0, 0, b0)] σ := fw_on hG [8, 20, 27, 31, 37, 52, 55, 64, 76, 81, 104, 107, 116, 125, 142, 150, 161, 164, 168, 174] 200 h
abbrev fk_m_putName : List fw_CR := [(404, 1, true, 11, 0, sp_m_put)]
abbrev st_m_putName : fw_K → fw_KR → fw_K := fw_st vwCl nn_sh nn_kd fw_kv fw_wc (nn_KI20.map (fun x => x.1)) (nn_KJ20.map (fun x => x.1)) (nn_PF20.map (fun x => x.1)) (nn_PS20.map (fun x => x.1)) fk_m_putName 1 nn_dt310 6 4
theorem fs_m_putName_0 {G : fw_K} {R : fw_KR} (hG : fw_cls st_m_putName R G) {w : Int} {σ : ab_SG} (h : G 5 [some (2, 93, 0), some (1, 0, w), none, some (0, 0, 0), some (1, 0, w), none] [] σ) : G 0 [some (2, 93, 0), some (1, 0, w), none, none, none, none] [] σ := fw_on hG [5, 47, 63] 200 h
theorem fs_m_putName_5 {G : fw_K} {R : fw_KR} (hG : fw_cls st_m_putName R G) {a3 a4 : Int} {o1 o5 : Option ab_AV} {σ : ab_SG} (h : (fw_d a4 ≤ fw_d ((0 : Nat) : Int) → G 47 [some (2, 93, 0), o1, none, some (0, 0, a3), some (0, 0, a3 - 1), o5] [] σ) ∧ (fw_d ((0 : Nat) : Int) < fw_d a4 → fw_d 27 ≠ 0 ∧ ((0 ≤ fw_c a3 ∧ fw_c a3 < ((7 : Nat) : Int)) ∧ True ∧ (fw_d 27 ≠ 0 ∧ (G 5 [some (2, 93, 0), o1, none, some (0, 0, a3 + 1), some (1, 0, fw_lop 3 a4 27), none] [] (ab_ups σ 114 (fw_c a3).toNat (fw_c ((fw_lop 4 a4 27) + 96)))))))) : G 5 [some (2, 93, 0), o1, none, some (0, 0, a3), some (1, 0, a4), o5] [] σ := fw_on hG [5, 47, 63] 200 h
theorem fs_m_putName_47 {G : fw_K} {R : fw_KR} (hG : fw_cls st_m_putName R G) {a3 a4 : Int} {o1 o5 : Option ab_AV} {σ : ab_SG} (h : (fw_c a4 < 0 → R none σ) ∧ (0 ≤ fw_c a4 → (0 ≤ fw_c a4 ∧ fw_c a4 < ((7 : Nat) : Int)) ∧ (sp_m_put [(2, 93, 0), (0, 0, σ 114 (fw_c a4).toNat)] σ (fun rv σ2 => G 63 [some (2, 93, 0), o1, none, some (0, 0, a3), some (0, 0, a4), o5] (rv.toList ++ []) σ2)))) : G 47 [some (2, 93, 0), o1, none, some (0, 0, a3), some (0, 0, a4), o5] [] σ := fw_on hG [5, 47, 63] 200 h
theorem fs_m_putName_63 {G : fw_K} {R : fw_KR} (hG : fw_cls st_m_putName R G) {a3 a4 : Int} {o1 o5 : Option ab_AV} {σ : ab_SG} (h : G 47 [some (2, 93, 0), o1, none, some (0, 0, a3), some (0, 0, a4 + (-1)), o5] [] σ) : G 63 [some (2, 93, 0), o1, none, some (0, 0, a3), some (0, 0, a4), o5] [] σ := fw_on hG [5, 47, 63] 200 h
abbrev fk_m_play : List fw_CR := [(158, 1, false, 0, 1, sp_m_wordOf), (381, 3, true, 11, 1, sp_m_isRound), (387, 3, true, 11, 10, sp_m_layBest), (404, 1, true, 11, 0, sp_m_put), (407, 1, true, 11, 1, sp_m_putName)]
abbrev st_m_play : fw_K → fw_KR → fw_K := fw_st vwCl nn_sh nn_kd fw_kv fw_wc (nn_KI20.map (fun x => x.1)) (nn_KJ20.map (fun x => x.1)) (nn_PF20.map (fun x => x.1)) (nn_PS20.map (fun x => x.1)) fk_m_play 11 nn_dt309 8 0
theorem fs_m_play_0 {G : fw_K} {R : fw_KR} (hG : fw_cls st_m_play R G) {p q c : Int} {σ : ab_SG} (h : sp_m_isRound [(2, 93, 0), (0, 0, p), (0, 0, q), (0, 0, c)] (ab_ups σ 93 0 (fw_c 0)) (fun rv σ2 => G 12 [some (2, 93, 0), some (0, 0, p), some (0, 0, q), some (0, 0, c), none, none, none, none] (rv.toList ++ []) σ2)) : G 0 [some (2, 93, 0), some (0, 0, p), some (0, 0, q), some (0, 0, c), none, none, none, none] [] σ := fw_on hG [12, 24, 34, 37, 43, 56, 62, 71, 108, 113, 119, 130, 133, 145, 151, 161] 200 h
theorem fs_m_play_12 {G : fw_K} {R : fw_KR} (hG : fw_cls st_m_play R G) {a1 a2 a3 b0 : Int} {o4 o5 o6 o7 : Option ab_AV} {σ : ab_SG} (h : (fw_c b0 ≠ 0 → sp_m_layBest [(2, 93, 0), (0, 0, a1), (0, 0, a2), (0, 0, a3)] σ (fun rv σ2 => G 24 [some (2, 93, 0), some (0, 0, a1), some (0, 0, a2), some (0, 0, a3), o4, o5, o6, o7] (rv.toList ++ []) σ2)) ∧ (fw_c b0 = 0 → R (some (0, 0, (-1))) σ)) : G 12 [some (2, 93, 0), some (0, 0, a1), some (0, 0, a2), some (0, 0, a3), o4, o5, o6, o7] [(0, 0, b0)] σ := fw_on hG [12, 24, 34, 37, 43, 56, 62, 71, 108, 113, 119, 130, 133, 145, 151, 161] 200 h
theorem fs_m_play_24 {G : fw_K} {R : fw_KR} (hG : fw_cls st_m_play R G) {a1 a2 a3 : Int} {o4 o5 o6 o7 : Option ab_AV} {σ : ab_SG} (h : sp_m_wordOf [(0, 0, 1)] (ab_ups σ 93 39 (fw_c 0)) (fun rv σ2 => G 34 [some (2, 93, 0), some (0, 0, a1), some (0, 0, a2), some (0, 0, a3), o4, o5, o6, o7] (rv.toList ++ [(2, 93, 0)]) σ2)) : G 24 [some (2, 93, 0), some (0, 0, a1), some (0, 0, a2), some (0, 0, a3), o4, o5, o6, o7] [] σ := fw_on hG [12, 24, 34, 37, 43, 56, 62, 71, 108, 113, 119, 130, 133, 145, 151, 161] 200 h
theorem fs_m_play_34 {G : fw_K} {R : fw_KR} (hG : fw_cls st_m_play R G) {a1 a2 a3 b0 : Int} {o4 o5 o6 o7 : Option ab_AV} {σ : ab_SG} (h : sp_m_putName [(2, 93, 0), (1, 0, b0)] σ (fun rv σ2 => G 37 [some (2, 93, 0), some (0, 0, a1), some (0, 0, a2), some (0, 0, a3), o4, o5, o6, o7] (rv.toList ++ []) σ2)) : G 34 [some (2, 93, 0), some (0, 0, a1), some (0, 0, a2), some (0, 0, a3), o4, o5, o6, o7] [(1, 0, b0), (2, 93, 0)] σ := fw_on hG [12, 24, 34, 37, 43, 56, 62, 71, 108, 113, 119, 130, 133, 145, 151, 161] 200 h
theorem fs_m_play_37 {G : fw_K} {R : fw_KR} (hG : fw_cls st_m_play R G) {a1 a2 a3 : Int} {o4 o5 o6 o7 : Option ab_AV} {σ : ab_SG} (h : sp_m_put [(2, 93, 0), (0, 0, 32)] σ (fun rv σ2 => G 43 [some (2, 93, 0), some (0, 0, a1), some (0, 0, a2), some (0, 0, a3), o4, o5, o6, o7] (rv.toList ++ []) σ2)) : G 37 [some (2, 93, 0), some (0, 0, a1), some (0, 0, a2), some (0, 0, a3), o4, o5, o6, o7] [] σ := fw_on hG [12, 24, 34, 37, 43, 56, 62, 71, 108, 113, 119, 130, 133, 145, 151, 161] 200 h
theorem fs_m_play_43 {G : fw_K} {R : fw_KR} (hG : fw_cls st_m_play R G) {a1 a2 a3 : Int} {o4 o5 o6 o7 : Option ab_AV} {σ : ab_SG} (h : (0 ≤ fw_c (9 + a3) ∧ fw_c (9 + a3) < ((20 : Nat) : Int)) ∧ (sp_m_putName [(2, 93, 0), (1, 0, σ 99 (fw_c (9 + a3)).toNat)] σ (fun rv σ2 => G 56 [some (2, 93, 0), some (0, 0, a1), some (0, 0, a2), some (0, 0, a3), o4, o5, o6, o7] (rv.toList ++ []) σ2))) : G 43 [some (2, 93, 0), some (0, 0, a1), some (0, 0, a2), some (0, 0, a3), o4, o5, o6, o7] [] σ := fw_on hG [12, 24, 34, 37, 43, 56, 62, 71, 108, 113, 119, 130, 133, 145, 151, 161] 200 h
theorem fs_m_play_56 {G : fw_K} {R : fw_KR} (hG : fw_cls st_m_play R G) {a1 a2 a3 : Int} {o4 o5 o6 o7 : Option ab_AV} {σ : ab_SG} (h : sp_m_put [(2, 93, 0), (0, 0, 59)] σ (fun rv σ2 => G 62 [some (2, 93, 0), some (0, 0, a1), some (0, 0, a2), some (0, 0, a3), o4, o5, o6, o7] (rv.toList ++ []) σ2)) : G 56 [some (2, 93, 0), some (0, 0, a1), some (0, 0, a2), some (0, 0, a3), o4, o5, o6, o7] [] σ := fw_on hG [12, 24, 34, 37, 43, 56, 62, 71, 108, 113, 119, 130, 133, 145, 151, 161] 200 h
theorem fs_m_play_62 {G : fw_K} {R : fw_KR} (hG : fw_cls st_m_play R G) {a1 a2 a3 : Int} {o4 o5 o6 o7 : Option ab_AV} {σ : ab_SG} (h : G 71 [some (2, 93, 0), some (0, 0, a1), some (0, 0, a2), some (0, 0, a3), some (0, 0, 0), some (0, 0, 0), some (0, 0, 0), o7] [] σ) : G 62 [some (2, 93, 0), some (0, 0, a1), some (0, 0, a2), some (0, 0, a3), o4, o5, o6, o7] [] σ := fw_on hG [12, 24, 34, 37, 43, 56, 62, 71, 108, 113, 119, 130, 133, 145, 151, 161] 200 h
theorem fs_m_play_71 {G : fw_K} {R : fw_KR} (hG : fw_cls st_m_play R G) {a1 a2 a3 a4 a5 a6 : Int} {o7 : Option ab_AV} {σ : ab_SG} (h : (fw_c a6 ≠ 0 → R (some (0, 0, σ 93 39)) σ) ∧ (fw_c a6 = 0 → (0 ≤ fw_c ((10 * a5) + a4) ∧ fw_c ((10 * a5) + a4) < ((20 : Nat) : Int)) ∧ ((fw_c a5 ≠ 0 → G 108 [some (2, 93, 0), some (0, 0, a1), some (0, 0, a2), some (0, 0, a3), some (0, 0, a4), some (0, 0, a5), some (0, 0, a6), some (0, 0, σ 111 (fw_c ((10 * a5) + a4)).toNat)] [(0, 0, a2), (0, 0, 15), (2, 99, 0), (2, 93, 0)] σ) ∧ (fw_c a5 = 0 → G 108 [some (2, 93, 0), some (0, 0, a1), some (0, 0, a2), some (0, 0, a3), some (0, 0, a4), some (0, 0, a5), some (0, 0, a6), some (0, 0, σ 111 (fw_c ((10 * a5) + a4)).toNat)] [(0, 0, a1), (0, 0, 15), (2, 99, 0), (2, 93, 0)] σ)))) : G 71 [some (2, 93, 0), some (0, 0, a1), some (0, 0, a2), some (0, 0, a3), some (0, 0, a4), some (0, 0, a5), some (0, 0, a6), o7] [] σ := fw_on hG [12, 24, 34, 37, 43, 56, 62, 71, 108, 113, 119, 130, 133, 145, 151, 161] 200 h
theorem fs_m_play_108 {G : fw_K} {R : fw_KR} (hG : fw_cls st_m_play R G) {a1 a2 a3 a5 a7 b0 b1 : Int} {o4 o6 : Option ab_AV} {σ : ab_SG} (h : (0 ≤ fw_c (b1 + b0) ∧ fw_c (b1 + b0) < ((20 : Nat) : Int)) ∧ (sp_m_putName [(2, 93, 0), (1, 0, σ 99 (fw_c (b1 + b0)).toNat)] σ (fun rv σ2 => G 113 [some (2, 93, 0), some (0, 0, a1), some (0, 0, a2), some (0, 0, a3), o4, some (0, 0, a5), o6, some (0, 0, a7)] (rv.toList ++ []) σ2))) : G 108 [some (2, 93, 0), some (0, 0, a1), some (0, 0, a2), some (0, 0, a3), o4, some (0, 0, a5), o6, some (0, 0, a7)] [(0, 0, b0), (0, 0, b1), (2, 99, 0), (2, 93, 0)] σ := fw_on hG [12, 24, 34, 37, 43, 56, 62, 71, 108, 113, 119, 130, 133, 145, 151, 161] 200 h
theorem fs_m_play_113 {G : fw_K} {R : fw_KR} (hG : fw_cls st_m_play R G) {a1 a2 a3 a5 a7 : Int} {o4 o6 : Option ab_AV} {σ : ab_SG} (h : sp_m_put [(2, 93, 0), (0, 0, 32)] σ (fun rv σ2 => G 119 [some (2, 93, 0), some (0, 0, a1), some (0, 0, a2), some (0, 0, a3), o4, some (0, 0, a5), o6, some (0, 0, a7)] (rv.toList ++ []) σ2)) : G 113 [some (2, 93, 0), some (0, 0, a1), some (0, 0, a2), some (0, 0, a3), o4, some (0, 0, a5), o6, some (0, 0, a7)] [] σ := fw_on hG [12, 24, 34, 37, 43, 56, 62, 71, 108, 113, 119, 130, 133, 145, 151, 161] 200 h
theorem fs_m_play_119 {G : fw_K} {R : fw_KR} (hG : fw_cls st_m_play R G) {a1 a2 a3 a5 a7 : Int} {o4 o6 : Option ab_AV} {σ : ab_SG} (h : (fw_c a7 ≠ 0 → sp_m_put [(2, 93, 0), (0, 0, 48 + a7)] σ (fun rv σ2 => G 145 [some (2, 93, 0), some (0, 0, a1), some (0, 0, a2), some (0, 0, a3), o4, some (0, 0, a5), o6, some (0, 0, a7)] (rv.toList ++ []) σ2)) ∧ (fw_c a7 = 0 → sp_m_wordOf [(0, 0, 6)] σ (fun rv σ2 => G 130 [some (2, 93, 0), some (0, 0, a1), some (0, 0, a2), some (0, 0, a3), o4, some (0, 0, a5), o6, some (0, 0, a7)] (rv.toList ++ [(2, 93, 0)]) σ2))) : G 119 [some (2, 93, 0), some (0, 0, a1), some (0, 0, a2), some (0, 0, a3), o4, some (0, 0, a5), o6, some (0, 0, a7)] [] σ := fw_on hG [12, 24, 34, 37, 43, 56, 62, 71, 108, 113, 119, 130, 133, 145, 151, 161] 200 h
theorem fs_m_play_145 {G : fw_K} {R : fw_KR} (hG : fw_cls st_m_play R G) {a1 a2 a3 a5 a7 : Int} {o4 o6 : Option ab_AV} {σ : ab_SG} (h : sp_m_put [(2, 93, 0), (0, 0, 59)] σ (fun rv σ2 => G 151 [some (2, 93, 0), some (0, 0, a1), some (0, 0, a2), some (0, 0, a3), o4, some (0, 0, a5), o6, some (0, 0, a7)] (rv.toList ++ []) σ2)) : G 145 [some (2, 93, 0), some (0, 0, a1), some (0, 0, a2), some (0, 0, a3), o4, some (0, 0, a5), o6, some (0, 0, a7)] [] σ := fw_on hG [12, 24, 34, 37, 43, 56, 62, 71, 108, 113, 119, 130, 133, 145, 151, 161] 200 h
theorem fs_m_play_130 {G : fw_K} {R : fw_KR} (hG : fw_cls st_m_play R G) {a1 a2 a3 a5 a7 b0 : Int} {o4 o6 : Option ab_AV} {σ : ab_SG} (h : sp_m_putName [(2, 93, 0), (1, 0, b0)] σ (fun rv σ2 => G 133 [some (2, 93, 0), some (0, 0, a1), some (0, 0, a2), some (0, 0, a3), o4, some (0, 0, a5), o6, some (0, 0, a7)] (rv.toList ++ []) σ2)) : G 130 [some (2, 93, 0), some (0, 0, a1), some (0, 0, a2), some (0, 0, a3), o4, some (0, 0, a5), o6, some (0, 0, a7)] [(1, 0, b0), (2, 93, 0)] σ := fw_on hG [12, 24, 34, 37, 43, 56, 62, 71, 108, 113, 119, 130, 133, 145, 151, 161] 200 h
theorem fs_m_play_151 {G : fw_K} {R : fw_KR} (hG : fw_cls st_m_play R G) {a1 a2 a3 a5 a7 : Int} {o4 o6 : Option ab_AV} {σ : ab_SG} (h : (fw_c a7 ≠ 0 → G 161 [some (2, 93, 0), some (0, 0, a1), some (0, 0, a2), some (0, 0, a3), o4, some (0, 0, a5), o6, some (0, 0, a7)] [(0, 0, 0)] σ) ∧ (fw_c a7 = 0 → G 161 [some (2, 93, 0), some (0, 0, a1), some (0, 0, a2), some (0, 0, a3), o4, some (0, 0, a5), o6, some (0, 0, a7)] [(0, 0, 1)] σ)) : G 151 [some (2, 93, 0), some (0, 0, a1), some (0, 0, a2), some (0, 0, a3), o4, some (0, 0, a5), o6, some (0, 0, a7)] [] σ := fw_on hG [12, 24, 34, 37, 43, 56, 62, 71, 108, 113, 119, 130, 133, 145, 151, 161] 200 h
theorem fs_m_play_133 {G : fw_K} {R : fw_KR} (hG : fw_cls st_m_play R G) {a1 a2 a3 a5 a7 : Int} {o4 o6 : Option ab_AV} {σ : ab_SG} (h : G 145 [some (2, 93, 0), some (0, 0, a1), some (0, 0, a2), some (0, 0, a3), o4, some (0, 0, a5), o6, some (0, 0, a7)] [] σ) : G 133 [some (2, 93, 0), some (0, 0, a1), some (0, 0, a2), some (0, 0, a3), o4, some (0, 0, a5), o6, some (0, 0, a7)] [] σ := fw_on hG [12, 24, 34, 37, 43, 56, 62, 71, 108, 113, 119, 130, 133, 145, 151, 161] 200 h
theorem fs_m_play_161 {G : fw_K} {R : fw_KR} (hG : fw_cls st_m_play R G) {a1 a2 a3 a5 a7 b0 : Int} {o4 o6 : Option ab_AV} {σ : ab_SG} (h : G 71 [some (2, 93, 0), some (0, 0, a1), some (0, 0, a2), some (0, 0, a3), some (0, 0, a7), some (0, 0, 1 - a5), some (0, 0, b0), some (0, 0, a7)] [] σ) : G 161 [some (2, 93, 0), some (0, 0, a1), some (0, 0, a2), some (0, 0, a3), o4, some (0, 0, a5), o6, some (0, 0, a7)] [(0, 0, b0)] σ := fw_on hG [12, 24, 34, 37, 43, 56, 62, 71, 108, 113, 119, 130, 133, 145, 151, 161] 200 h
section
variable {l : Launch} {cy : Nat → ClassId} {ad wr cr : Nat → Nat} {D : va_G}
theorem fm_at12 (hinj : nn_inj ad) : fw_H l cy ad wr cr D 87 0 (atl_k 12 6) := fw_mk hinj (⟨"NameNotes", "at", "([JI)J"⟩, prog_1_method_85_code, 2, (Option.some Jvm.ClassFile.FieldType.long), 2, false, 2) rfl rfl nn_KI1_ok nn_KJ1_ok nn_PF1_ok nn_PS1_ok (by decide +kernel) rfl rfl (fun _ h => absurd h List.not_mem_nil) (fun as σ K h => by
  obtain ⟨x, rfl, h1, h2⟩ := h
  exact ⟨rfl, fun G hG => atl_gen (k := 12) (n := 6) (K := K) (σ := σ) (x := x) (by decide) (fs_at12_0 hG) h1 h2⟩)
theorem fm_at13 (hinj : nn_inj ad) : fw_H l cy ad wr cr D 87 0 (atl_k 13 5) := fw_mk hinj (⟨"NameNotes", "at", "([JI)J"⟩, prog_1_method_85_code, 2, (Option.some Jvm.ClassFile.FieldType.long), 2, false, 2) rfl rfl nn_KI1_ok nn_KJ1_ok nn_PF1_ok nn_PS1_ok (by decide +kernel) rfl rfl (fun _ h => absurd h List.not_mem_nil) (fun as σ K h => by
  obtain ⟨x, rfl, h1, h2⟩ := h
  exact ⟨rfl, fun G hG => atl_gen (k := 13) (n := 5) (K := K) (σ := σ) (x := x) (by decide) (fs_at13_0 hG) h1 h2⟩)
theorem fm_atw (hinj : nn_inj ad) : fw_H l cy ad wr cr D 87 0 sp_atw := fw_H_of (List.forall_mem_cons.mpr ⟨fm_at12 hinj, List.forall_mem_cons.mpr ⟨fm_at13 hinj, (fun _ h => absurd h List.not_mem_nil)⟩⟩)
theorem fm_addName (hinj : nn_inj ad) : fw_H l cy ad wr cr D 123 2 sp_addName := fw_mk hinj (⟨"NameNotes$Text", "addName", "(J)V"⟩, prog_11_method_5_code, 5, (Option.none : Option Jvm.ClassFile.FieldType), 1, true, 4) rfl rfl nn_KI11_ok nn_KJ11_ok nn_PF11_ok nn_PS11_ok (by decide +kernel) rfl rfl (List.forall_mem_cons.mpr ⟨fw_row nn_PM11_ok (x := 33) (k := 0) (mn := 122) (np := 1) (ob := true) (ci := 9) (⟨"NameNotes$Text", "addSign", "(I)V"⟩, prog_11_method_3_code, 2, (Option.none : Option Jvm.ClassFile.FieldType), 1, true, 4) rfl (by decide +kernel) rfl rfl (by decide) (fun _ => ⟨_, _, rfl⟩) (fm_tsign hinj), (fun _ h => absurd h List.not_mem_nil)⟩) (fun as σ K h => by
  obtain ⟨T, w, rfl, hw, hl, hT, h⟩ := h
  have b := nm_in hw
  rw [← nm_cn 7 w hw] at h
  refine ⟨rfl, fun G hG => fs_addName_0 hG ?_⟩
  have loop : ∀ (k : Nat) (τ : ab_SG) (U : List Int) (o4 : Option ab_AV), k ≤ 7 → ab_okM tx_M σ τ → U.length + k ≤ 200 → TXc τ U → U ++ nm_cl k w = T ++ nm_cl 7 w → G 3 [some (2, 87, 0), some (1, 0, w), none, some (0, 0, 5 * (k : Int) - 5), o4] [] τ := by
    intro k
    induction k with
    | zero =>
      intro τ U o4 hk M hu t e
      refine fs_addName_3 hG ⟨fun _ => h τ M ?_, fun z => absurd z (by rw [fw_s (x := 5 * ((0 : Nat) : Int) - 5) (by decide) (by decide)]; decide)⟩
      rw [← e]
      show TXc τ (U ++ [])
      rw [List.append_nil]
      exact t
    | succ k ih =>
      intro τ U o4 hk M hu t e
      have e5 : 5 * ((k + 1 : Nat) : Int) - 5 = 5 * (k : Int) := by omega
      have lt : nm_dv k w % 32 < 32 := Int.emod_lt_of_pos _ (by decide)
      have ge : 0 ≤ nm_dv k w % 32 := Int.emod_nonneg _ (by decide)
      have nx : ∀ (τ' : ab_SG) (U' : List Int) (o4 : Option ab_AV), ab_okM tx_M σ τ' → U'.length + k ≤ 200 → TXc τ' U' → U' ++ nm_cl k w = T ++ nm_cl 7 w → G 31 [some (2, 87, 0), some (1, 0, w), none, some (0, 0, 5 * (k : Int)), o4] [] τ' := by
        intro τ' U' o4 M' hu' t' e'
        have g := ih τ' U' o4 (by omega) M' hu' t' e'
        refine fs_addName_31 hG ?_
        rw [show 5 * (k : Int) + (-5) = 5 * (k : Int) - 5 from rfl]
        exact g
      rw [e5]
      refine fs_addName_3 hG ?_
      rw [fw_s (x := 5 * (k : Int)) (by omega) (by omega), lf_k b.1 b.2 k (by omega), fw_s (x := nm_dv k w % 32) (by omega) (by omega)]
      refine ⟨fun z => absurd z (by omega), fun _ => ⟨fun z => nx τ U _ M (by omega) t ?_, fun z => ⟨U, _, rfl, by omega, t, fun τ1 M1 t1 => nx τ1 _ _ (fw_okM_tr M M1 (fun _ h => h)) ?_ t1 ?_⟩⟩⟩
      · rw [← e]
        show _ = U ++ ((if 0 < nm_dv k w % 32 then [96 + nm_dv k w % 32] else []) ++ nm_cl k w)
        rw [if_neg (by omega), List.nil_append]
      · rw [List.length_append]
        show _ + 1 + k ≤ 200
        omega
      · rw [← e]
        show _ = U ++ ((if 0 < nm_dv k w % 32 then [96 + nm_dv k w % 32] else []) ++ nm_cl k w)
        rw [if_pos z, fw_s (x := 96 + nm_dv k w % 32) (by omega) (by omega), List.append_assoc]
  exact loop 7 σ T none (Nat.le_refl 7) (fw_okM_refl _ _) hl hT rfl)
theorem fm_addSpeaker (hinj : nn_inj ad) : fw_H l cy ad wr cr D 124 3 sp_addSpeaker := fw_mk hinj (⟨"NameNotes", "addSpeaker", "(I)V"⟩, prog_1_method_68_code, 2, (Option.none : Option Jvm.ClassFile.FieldType), 1, true, 4) rfl rfl nn_KI1_ok nn_KJ1_ok nn_PF1_ok nn_PS1_ok (by decide +kernel) rfl rfl (List.forall_mem_cons.mpr ⟨fw_row nn_PM1_ok (x := 293) (k := 0) (mn := 87) (np := 2) (ob := false) (ci := 0) (⟨"NameNotes", "at", "([JI)J"⟩, prog_1_method_85_code, 2, (Option.some Jvm.ClassFile.FieldType.long), 2, false, 2) rfl (by decide +kernel) rfl rfl (by decide) (fun q => by cases q) (fm_atw hinj), (List.forall_mem_cons.mpr ⟨fw_row nn_PM1_ok (x := 296) (k := 0) (mn := 123) (np := 1) (ob := true) (ci := 9) (⟨"NameNotes$Text", "addName", "(J)V"⟩, prog_11_method_5_code, 5, (Option.none : Option Jvm.ClassFile.FieldType), 1, true, 4) rfl (by decide +kernel) rfl rfl (by decide) (fun _ => ⟨_, _, rfl⟩) (fm_addName hinj), (List.forall_mem_cons.mpr ⟨fw_row nn_PM1_ok (x := 300) (k := 0) (mn := 122) (np := 1) (ob := true) (ci := 9) (⟨"NameNotes$Text", "addSign", "(I)V"⟩, prog_11_method_3_code, 2, (Option.none : Option Jvm.ClassFile.FieldType), 1, true, 4) rfl (by decide +kernel) rfl rfl (by decide) (fun _ => ⟨_, _, rfl⟩) (fm_tsign hinj), (fun _ h => absurd h List.not_mem_nil)⟩)⟩)⟩) (fun as σ K h => by
  obtain ⟨A, T, p, rfl, hN, hw, hp, hl, hT, h⟩ := h
  have nn := N_n hN.1
  have c32 : fw_c 32 = 32 := fw_s (by decide) (by decide)
  have cp : fw_c (p : Int) = (p : Int) := fw_s (by omega) (by omega)
  have g := nm_nl_l 7 (A 59 p)
  refine ⟨rfl, fun G hG => fs_addSpeaker_0 hG ⟨(13, 5), by decide, _, rfl, fun _ => ?_, fun z => absurd (by rw [cp]; show _ ∧ _ < (5 : Int); omega) z⟩⟩
  rw [cp, Int.toNat_natCast, show σ 13 p = A 59 p from hN.2.2.2.2.2.2.2.2.2.2.1 p hp]
  refine fs_addSpeaker_15 hG ⟨T, _, rfl, hw.2 p hp, by omega, hT, fun τ1 M1 t1 => fs_addSpeaker_18 hG ⟨_, _, rfl, ?_, t1, fun τ2 M2 t2 => fs_addSpeaker_27 hG (h τ2 (fw_okM_tr M1 M2 (fun _ h => h)) ?_)⟩⟩
  · rw [List.length_append]
    omega
  · rw [c32, List.append_assoc] at t2
    exact t2)
theorem fm_m_putName (hinj : nn_inj ad) : fw_H l cy ad wr cr D 310 1 sp_m_putName := fw_mk hinj (⟨"NameNotesModel", "putName", "(J)V"⟩, prog_14_method_108_code, 6, (Option.none : Option Jvm.ClassFile.FieldType), 1, true, 4) rfl rfl nn_KI20_ok nn_KJ20_ok nn_PF20_ok nn_PS20_ok (by decide +kernel) rfl rfl (List.forall_mem_cons.mpr ⟨fw_row nn_PM20_ok (x := 404) (k := 0) (mn := 311) (np := 1) (ob := true) (ci := 11) (⟨"NameNotesModel", "put", "(I)V"⟩, prog_14_method_107_code, 2, (Option.none : Option Jvm.ClassFile.FieldType), 1, true, 4) rfl (by decide +kernel) rfl rfl (by decide) (fun _ => ⟨_, _, rfl⟩) (fm_m_put hinj), (fun _ h => absurd h List.not_mem_nil)⟩) (fun as σ K h => by
  obtain ⟨T, w, rfl, hw, hl, hT, h⟩ := h
  have d0 : fw_d ((0 : Nat) : Int) = 0 := fw_d_id (by decide) (by decide)
  have d27 : fw_d 27 = 27 := fw_d_id (by decide) (by decide)
  have n27 : fw_d 27 ≠ 0 := by
    rw [d27]
    decide
  have d2 : fw_d 27 = 27 := fw_d_id (by decide) (by decide)
  refine ⟨rfl, fun G hG => fs_m_putName_0 hG ?_⟩
  -- back through the letters
  have back : ∀ (k : Nat) (τ : ab_SG) (U : List Int) (o1 o3 o5 : Option ab_AV) (n : Int), k ≤ 7 → ab_okM pm_T σ τ → U.length + k ≤ 200 → TXm τ U → (∀ j : Nat, j < k → τ 114 j = nm_dv j w % 32 + 96 ∧ nm_dv j w ≠ 0) → U = T ++ nm_nl (7 - k) (nm_dv k w) → G 47 [some (2, 93, 0), o1, none, some (0, 0, n), some (0, 0, (k : Int) - 1), o5] [] τ := by
    intro k
    induction k with
    | zero =>
      intro τ U o1 o3 o5 n hk M hu t I e
      refine fs_m_putName_47 hG ⟨fun _ => h τ M (by rw [e] at t; exact t), fun z => absurd z (by rw [fw_s (x := ((0 : Nat) : Int) - 1) (by decide) (by decide)]; decide)⟩
    | succ k ih =>
      intro τ U o1 o3 o5 n hk M hu t I e
      have ek : ((k + 1 : Nat) : Int) - 1 = (k : Int) := by omega
      have ck : fw_c (k : Int) = (k : Int) := fw_s (by omega) (by omega)
      have lt : nm_dv k w % 32 < 32 := Int.emod_lt_of_pos _ (by decide)
      have ge : 0 ≤ nm_dv k w % 32 := Int.emod_nonneg _ (by decide)
      have i := I k (by omega)
      refine fs_m_putName_47 hG ?_
      rw [ek, ck, Int.toNat_natCast, i.1]
      refine ⟨fun z => absurd z (by omega), fun _ => ⟨⟨by omega, by omega⟩, U, _, rfl, by omega, t, fun τ1 M1 t1 => fs_m_putName_63 hG ?_⟩⟩
      have g := ih τ1 _ o1 o3 o5 n (by omega) (fw_okM_tr M M1 (by decide)) (by rw [List.length_append]; show _ + 1 + k ≤ 200; omega) t1 (fun j hj => by rw [mk_row M1 (by decide) j]; exact I j (by omega)) (by
        rw [e, List.append_assoc, show 7 - k = (7 - (k + 1)) + 1 by omega, fw_s (x := nm_dv k w % 32 + 96) (by omega) (by omega), nm_dv_s]
        show _ = T ++ (if nm_dv k w = 0 then [] else nm_nl (7 - (k + 1)) (nm_dv k w / 32) ++ [nm_dv k w % 32 + 96])
        rw [if_neg i.2])
      rw [show (k : Int) + (-1) = (k : Int) - 1 from rfl]
      exact g
  have fwd : ∀ (f k : Nat) (τ : ab_SG) (o5 : Option ab_AV), k + f = 7 → ab_okM pm_T σ τ → TXm τ T → (∀ j : Nat, j < k → τ 114 j = nm_dv j w % 32 + 96 ∧ nm_dv j w ≠ 0) → G 5 [some (2, 93, 0), some (1, 0, rf_w 7 w), none, some (0, 0, (k : Int)), some (1, 0, rf_w f (nm_dv k w)), o5] [] τ := by
    intro f
    induction f with
    | zero =>
      intro k τ o5 hk M t I
      have ek : k = 7 := by omega
      have z := nm_dv_ok k 0 w (by rw [ek]; exact hw)
      have z : nm_dv k w = 0 := z
      refine fs_m_putName_5 hG ⟨fun _ => back k τ T _ none _ _ (by omega) M (by omega) t I ?_, fun q => absurd q (Int.lt_irrefl (fw_d ((0 : Nat) : Int)))⟩
      rw [z, ek]
      show T = T ++ []
      rw [List.append_nil]
    | succ f ih =>
      intro k τ o5 hk M t I
      have ok := nm_dv_ok k (f + 1) w (by rw [hk]; exact hw)
      have r := nm_rf f ok
      have bn := rf_w_in (f + 1) (nm_dv k w)
      have bo : rf_B (f + 1) ≤ 12472694271 := by
        have : ∀ f : Nat, f < 7 → rf_B (f + 1) ≤ 12472694271 := by decide
        exact this f (by omega)
      have ck : fw_c (k : Int) = (k : Int) := fw_s (by omega) (by omega)
      refine fs_m_putName_5 hG ?_
      rw [d0, fw_d_id (x := rf_w (f + 1) (nm_dv k w)) (by omega) (by omega)]
      refine ⟨fun q => back k τ T _ none _ _ (by omega) M (by omega) t I ?_, fun q => ⟨n27, ?_⟩⟩
      · have z : nm_dv k w = 0 := r.2.2.mp (by omega)
        rw [z, show 7 - k = f + 1 by omega]
        show T = T ++ []
        rw [List.append_nil]
      · obtain ⟨m, em⟩ := Int.eq_ofNat_of_zero_le (show 0 ≤ rf_w (f + 1) (nm_dv k w) by omega)
        have dv : fw_lop 3 (rf_w (f + 1) (nm_dv k w)) 27 = rf_w f (nm_dv (k + 1) w) := by
          rw [nm_dv_s, ← r.2.1, em]
          exact (pt_div (x := m) (y := 27) (by omega) (by decide) (by decide)).trans (by omega)
        have rm : fw_lop 4 (rf_w (f + 1) (nm_dv k w)) 27 = nm_dv k w % 32 := by
          rw [← r.1, em]
          exact (pt_rem (x := m) (y := 27) (by omega) (by decide) (by decide)).trans (by omega)
        have lt : nm_dv k w % 32 < 32 := Int.emod_lt_of_pos _ (by decide)
        have ge : 0 ≤ nm_dv k w % 32 := Int.emod_nonneg _ (by decide)
        rw [ck, dv, rm, Int.toNat_natCast, fw_s (x := nm_dv k w % 32 + 96) (by omega) (by omega)]
        refine ⟨⟨by omega, by omega⟩, trivial, n27, ?_⟩
        have g := ih (k + 1) (ab_ups τ 114 k (nm_dv k w % 32 + 96)) none (by omega) (fw_okM_upa M (by decide)) (TXm_k (ab_ups_ne (fun z => absurd z.1 (by decide))) (fun j => ab_ups_ne (fun z => absurd z.1 (by decide))) t) (fun j hj => by
          by_cases c : j = k
          · subst c
            rw [ab_ups_eq]
            exact ⟨rfl, fun z => by have := r.2.2.mpr z; omega⟩
          · rw [ab_ups_ne (fun z => c z.2)]
            exact I j (by omega))
        rw [show ((k + 1 : Nat) : Int) = (k : Int) + 1 from rfl] at g
        exact g
  exact fwd 7 0 σ none rfl (fw_okM_refl _ _) hT (fun j hj => absurd hj (Nat.not_lt_zero j)))
theorem fm_m_play (hinj : nn_inj ad) : fw_H l cy ad wr cr D 309 11 sp_m_play := fw_mk hinj (⟨"NameNotesModel", "play", "(III)I"⟩, prog_14_method_109_code, 8, (Option.some Jvm.ClassFile.FieldType.int), 3, true, 0) rfl rfl nn_KI20_ok nn_KJ20_ok nn_PF20_ok nn_PS20_ok (by decide +kernel) rfl rfl (List.forall_mem_cons.mpr ⟨fw_row nn_PM20_ok (x := 158) (k := 0) (mn := 218) (np := 1) (ob := false) (ci := 0) (⟨"NameNotesModel", "wordOf", "(I)J"⟩, prog_14_method_19_code, 1, (Option.some Jvm.ClassFile.FieldType.long), 1, false, 2) rfl (by decide +kernel) rfl rfl (by decide) (fun q => by cases q) (fm_m_wordOf hinj), (List.forall_mem_cons.mpr ⟨fw_row nn_PM20_ok (x := 381) (k := 0) (mn := 295) (np := 3) (ob := true) (ci := 11) (⟨"NameNotesModel", "isRound", "(III)Z"⟩, prog_14_method_91_code, 4, (Option.some Jvm.ClassFile.FieldType.boolean), 3, true, 1) rfl (by decide +kernel) rfl rfl (by decide) (fun _ => ⟨_, _, rfl⟩) (fm_m_isRound hinj), (List.forall_mem_cons.mpr ⟨fw_row nn_PM20_ok (x := 387) (k := 0) (mn := 296) (np := 3) (ob := true) (ci := 11) (⟨"NameNotesModel", "layBest", "(III)V"⟩, prog_14_method_94_code, 13, (Option.none : Option Jvm.ClassFile.FieldType), 3, true, 4) rfl (by decide +kernel) rfl rfl (by decide) (fun _ => ⟨_, _, rfl⟩) (fm_m_layBest hinj), (List.forall_mem_cons.mpr ⟨fw_row nn_PM20_ok (x := 404) (k := 0) (mn := 311) (np := 1) (ob := true) (ci := 11) (⟨"NameNotesModel", "put", "(I)V"⟩, prog_14_method_107_code, 2, (Option.none : Option Jvm.ClassFile.FieldType), 1, true, 4) rfl (by decide +kernel) rfl rfl (by decide) (fun _ => ⟨_, _, rfl⟩) (fm_m_put hinj), (List.forall_mem_cons.mpr ⟨fw_row nn_PM20_ok (x := 407) (k := 0) (mn := 310) (np := 1) (ob := true) (ci := 11) (⟨"NameNotesModel", "putName", "(J)V"⟩, prog_14_method_108_code, 6, (Option.none : Option Jvm.ClassFile.FieldType), 1, true, 4) rfl (by decide +kernel) rfl rfl (by decide) (fun _ => ⟨_, _, rfl⟩) (fm_m_putName hinj), (fun _ h => absurd h List.not_mem_nil)⟩)⟩)⟩)⟩)⟩) (fun as σ0 K h => by
  obtain ⟨A, p, q, c, rfl, ee, hN0, h30, h⟩ := h
  refine ⟨rfl, fun G hG => fs_m_play_0 hG ?_⟩
  rw [fw_c0]
  have hN : NM (ab_ups σ0 93 0 0) A := oz_NMM (dm_93 σ0) (by decide +kernel) hN0
  have h3 : 0 < A 49 13 → (ab_ups σ0 93 0 0) 95 3 = A 49 14 := fun z => by rw [ab_ups_ne (fun z => absurd z.1 (by decide))]; exact h30 z
  have hup : ∀ σ' : ab_SG, ab_okM pm_N (ab_ups σ0 93 0 0) σ' → ab_okM pm_N σ0 σ' := fun σ' M => on_trans (od_up (dm_93 σ0) (by decide)) M
  generalize ab_ups σ0 93 0 0 = σ at hN h3 h hup ⊢
  unfold v_play at h
  refine ⟨A, p, q, c, rfl, ee, hN, fs_m_play_12 hG ⟨fun z => ?_, fun z => ?_⟩⟩
  · have hb := fw_bo_ne z
    rw [if_pos hb] at h
    have nn := N_n hN.1
    have ok := rw_of hN.2.2
    obtain ⟨h1, h2, hne, -, h5⟩ := hb
    obtain ⟨p, rfl⟩ := Int.eq_ofNat_of_zero_le h1.1
    obtain ⟨q, rfl⟩ := Int.eq_ofNat_of_zero_le h2.1
    obtain ⟨c, rfl⟩ := Int.eq_ofNat_of_zero_le h5.1
    have hb : v_bd A (p : Int) (q : Int) 0 (c : Int) := fw_bo_ne z
    have B := dm_B20 hN hb
    have g58 := nm_nl_l 7 (A 58 c)
    have g59p := nm_nl_l 7 (A 59 p)
    have g59q := nm_nl_l 7 (A 59 q)
    have s32 : fw_c 32 = 32 := fw_s (by decide) (by decide)
    have s59 : fw_c 59 = 59 := fw_s (by decide) (by decide)
    have w1 : nm_nl 7 (fw_wc 1) ++ [fw_c 32] = pw_c := by
      rw [s32]
      decide +kernel
    have w6 : nm_nl 7 (fw_wc 6) ++ [fw_c 59] = pw_n := by
      rw [s59]
      decide +kernel
    have k1 : rf_ok 7 (fw_wc 1) := rf_okb_ok 7 _ (by decide +kernel)
    have k6 : rf_ok 7 (fw_wc 6) := rf_okb_ok 7 _ (by decide +kernel)
    have NMt : ∀ τ : ab_SG, ab_okM pm_N σ τ → NM τ A := fun τ M => oz_NMM M (by decide +kernel) hN
    have n58 : ∀ τ : ab_SG, ab_okM pm_N σ τ → τ 99 (9 + c) = rf_w 7 (A 58 c) := fun τ M => ((NMt τ M).2.2.2.2.2.2.2.2.2.2.2.1 c (by omega)).2
    have n59 : ∀ (τ : ab_SG) (j : Nat), ab_okM pm_N σ τ → (j : Int) < A 49 13 → τ 99 (15 + j) = rf_w 7 (A 59 j) := fun τ j M hj => ((NMt τ M).2.2.2.2.2.2.2.2.2.2.2.2 j hj).2
    refine ⟨A, _, _, _, rfl, hN, h3 (by omega), hb, fun σ1 M1 I1 => fs_m_play_24 hG ?_⟩
    have M1 : ab_okM pm_N σ σ1 := od_up M1 (by decide)
    rw [fw_c0]
    have i0 : ∀ i : Nat, i < 20 → (ab_ups σ1 93 39 0) 111 i = (v_du A (p : Int) (q : Int) (c : Int)).2 i := fun i hi => (ab_ups_ne (fun z => absurd z.1 (by decide))).trans (I1 i hi).2
    have M2 : ab_okM pm_N σ (ab_ups σ1 93 39 0) := fw_okM_ups M1 (by decide)
    have t0 : TXm (ab_ups σ1 93 39 0) [] := ⟨ab_ups_eq, fun j hj => absurd hj (Nat.not_lt_zero j)⟩
    generalize ab_ups σ1 93 39 0 = σ2 at i0 M2 t0 ⊢
    -- what a step of the text leaves
    have up : ∀ τ τ' : ab_SG, ab_okM pm_N σ τ → ab_okM pm_T τ τ' → ab_okM pm_N σ τ' := fun τ τ' M M' => on_trans M (od_up M' (by decide))
    have up2 : ∀ τ τ' : ab_SG, ab_okM pm_N σ τ → ab_okM tm_M τ τ' → ab_okM pm_N σ τ' := fun τ τ' M M' => on_trans M (od_up M' (by decide))
    have kp : ∀ τ τ' : ab_SG, ab_okM pm_T τ τ' → ∀ i : Nat, τ' 111 i = τ 111 i := fun τ τ' M' i => mk_row M' (by decide) i
    have kp2 : ∀ τ τ' : ab_SG, ab_okM tm_M τ τ' → ∀ i : Nat, τ' 111 i = τ 111 i := fun τ τ' M' i => mk_row M' (by decide) i
    refine ⟨1, rfl, by decide, fs_m_play_34 hG ⟨[], fw_wc 1, rfl, k1, by decide, t0, fun τ3 M3 t3 => fs_m_play_37 hG ⟨_, _, rfl, ?_, t3, fun τ4 M4 t4 => fs_m_play_43 hG ?_⟩⟩⟩
    · have := nm_nl_l 7 (fw_wc 1)
      rw [List.nil_append]
      omega
    have N4 := up2 _ _ (up _ _ M2 M3) M4
    have i4 : ∀ i : Nat, i < 20 → τ4 111 i = (v_du A (p : Int) (q : Int) (c : Int)).2 i := fun i hi => (kp2 _ _ M4 i).trans ((kp _ _ M3 i).trans (i0 i hi))
    rw [List.nil_append, w1] at t4
    have c9 : fw_c (9 + (c : Int)) = ((9 + c : Nat) : Int) := by
      rw [show 9 + (c : Int) = ((9 + c : Nat) : Int) by omega]
      exact fw_s (by omega) (by omega)
    rw [c9, Int.toNat_natCast, n58 τ4 N4]
    refine ⟨by omega, pw_c, A 58 c, rfl, ok.1 c h5.2, by decide, t4, fun τ5 M5 t5 => fs_m_play_56 hG ⟨_, _, rfl, ?_, t5, fun τ6 M6 t6 => fs_m_play_62 hG ?_⟩⟩
    · rw [List.length_append]
      show 5 + _ < 200
      omega
    have N6 := up2 _ _ (up _ _ N4 M5) M6
    have i6 : ∀ i : Nat, i < 20 → τ6 111 i = (v_du A (p : Int) (q : Int) (c : Int)).2 i := fun i hi => (kp2 _ _ M6 i).trans ((kp _ _ M5 i).trans (i4 i hi))
    rw [s59] at t6
    have l6 : ((pw_c ++ nm_nl 7 (A 58 c)) ++ [(59 : Int)]).length ≤ 13 := by
      rw [List.length_append, List.length_append]
      show 5 + _ + 1 ≤ 13
      omega
    have hh : ∀ τ : ab_SG, ab_okM pm_N σ τ → TXm τ (v_pt A (p : Int) (q : Int) (c : Int)) → K (some (0, 0, ((v_pt A (p : Int) (q : Int) (c : Int)).length : Int))) τ := fun τ M t => h τ (hup τ M) (fun _ => t) (fun y => absurd hb y)
    have fin : ∀ (τ : ab_SG) (a4 a5 : Int) (o7 : Option ab_AV), ab_okM pm_N σ τ → TXm τ (v_pt A (p : Int) (q : Int) (c : Int)) → G 71 [some (2, 93, 0), some (0, 0, (p : Int)), some (0, 0, (q : Int)), some (0, 0, (c : Int)), some (0, 0, a4), some (0, 0, a5), some (0, 0, 1), o7] [] τ := by
      intro τ a4 a5 o7 M t
      refine fs_m_play_71 hG ⟨fun _ => ?_, fun y => absurd y (by rw [fw_c1]; decide)⟩
      rw [t.1]
      exact hh τ M t
    have loop : ∀ (f i side n : Nat) (τ : ab_SG) (T : List Int) (o7 : Option ab_AV), i + f = 9 → side < 2 → n < 10 → ab_okM pm_N σ τ → (∀ j : Nat, j < 20 → τ 111 j = (v_du A (p : Int) (q : Int) (c : Int)).2 j) → (v_du A (p : Int) (q : Int) (c : Int)).2 (10 * side + n) ≤ (f : Int) → T.length ≤ 13 + 10 * i → TXm τ T → T ++ pl_f (v_du A (p : Int) (q : Int) (c : Int)).2 (nm_nl 7 (A 59 p)) (nm_nl 7 (A 59 q)) (f + 1) side n = v_pt A (p : Int) (q : Int) (c : Int) → G 71 [some (2, 93, 0), some (0, 0, (p : Int)), some (0, 0, (q : Int)), some (0, 0, (c : Int)), some (0, 0, (n : Int)), some (0, 0, (side : Int)), some (0, 0, 0), o7] [] τ := by
      intro f
      induction f with
      | zero =>
        intro i side n τ T o7 hi hs hn M I hm hl t e
        have b := (B (10 * side + n)).2.1
        have ez : (v_du A (p : Int) (q : Int) (c : Int)).2 (10 * side + n) = 0 := by omega
        rw [pl_s, if_pos ez] at e
        have ci : fw_c (10 * (side : Int) + (n : Int)) = ((10 * side + n : Nat) : Int) := by
          rw [show 10 * (side : Int) + (n : Int) = ((10 * side + n : Nat) : Int) by omega]
          exact fw_s (by omega) (by omega)
        have who : ∀ (j : Nat) (L : List Int), (j : Int) < A 49 13 → L = nm_nl 7 (A 59 j) → (if side = 0 then nm_nl 7 (A 59 p) else nm_nl 7 (A 59 q)) = L → G 108 [some (2, 93, 0), some (0, 0, (p : Int)), some (0, 0, (q : Int)), some (0, 0, (c : Int)), some (0, 0, (n : Int)), some (0, 0, (side : Int)), some (0, 0, 0), some (0, 0, (v_du A (p : Int) (q : Int) (c : Int)).2 (10 * side + n))] [(0, 0, (j : Int)), (0, 0, 15), (2, 99, 0), (2, 93, 0)] τ := by
          intro j L hj eL eI
          have c15 : fw_c (15 + (j : Int)) = ((15 + j : Nat) : Int) := by
            rw [show 15 + (j : Int) = ((15 + j : Nat) : Int) by omega]
            exact fw_s (by omega) (by omega)
          have gl := nm_nl_l 7 (A 59 j)
          refine fs_m_play_108 hG ?_
          rw [c15, Int.toNat_natCast, n59 τ j M hj]
          refine ⟨by omega, T, A 59 j, rfl, ok.2 j hj, by omega, t, fun τ7 M7 t7 => fs_m_play_113 hG ⟨_, _, rfl, by rw [List.length_append]; omega, t7, fun τ8 M8 t8 => fs_m_play_119 hG ?_⟩⟩
          have N8 := up2 _ _ (up _ _ M M7) M8
          have i8 : ∀ i : Nat, i < 20 → τ8 111 i = (v_du A (p : Int) (q : Int) (c : Int)).2 i := fun i hi => (kp2 _ _ M8 i).trans ((kp _ _ M7 i).trans (I i hi))
          rw [s32] at t8
          have l8 : ((T ++ nm_nl 7 (A 59 j)) ++ [(32 : Int)]).length ≤ T.length + 8 := by
            rw [List.length_append, List.length_append]
            show _ + _ + 1 ≤ _
            omega
          rw [eI, eL] at e
          rw [ez, fw_c0]
          refine ⟨fun y => absurd rfl y, fun _ => ⟨6, rfl, by decide, fs_m_play_130 hG ⟨_, fw_wc 6, rfl, k6, by omega, t8, fun τ9 M9 t9 => fs_m_play_133 hG (fs_m_play_145 hG ⟨_, _, rfl, ?_, t9, fun τA MA tA => fs_m_play_151 hG ⟨fun y => absurd fw_c0 y, fun _ => fs_m_play_161 hG (fin τA _ _ _ (up2 _ _ (up _ _ N8 M9) MA) ?_)⟩⟩)⟩⟩⟩
          · have := nm_nl_l 7 (fw_wc 6)
            rw [List.length_append]
            omega
          · have e9 : ((T ++ nm_nl 7 (A 59 j)) ++ [(32 : Int)]) ++ pw_n = v_pt A (p : Int) (q : Int) (c : Int) := by
              rw [← e]
              simp only [List.append_assoc]
            rw [List.append_assoc, w6, e9] at tA
            exact tA
        refine fs_m_play_71 hG ⟨fun y => absurd fw_c0 y, fun _ => ?_⟩
        rw [ci, Int.toNat_natCast, I (10 * side + n) (by omega)]
        refine ⟨by omega, fun y => ?_, fun y => ?_⟩
        · rw [fw_s (x := (side : Int)) (by omega) (by omega)] at y
          exact who q _ (by omega) rfl (if_neg (by omega))
        · rw [fw_s (x := (side : Int)) (by omega) (by omega)] at y
          exact who p _ (by omega) rfl (if_pos (by omega))
      | succ f ih =>
        intro i side n τ T o7 hi hs hn M I hm hl t e
        have b := (B (10 * side + n)).2.1
        by_cases ez : (v_du A (p : Int) (q : Int) (c : Int)).2 (10 * side + n) = 0
        · rw [pl_s, if_pos ez] at e
          have ci : fw_c (10 * (side : Int) + (n : Int)) = ((10 * side + n : Nat) : Int) := by
            rw [show 10 * (side : Int) + (n : Int) = ((10 * side + n : Nat) : Int) by omega]
            exact fw_s (by omega) (by omega)
          have who : ∀ (j : Nat) (L : List Int), (j : Int) < A 49 13 → L = nm_nl 7 (A 59 j) → (if side = 0 then nm_nl 7 (A 59 p) else nm_nl 7 (A 59 q)) = L → G 108 [some (2, 93, 0), some (0, 0, (p : Int)), some (0, 0, (q : Int)), some (0, 0, (c : Int)), some (0, 0, (n : Int)), some (0, 0, (side : Int)), some (0, 0, 0), some (0, 0, (v_du A (p : Int) (q : Int) (c : Int)).2 (10 * side + n))] [(0, 0, (j : Int)), (0, 0, 15), (2, 99, 0), (2, 93, 0)] τ := by
            intro j L hj eL eI
            have c15 : fw_c (15 + (j : Int)) = ((15 + j : Nat) : Int) := by
              rw [show 15 + (j : Int) = ((15 + j : Nat) : Int) by omega]
              exact fw_s (by omega) (by omega)
            have gl := nm_nl_l 7 (A 59 j)
            refine fs_m_play_108 hG ?_
            rw [c15, Int.toNat_natCast, n59 τ j M hj]
            refine ⟨by omega, T, A 59 j, rfl, ok.2 j hj, by omega, t, fun τ7 M7 t7 => fs_m_play_113 hG ⟨_, _, rfl, by rw [List.length_append]; omega, t7, fun τ8 M8 t8 => fs_m_play_119 hG ?_⟩⟩
            have N8 := up2 _ _ (up _ _ M M7) M8
            have i8 : ∀ i : Nat, i < 20 → τ8 111 i = (v_du A (p : Int) (q : Int) (c : Int)).2 i := fun i hi => (kp2 _ _ M8 i).trans ((kp _ _ M7 i).trans (I i hi))
            rw [s32] at t8
            have l8 : ((T ++ nm_nl 7 (A 59 j)) ++ [(32 : Int)]).length ≤ T.length + 8 := by
              rw [List.length_append, List.length_append]
              show _ + _ + 1 ≤ _
              omega
            rw [eI, eL] at e
            rw [ez, fw_c0]
            refine ⟨fun y => absurd rfl y, fun _ => ⟨6, rfl, by decide, fs_m_play_130 hG ⟨_, fw_wc 6, rfl, k6, by omega, t8, fun τ9 M9 t9 => fs_m_play_133 hG (fs_m_play_145 hG ⟨_, _, rfl, ?_, t9, fun τA MA tA => fs_m_play_151 hG ⟨fun y => absurd fw_c0 y, fun _ => fs_m_play_161 hG (fin τA _ _ _ (up2 _ _ (up _ _ N8 M9) MA) ?_)⟩⟩)⟩⟩⟩
            · have := nm_nl_l 7 (fw_wc 6)
              rw [List.length_append]
              omega
            · have e9 : ((T ++ nm_nl 7 (A 59 j)) ++ [(32 : Int)]) ++ pw_n = v_pt A (p : Int) (q : Int) (c : Int) := by
                rw [← e]
                simp only [List.append_assoc]
              rw [List.append_assoc, w6, e9] at tA
              exact tA
          refine fs_m_play_71 hG ⟨fun y => absurd fw_c0 y, fun _ => ?_⟩
          rw [ci, Int.toNat_natCast, I (10 * side + n) (by omega)]
          refine ⟨by omega, fun y => ?_, fun y => ?_⟩
          · rw [fw_s (x := (side : Int)) (by omega) (by omega)] at y
            exact who q _ (by omega) rfl (if_neg (by omega))
          · rw [fw_s (x := (side : Int)) (by omega) (by omega)] at y
            exact who p _ (by omega) rfl (if_pos (by omega))
        · rw [pl_s, if_neg ez] at e
          obtain ⟨k, ek⟩ := Int.eq_ofNat_of_zero_le b.1
          have b2 := (B (10 * (1 - side) + k)).2
          have mk : (v_du A (p : Int) (q : Int) (c : Int)).2 (10 * (1 - side) + k) ≤ (f : Int) := by have := b2.2 (by omega); omega
          have ci : fw_c (10 * (side : Int) + (n : Int)) = ((10 * side + n : Nat) : Int) := by
            rw [show 10 * (side : Int) + (n : Int) = ((10 * side + n : Nat) : Int) by omega]
            exact fw_s (by omega) (by omega)
          have who : ∀ (j : Nat) (L : List Int), (j : Int) < A 49 13 → L = nm_nl 7 (A 59 j) → (if side = 0 then nm_nl 7 (A 59 p) else nm_nl 7 (A 59 q)) = L → G 108 [some (2, 93, 0), some (0, 0, (p : Int)), some (0, 0, (q : Int)), some (0, 0, (c : Int)), some (0, 0, (n : Int)), some (0, 0, (side : Int)), some (0, 0, 0), some (0, 0, (v_du A (p : Int) (q : Int) (c : Int)).2 (10 * side + n))] [(0, 0, (j : Int)), (0, 0, 15), (2, 99, 0), (2, 93, 0)] τ := by
            intro j L hj eL eI
            have c15 : fw_c (15 + (j : Int)) = ((15 + j : Nat) : Int) := by
              rw [show 15 + (j : Int) = ((15 + j : Nat) : Int) by omega]
              exact fw_s (by omega) (by omega)
            have gl := nm_nl_l 7 (A 59 j)
            refine fs_m_play_108 hG ?_
            rw [c15, Int.toNat_natCast, n59 τ j M hj]
            refine ⟨by omega, T, A 59 j, rfl, ok.2 j hj, by omega, t, fun τ7 M7 t7 => fs_m_play_113 hG ⟨_, _, rfl, by rw [List.length_append]; omega, t7, fun τ8 M8 t8 => fs_m_play_119 hG ?_⟩⟩
            have N8 := up2 _ _ (up _ _ M M7) M8
            have i8 : ∀ i : Nat, i < 20 → τ8 111 i = (v_du A (p : Int) (q : Int) (c : Int)).2 i := fun i hi => (kp2 _ _ M8 i).trans ((kp _ _ M7 i).trans (I i hi))
            rw [s32] at t8
            have l8 : ((T ++ nm_nl 7 (A 59 j)) ++ [(32 : Int)]).length ≤ T.length + 8 := by
              rw [List.length_append, List.length_append]
              show _ + _ + 1 ≤ _
              omega
            rw [eI, eL] at e
            rw [fw_s (x := (v_du A (p : Int) (q : Int) (c : Int)).2 (10 * side + n)) (by omega) (by omega)]
            refine ⟨fun _ => ⟨_, _, rfl, by omega, t8, fun τ9 M9 t9 => fs_m_play_145 hG ⟨_, _, rfl, ?_, t9, fun τA MA tA => fs_m_play_151 hG ?_⟩⟩, fun y => absurd y ez⟩
            · rw [List.length_append]
              show _ + 1 < 200
              omega
            have NA := up2 _ _ (up2 _ _ N8 M9) MA
            have iA : ∀ i : Nat, i < 20 → τA 111 i = (v_du A (p : Int) (q : Int) (c : Int)).2 i := fun i hi => (kp2 _ _ MA i).trans ((kp2 _ _ M9 i).trans (i8 i hi))
            rw [s59, fw_s (x := 48 + (v_du A (p : Int) (q : Int) (c : Int)).2 (10 * side + n)) (by omega) (by omega)] at tA
            refine ⟨fun _ => fs_m_play_161 hG ?_, fun y => absurd (by rw [fw_s (x := (v_du A (p : Int) (q : Int) (c : Int)).2 (10 * side + n)) (by omega) (by omega)] at y; exact y) ez⟩
            have g := ih (i + 1) (1 - side) k τA _ (some (0, 0, (v_du A (p : Int) (q : Int) (c : Int)).2 (10 * side + n))) (by omega) (by omega) (by omega) NA iA mk (by
              rw [List.length_append, List.length_append]
              show _ + 1 + 1 ≤ _
              omega) tA (by
              rw [← e, ek, Int.toNat_natCast]
              simp only [List.append_assoc])
            rw [ek] at g ⊢
            rw [show ((1 - side : Nat) : Int) = 1 - (side : Int) by omega] at g
            exact g
          refine fs_m_play_71 hG ⟨fun y => absurd fw_c0 y, fun _ => ?_⟩
          rw [ci, Int.toNat_natCast, I (10 * side + n) (by omega)]
          refine ⟨by omega, fun y => ?_, fun y => ?_⟩
          · rw [fw_s (x := (side : Int)) (by omega) (by omega)] at y
            exact who q _ (by omega) rfl (if_neg (by omega))
          · rw [fw_s (x := (side : Int)) (by omega) (by omega)] at y
            exact who p _ (by omega) rfl (if_pos (by omega))
    have ev : v_pt A (p : Int) (q : Int) (c : Int) = ((pw_c ++ nm_nl 7 (A 58 c)) ++ [59]) ++ pl_f (v_du A (p : Int) (q : Int) (c : Int)).2 (nm_nl 7 (A 59 p)) (nm_nl 7 (A 59 q)) 10 0 0 := rfl
    exact loop 9 0 0 0 τ6 _ _ rfl (by decide) (by decide) N6 i6 (B 0).2.1.2 (by omega) t6 ev.symm
  · rw [if_neg (fw_bo_eq z)] at h
    exact h σ (hup σ (fw_okM_refl _ _)) (fun y => absurd y (fw_bo_eq z)) (fun _ => rfl))
end

/-- a word that never changes is added: at pc, back at pc + 6 -/
def pl_w (G : fw_K) (pc : Nat) (W : List Int) : Prop := ∀ (L : fw_L) (S : List ab_AV) (σ : ab_SG) (T : List Int), ab_cat S ≤ 8 → T.length + 5 ≤ 200 → TXc σ T → (∀ σ' : ab_SG, ab_okM tx_M σ σ' → TXc σ' (T ++ W) → G (pc + 6) L S σ') → G pc L ((2, 87, 0) :: S) σ
theorem pl_go {as : List ab_AV} {σ : ab_SG} {K : fw_KR} (h : sp_play as σ K) : (ab_cat as).ble 7 = true ∧ ∀ G : fw_K, fw_cls st_play K G → pl_w G 31 pw_c → pl_w G 168 pw_n → G 0 (fw_en 7 as) [] σ := by
  obtain ⟨A, p, q, c, rfl, ee, hN, ok, h⟩ := h
  refine ⟨rfl, fun G hG g31 g168 => fs_play_0 hG ⟨A, p, q, 0, c, rfl, ⟨ee.1, ee.2.1, fw_c0, ee.2.2⟩, hN, fs_play_8 hG ⟨fun z => ?_, fun z => ?_⟩⟩⟩
  · have hb := fw_bo_ne z
    unfold v_play at h
    rw [if_pos hb] at h
    have nn := N_n hN.1
    obtain ⟨h1, h2, hne, -, h5⟩ := hb
    obtain ⟨p, rfl⟩ := Int.eq_ofNat_of_zero_le h1.1
    obtain ⟨q, rfl⟩ := Int.eq_ofNat_of_zero_le h2.1
    obtain ⟨c, rfl⟩ := Int.eq_ofNat_of_zero_le h5.1
    have hb : v_bd A (p : Int) (q : Int) 0 (c : Int) := fw_bo_ne z
    have B := du_B20 hN hb
    have g58 := nm_nl_l 7 (A 58 c)
    have s32 : fw_c 32 = 32 := fw_s (by decide) (by decide)
    have s59 : fw_c 59 = 59 := fw_s (by decide) (by decide)
    have c9 : fw_c 9 = 9 := fw_s (by decide) (by decide)
    have t10 : fw_c 10 = 10 := fw_s (by decide) (by decide)
    refine ⟨A, _, _, _, rfl, hN, hb, fun σ1 M1 I1 => fs_play_20 hG ⟨rfl, fun σ2 M2 t2 => fs_play_27 hG (g31 _ [] σ2 [] (by decide) (by decide) t2 (fun σ3 M3 t3 => fs_play_37 hG ?_))⟩⟩
    have N3 : ab_okM pl_M σ σ3 := on_trans (od_up M1 (by decide)) (on_trans (od_up M2 (by decide)) (od_up M3 (by decide)))
    have kp : ∀ τ τ' : ab_SG, ab_okM tx_M τ τ' → ∀ i : Nat, τ' 80 i = τ 80 i := fun τ τ' M' i => mk_row M' (by decide) i
    have i3 : ∀ i : Nat, i < 20 → σ3 80 i = (v_du A (p : Int) (q : Int) (c : Int)).2 i := fun i hi => (kp _ _ M3 i).trans ((kp _ _ M2 i).trans (I1 i hi).2)
    have NCt : ∀ τ : ab_SG, ab_okM pl_M σ τ → NC τ A := fun τ M => oz_NCM M (by decide +kernel) hN
    have up : ∀ τ τ' : ab_SG, ab_okM pl_M σ τ → ab_okM tx_M τ τ' → ab_okM pl_M σ τ' := fun τ τ' M M' => on_trans M (od_up M' (by decide))
    have cc : fw_c (c : Int) = (c : Int) := fw_s (by omega) (by omega)
    refine ⟨(12, 6), by decide, _, rfl, fun _ => ?_, fun z => absurd (by rw [cc]; show _ ∧ _ < (6 : Int); omega) z⟩
    rw [cc, Int.toNat_natCast, show σ3 12 c = A 58 c from ((NCt σ3 N3).2.2.2.2.2.2.2.1 c h5.2).2]
    rw [List.nil_append] at t3
    refine fs_play_52 hG ⟨pw_c, _, rfl, ok.1 c h5.2, by decide, t3, fun σ4 M4 t4 => fs_play_55 hG ⟨_, _, rfl, ?_, t4, fun σ5 M5 t5 => fs_play_64 hG ?_⟩⟩
    · rw [List.length_append]
      show 5 + _ < 200
      omega
    have N5 := up _ _ (up _ _ N3 M4) M5
    have i5 : ∀ i : Nat, i < 20 → σ5 80 i = (v_du A (p : Int) (q : Int) (c : Int)).2 i := fun i hi => (kp _ _ M5 i).trans ((kp _ _ M4 i).trans (i3 i hi))
    rw [s59] at t5
    have l5 : ((pw_c ++ nm_nl 7 (A 58 c)) ++ [(59 : Int)]).length ≤ 13 := by
      rw [List.length_append, List.length_append]
      show 5 + _ + 1 ≤ 13
      omega
    have hh : ∀ τ : ab_SG, ab_okM pl_M σ τ → TXc τ (v_pt A (p : Int) (q : Int) (c : Int)) → K (some (0, 0, ((v_pt A (p : Int) (q : Int) (c : Int)).length : Int))) τ := fun τ M t => h τ M (fun _ => t) (fun y => absurd hb y)
    refine ⟨0, 0, _, _, rfl, ⟨rfl, rfl⟩, ⟨by decide, by decide⟩, fs_play_76 hG ?_⟩
    rw [i5 (10 * 0 + 0) (by decide)]
    have loop : ∀ (f i side n : Nat) (τ : ab_SG) (T : List Int), i + f = 9 → side < 2 → n < 10 → ab_okM pl_M σ τ → (∀ j : Nat, j < 20 → τ 80 j = (v_du A (p : Int) (q : Int) (c : Int)).2 j) → (v_du A (p : Int) (q : Int) (c : Int)).2 (10 * side + n) ≤ (f : Int) → T.length ≤ 13 + 10 * i → TXc τ T → T ++ pl_f (v_du A (p : Int) (q : Int) (c : Int)).2 (nm_nl 7 (A 59 p)) (nm_nl 7 (A 59 q)) (f + 1) side n = v_pt A (p : Int) (q : Int) (c : Int) → G 81 [some (2, 0, 0), some (0, 0, (p : Int)), some (0, 0, (q : Int)), some (0, 0, (c : Int)), some (0, 0, (side : Int)), some (0, 0, (v_du A (p : Int) (q : Int) (c : Int)).2 (10 * side + n)), some (0, 0, (i : Int))] [] τ := by
      intro f
      induction f with
      | zero =>
        intro i side n τ T hi hs hn M I hm hl t e
        have b := (B (10 * side + n)).2.1
        have ez : (v_du A (p : Int) (q : Int) (c : Int)).2 (10 * side + n) = 0 := by omega
        have ci : fw_c (i : Int) = (i : Int) := fw_s (by omega) (by omega)
        rw [pl_s, if_pos ez] at e
        have last : G 150 [some (2, 0, 0), some (0, 0, (p : Int)), some (0, 0, (q : Int)), some (0, 0, (c : Int)), some (0, 0, (side : Int)), some (0, 0, (v_du A (p : Int) (q : Int) (c : Int)).2 (10 * side + n)), some (0, 0, (i : Int))] [] τ := by
          have who : ∀ (j : Nat), (j : Int) < A 49 13 → (if side = 0 then nm_nl 7 (A 59 p) else nm_nl 7 (A 59 q)) = nm_nl 7 (A 59 j) → G 161 [some (2, 0, 0), some (0, 0, (p : Int)), some (0, 0, (q : Int)), some (0, 0, (c : Int)), some (0, 0, (side : Int)), some (0, 0, (v_du A (p : Int) (q : Int) (c : Int)).2 (10 * side + n)), some (0, 0, (i : Int))] [(0, 0, (j : Int)), (2, 0, 0)] τ := by
            intro j hj eI
            have gl := nm_nl_l 7 (A 59 j)
            rw [eI] at e
            refine fs_play_161 hG ⟨A, T, j, rfl, NCt τ M, ok, hj, by omega, t, fun τ1 M1 t1 => fs_play_164 hG (g168 _ [] τ1 _ (by decide) ?_ t1 (fun τ2 M2 t2 => fs_play_174 hG ?_))⟩
            · rw [List.length_append, List.length_append]
              show _ + (_ + 1) + 5 ≤ 200
              omega
            · rw [List.append_assoc, e] at t2
              rw [t2.1]
              exact hh τ2 (up _ _ (up _ _ M M1) M2) t2
          refine fs_play_150 hG ?_
          rw [fw_s (x := (side : Int)) (by omega) (by omega)]
          exact ⟨fun y => who q h2.2 (if_neg (by omega)), fun y => who p h1.2 (if_pos (by omega))⟩
        have c0 : fw_c ((v_du A (p : Int) (q : Int) (c : Int)).2 (10 * side + n)) = 0 := by rw [ez, fw_c0]
        exact fs_play_81 hG ⟨fun _ => last, fun _ => ⟨fun _ => last, fun y => absurd y (by rw [c0]; decide)⟩⟩
      | succ f ih =>
        intro i side n τ T hi hs hn M I hm hl t e
        have b := (B (10 * side + n)).2.1
        have ci : fw_c (i : Int) = (i : Int) := fw_s (by omega) (by omega)
        have cm : fw_c ((v_du A (p : Int) (q : Int) (c : Int)).2 (10 * side + n)) = (v_du A (p : Int) (q : Int) (c : Int)).2 (10 * side + n) := fw_s (by omega) (by omega)
        by_cases ez : (v_du A (p : Int) (q : Int) (c : Int)).2 (10 * side + n) = 0
        · rw [pl_s, if_pos ez] at e
          have last : G 150 [some (2, 0, 0), some (0, 0, (p : Int)), some (0, 0, (q : Int)), some (0, 0, (c : Int)), some (0, 0, (side : Int)), some (0, 0, (v_du A (p : Int) (q : Int) (c : Int)).2 (10 * side + n)), some (0, 0, (i : Int))] [] τ := by
            have who : ∀ (j : Nat), (j : Int) < A 49 13 → (if side = 0 then nm_nl 7 (A 59 p) else nm_nl 7 (A 59 q)) = nm_nl 7 (A 59 j) → G 161 [some (2, 0, 0), some (0, 0, (p : Int)), some (0, 0, (q : Int)), some (0, 0, (c : Int)), some (0, 0, (side : Int)), some (0, 0, (v_du A (p : Int) (q : Int) (c : Int)).2 (10 * side + n)), some (0, 0, (i : Int))] [(0, 0, (j : Int)), (2, 0, 0)] τ := by
              intro j hj eI
              have gl := nm_nl_l 7 (A 59 j)
              rw [eI] at e
              refine fs_play_161 hG ⟨A, T, j, rfl, NCt τ M, ok, hj, by omega, t, fun τ1 M1 t1 => fs_play_164 hG (g168 _ [] τ1 _ (by decide) ?_ t1 (fun τ2 M2 t2 => fs_play_174 hG ?_))⟩
              · rw [List.length_append, List.length_append]
                show _ + (_ + 1) + 5 ≤ 200
                omega
              · rw [List.append_assoc, e] at t2
                rw [t2.1]
                exact hh τ2 (up _ _ (up _ _ M M1) M2) t2
            refine fs_play_150 hG ?_
            rw [fw_s (x := (side : Int)) (by omega) (by omega)]
            exact ⟨fun y => who q h2.2 (if_neg (by omega)), fun y => who p h1.2 (if_pos (by omega))⟩
          have c0 : fw_c ((v_du A (p : Int) (q : Int) (c : Int)).2 (10 * side + n)) = 0 := by rw [ez, fw_c0]
          exact fs_play_81 hG ⟨fun _ => last, fun _ => ⟨fun _ => last, fun y => absurd y (by rw [c0]; decide)⟩⟩
        · rw [pl_s, if_neg ez] at e
          obtain ⟨k, ek⟩ := Int.eq_ofNat_of_zero_le b.1
          have b2 := (B (10 * (1 - side) + k)).2
          have mk : (v_du A (p : Int) (q : Int) (c : Int)).2 (10 * (1 - side) + k) ≤ (f : Int) := by have := b2.2 (by omega); omega
          have turn : ∀ (j : Nat), (j : Int) < A 49 13 → (if side = 0 then nm_nl 7 (A 59 p) else nm_nl 7 (A 59 q)) = nm_nl 7 (A 59 j) → G 104 [some (2, 0, 0), some (0, 0, (p : Int)), some (0, 0, (q : Int)), some (0, 0, (c : Int)), some (0, 0, (side : Int)), some (0, 0, (v_du A (p : Int) (q : Int) (c : Int)).2 (10 * side + n)), some (0, 0, (i : Int))] [(0, 0, (j : Int)), (2, 0, 0)] τ := by
            intro j hj eI
            have gl := nm_nl_l 7 (A 59 j)
            rw [eI] at e
            refine fs_play_104 hG ⟨A, T, j, rfl, NCt τ M, ok, hj, by omega, t, fun τ1 M1 t1 => fs_play_107 hG ⟨_, _, rfl, ?_, t1, fun τ2 M2 t2 => fs_play_116 hG ⟨_, _, rfl, ?_, t2, fun τ3 M3 t3 => fs_play_125 hG ?_⟩⟩⟩
            · rw [List.length_append, List.length_append]
              show _ + (_ + 1) < 198
              omega
            · have := nu_l ((v_du A (p : Int) (q : Int) (c : Int)).2 (10 * side + n))
              rw [List.length_append, List.length_append, List.length_append]
              show _ + (_ + 1) + _ < 200
              omega
            have N3 := up _ _ (up _ _ (up _ _ M M1) M2) M3
            have i3 : ∀ i : Nat, i < 20 → τ3 80 i = (v_du A (p : Int) (q : Int) (c : Int)).2 i := fun i hi => (kp _ _ M3 i).trans ((kp _ _ M2 i).trans ((kp _ _ M1 i).trans (I i hi)))
            have en : nu ((v_du A (p : Int) (q : Int) (c : Int)).2 (10 * side + n)) = [48 + (v_du A (p : Int) (q : Int) (c : Int)).2 (10 * side + n)] := by
              unfold nu
              rw [cm, t10, if_neg (by omega), ek]
              have : ∀ k : Nat, k < 10 → [fw_c (48 + fw_op 4 (k : Int) 10)] = [48 + (k : Int)] := by decide +kernel
              exact this k (by omega)
            rw [s59, en] at t3
            refine ⟨1 - side, k, _, _, rfl, ⟨by omega, ek⟩, ⟨by omega, by omega⟩, fs_play_142 hG ?_⟩
            rw [i3 (10 * (1 - side) + k) (by omega)]
            have g := ih (i + 1) (1 - side) k τ3 _ (by omega) (by omega) (by omega) N3 i3 mk (by
              rw [List.length_append, List.length_append, List.length_append, List.length_append]
              show _ + (_ + 1) + 1 + 1 ≤ _
              omega) t3 (by
              rw [← e, ek, Int.toNat_natCast]
              simp only [List.append_assoc])
            rw [show ((1 - side : Nat) : Int) = 1 - (side : Int) by omega] at g
            exact g
          refine fs_play_81 hG ?_
          rw [cm, ci, c9, fw_s (x := (side : Int)) (by omega) (by omega)]
          refine ⟨fun y => absurd y (by omega), fun _ => ⟨fun y => absurd y (by omega), fun _ => ⟨fun y => turn q h2.2 (if_neg (by omega)), fun y => turn p h1.2 (if_pos (by omega))⟩⟩⟩
    have ev : v_pt A (p : Int) (q : Int) (c : Int) = ((pw_c ++ nm_nl 7 (A 58 c)) ++ [59]) ++ pl_f (v_du A (p : Int) (q : Int) (c : Int)).2 (nm_nl 7 (A 59 p)) (nm_nl 7 (A 59 q)) 10 0 0 := rfl
    exact loop 9 0 0 0 σ5 _ rfl (by decide) (by decide) N5 i5 (B 0).2.1.2 (by omega) t5 ev.symm
  · unfold v_play at h
    rw [if_neg (fw_bo_eq z)] at h
    exact h σ (fw_okM_refl _ _) (fun y => absurd y (fw_bo_eq z)) (fun _ => rfl)
end
