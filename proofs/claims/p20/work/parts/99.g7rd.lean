/-! the class's tape: a run of letters and digits; what a step finds -/
/-- byte j of the class's tape -/
def tp_t (σ : ab_SG) (j : Nat) : Int := fw_op 8 (σ 2 j) 255
theorem tp_t_in (σ : ab_SG) (j : Nat) : 0 ≤ tp_t σ j ∧ tp_t σ j ≤ 255 := by
  have h := ab_bit_and (Int32.ofInt (σ 2 j)) (Int32.ofInt 255) (by decide)
  have e : (Int32.ofInt 255).toInt = 255 := by decide
  rw [e] at h
  exact h
theorem tp_t_c (σ : ab_SG) (j : Nat) : fw_c (tp_t σ j) = tp_t σ j := by
  have := tp_t_in σ j
  exact fw_c_id (by omega) (by omega)
theorem fw_okM_c {M : ab_ML} {σ σ' : ab_SG} {a : Nat} (h : ab_okM M σ σ') (hm : M.all (fun q => !(q.1.beq a)) = true) : σ' a = σ a := by
  funext b
  refine h a b (fun q hq hq2 => ?_)
  have := List.all_eq_true.mp hm q hq
  rw [Bool.not_eq_true'] at this
  rw [hq2.1] at this
  rw [Nat.beq_refl] at this
  cases this
theorem fw_okM_refl (M : ab_ML) (σ : ab_SG) : ab_okM M σ σ := fun _ _ _ => rfl
theorem fw_okM_ups {M : ab_ML} {σ σ' : ab_SG} {k j : Nat} {x : Int} (h : ab_okM M σ σ') (hm : M.any (fun q => q.1.beq k && q.2.beq j) = true) : ab_okM M σ (ab_ups σ' k j x) := by
  intro a b hab
  rw [ab_ups_ne ?_]
  · exact h a b hab
  · rintro ⟨rfl, rfl⟩
    obtain ⟨q, hq, hq2⟩ := List.any_eq_true.mp hm
    rw [Bool.and_eq_true] at hq2
    exact hab q hq ⟨ab_beq hq2.1, Or.inl (ab_beq hq2.2)⟩
theorem fw_okM_tr {M M' : ab_ML} {σ σ' σ'' : ab_SG} (h : ab_okM M σ σ') (h' : ab_okM M' σ' σ'') (hm : ∀ q ∈ M', q ∈ M) : ab_okM M σ σ'' := by
  intro a b hab
  rw [h' a b (fun q hq => hab q (hm q hq))]
  exact h a b hab
theorem tp_t_M {M : ab_ML} {σ σ' : ab_SG} (h : ab_okM M σ σ') (hm : M.all (fun q => !(q.1.beq 2)) = true) : tp_t σ' = tp_t σ := by
  funext j
  unfold tp_t
  rw [fw_okM_c h hm]
/-- byte p, where there is one -/
theorem tp_lk_at {σ : ab_SG} {p : Nat} (h1 : σ 1 1 ≤ 940) (h2 : (p : Int) < σ 1 1) : tp_lk σ (p : Int) = tp_t σ p := by
  have e1 : fw_c (p : Int) = p := fw_c_id (by omega) (by omega)
  have e2 : fw_c (σ 1 1) = σ 1 1 := fw_c_id (by omega) (by omega)
  unfold tp_lk
  rw [e1, e2, if_pos ⟨by omega, h2, by omega⟩]
  rfl
/-- letters, digits, the word, the number -/
abbrev tk_S : Type := Int × Int × Int × Int
def tk_run (t : Nat → Int) : Nat → Nat → tk_S → Nat × tk_S
  | 0, p, s => (p, s)
  | f + 1, p, s => if 97 ≤ t p ∧ t p ≤ 122 then tk_run t f (p + 1) (s.1 + 1, s.2.1, fw_d (s.2.2.1 * 32 + t p - 97 + 1), s.2.2.2)
    else if 48 ≤ t p ∧ t p ≤ 57 then tk_run t f (p + 1) (s.1, s.2.1 + 1, s.2.2.1, fw_c (s.2.2.2 * 10 + t p - 48))
    else (p, s)
def sp_withLetter : fw_SP := fun as σ K => ∃ w x : Int, as = [(1, 0, w), (0, 0, x)] ∧ K (some (1, 0, w * 32 + fw_c x - 97 + ((1 : Nat) : Int))) σ
/-- the word's number among those that no name may be -/
def kw_of : Nat → Int → Int → Int
  | 0, _, d => d
  | i + 1, w, d => if fw_wc i = w then (i : Int) else kw_of i w d
def sp_findKeyword : fw_SP := fun as σ K => as = [(2, 1, 0)] ∧ fw_d (σ 1 6) = σ 1 6 ∧ ∀ σ' : ab_SG, ab_okM [(1, 7)] σ σ' → σ' 1 7 = kw_of 17 (σ 1 6) (σ 1 7) → K none σ'
def rr_M : ab_ML := [(1, 3), (1, 5), (1, 6), (1, 7), (1, 8)]
/-- what a run leaves: where it ends, its kind, its word, its number -/
def rr_post (σ σ' : ab_SG) (r : Nat × tk_S) : Prop := ab_okM rr_M σ σ' ∧ σ' 1 3 = (r.1 : Int) ∧
  (r.2.2.1 = 0 ∧ r.2.1 ≤ 7 → σ' 1 5 = 2 ∧ σ' 1 6 = r.2.2.2.1 ∧ σ' 1 7 = kw_of 17 r.2.2.2.1 (σ 1 7)) ∧
  (¬ (r.2.2.1 = 0 ∧ r.2.1 ≤ 7) → r.2.1 = 0 ∧ r.2.2.1 ≤ 2 → σ' 1 5 = 3 ∧ σ' 1 8 = r.2.2.2.2 ∧ σ' 1 7 = σ 1 7) ∧
  (¬ (r.2.2.1 = 0 ∧ r.2.1 ≤ 7) → ¬ (r.2.1 = 0 ∧ r.2.2.1 ≤ 2) → σ' 1 5 = 1 ∧ σ' 1 7 = σ 1 7)
def sp_readRun : fw_SP := fun as σ K => as = [(2, 1, 0)] ∧ (0 ≤ σ 1 3 ∧ σ 1 3 ≤ σ 1 1 ∧ σ 1 1 ≤ 940) ∧
  ∀ σ' : ab_SG, rr_post σ σ' (tk_run (tp_t σ) ((σ 1 1).toNat - (σ 1 3).toNat) (σ 1 3).toNat (0, 0, 0, 0)) → K none σ'
abbrev fk_withLetter : List fw_CR := []
abbrev st_withLetter : fw_K → fw_KR → fw_K := fw_st vwCl nn_sh nn_kd fw_kv fw_wc (nn_KI2.map (fun x => x.1)) (nn_KJ2.map (fun x => x.1)) (nn_PF2.map (fun x => x.1)) (nn_PS2.map (fun x => x.1)) fk_withLetter 0 nn_dt16 3 2
theorem fs_withLetter_0 {G : fw_K} {R : fw_KR} (hG : fw_cls st_withLetter R G) {w x : Int} {σ : ab_SG} (h : R (some (1, 0, (((w * 32) + (fw_c x)) - 97) + ((1 : Nat) : Int))) σ) : G 0 [some (1, 0, w), none, some (0, 0, x)] [] σ := fw_on hG [] 200 h
abbrev fk_findKeyword : List fw_CR := []
abbrev st_findKeyword : fw_K → fw_KR → fw_K := fw_st vwCl nn_sh nn_kd fw_kv fw_wc (nn_KI2.map (fun x => x.1)) (nn_KJ2.map (fun x => x.1)) (nn_PF2.map (fun x => x.1)) (nn_PS2.map (fun x => x.1)) fk_findKeyword 0 nn_dt17 2 4
theorem fs_findKeyword_0 {G : fw_K} {R : fw_KR} (hG : fw_cls st_findKeyword R G) {σ : ab_SG} (h : G 2 [some (2, 1, 0), some (0, 0, 0)] [] σ) : G 0 [some (2, 1, 0), none] [] σ := fw_on hG [2, 35] 200 h
theorem fs_findKeyword_2 {G : fw_K} {R : fw_KR} (hG : fw_cls st_findKeyword R G) {a1 : Int} {σ : ab_SG} (h : (fw_c ((17 : Nat) : Int) ≤ fw_c a1 → R none σ) ∧ (fw_c a1 < fw_c ((17 : Nat) : Int) → (0 ≤ fw_c a1 ∧ fw_c a1 < ((17 : Nat) : Int)) ∧ ((0 ≤ fw_c a1 ∧ fw_c a1 ≤ 16) ∧ ((fw_d (fw_wc (fw_c a1).toNat) ≠ fw_d (σ 1 6) → G 35 [some (2, 1, 0), some (0, 0, a1)] [] σ) ∧ (fw_d (fw_wc (fw_c a1).toNat) = fw_d (σ 1 6) → (0 ≤ fw_c a1 ∧ fw_c a1 < ((17 : Nat) : Int)) ∧ (G 35 [some (2, 1, 0), some (0, 0, a1)] [] (ab_ups σ 1 7 (fw_c a1)))))))) : G 2 [some (2, 1, 0), some (0, 0, a1)] [] σ := fw_on hG [2, 35] 200 h
theorem fs_findKeyword_35 {G : fw_K} {R : fw_KR} (hG : fw_cls st_findKeyword R G) {a1 : Int} {σ : ab_SG} (h : G 2 [some (2, 1, 0), some (0, 0, a1 + 1)] [] σ) : G 35 [some (2, 1, 0), some (0, 0, a1)] [] σ := fw_on hG [2, 35] 200 h
abbrev fk_readRun : List fw_CR := [(34, 1, true, 8, 0, sp_look), (52, 1, false, 0, 0, sp_isLetter), (55, 1, false, 0, 0, sp_isDigit), (71, 2, false, 0, 0, sp_withLetter), (75, 0, true, 8, 0, sp_findKeyword)]
abbrev st_readRun : fw_K → fw_KR → fw_K := fw_st vwCl nn_sh nn_kd fw_kv fw_wc (nn_KI2.map (fun x => x.1)) (nn_KJ2.map (fun x => x.1)) (nn_PF2.map (fun x => x.1)) (nn_PS2.map (fun x => x.1)) fk_readRun 1 nn_dt15 4 4
theorem fs_readRun_0 {G : fw_K} {R : fw_KR} (hG : fw_cls st_readRun R G) {σ : ab_SG} (h : sp_look [(2, 1, 0), (0, 0, σ 1 3)] (ab_ups (ab_ups σ 1 6 (fw_d ((0 : Nat) : Int))) 1 8 (fw_c 0)) (fun rv σ2 => G 22 [some (2, 1, 0), some (0, 0, 0), some (0, 0, 0), none] (rv.toList ++ []) σ2)) : G 0 [some (2, 1, 0), none, none, none] [] σ := fw_on hG [22, 23, 38, 45, 48, 52, 67, 92, 110, 114, 138, 141] 200 h
theorem fs_readRun_22 {G : fw_K} {R : fw_KR} (hG : fw_cls st_readRun R G) {a1 a2 b0 : Int} {σ : ab_SG} (h : G 23 [some (2, 1, 0), some (0, 0, a1), some (0, 0, a2), some (0, 0, b0)] [] σ) : G 22 [some (2, 1, 0), some (0, 0, a1), some (0, 0, a2), none] [(0, 0, b0)] σ := fw_on hG [22, 23, 38, 45, 48, 52, 67, 92, 110, 114, 138, 141] 200 h
theorem fs_readRun_23 {G : fw_K} {R : fw_KR} (hG : fw_cls st_readRun R G) {a1 a2 a3 : Int} {σ : ab_SG} (h : (fw_c (σ 1 1) ≤ fw_c (σ 1 3) → G 114 [some (2, 1, 0), some (0, 0, a1), some (0, 0, a2), some (0, 0, a3)] [] σ) ∧ (fw_c (σ 1 3) < fw_c (σ 1 1) → sp_isLetter [(0, 0, a3)] σ (fun rv σ2 => G 38 [some (2, 1, 0), some (0, 0, a1), some (0, 0, a2), some (0, 0, a3)] (rv.toList ++ []) σ2))) : G 23 [some (2, 1, 0), some (0, 0, a1), some (0, 0, a2), some (0, 0, a3)] [] σ := fw_on hG [22, 23, 38, 45, 48, 52, 67, 92, 110, 114, 138, 141] 200 h
theorem fs_readRun_114 {G : fw_K} {R : fw_KR} (hG : fw_cls st_readRun R G) {a1 a2 a3 : Int} {σ : ab_SG} (h : (fw_c a2 ≠ 0 → G 141 [some (2, 1, 0), some (0, 0, a1), some (0, 0, a2), some (0, 0, a3)] [] (ab_ups σ 1 5 (fw_c 1))) ∧ (fw_c a2 = 0 → (fw_c 7 < fw_c a1 → G 141 [some (2, 1, 0), some (0, 0, a1), some (0, 0, a2), some (0, 0, a3)] [] (ab_ups σ 1 5 (fw_c 1))) ∧ (fw_c a1 ≤ fw_c 7 → sp_findKeyword [(2, 1, 0)] (ab_ups (ab_ups σ 1 5 (fw_c 1)) 1 5 (fw_c 2)) (fun rv σ2 => G 138 [some (2, 1, 0), some (0, 0, a1), some (0, 0, a2), some (0, 0, a3)] (rv.toList ++ []) σ2)))) : G 114 [some (2, 1, 0), some (0, 0, a1), some (0, 0, a2), some (0, 0, a3)] [] σ := fw_on hG [22, 23, 38, 45, 48, 52, 67, 92, 110, 114, 138, 141] 200 h
theorem fs_readRun_38 {G : fw_K} {R : fw_KR} (hG : fw_cls st_readRun R G) {a1 a2 a3 b0 : Int} {σ : ab_SG} (h : (fw_c b0 ≠ 0 → G 48 [some (2, 1, 0), some (0, 0, a1), some (0, 0, a2), some (0, 0, a3)] [] σ) ∧ (fw_c b0 = 0 → sp_isDigit [(0, 0, a3)] σ (fun rv σ2 => G 45 [some (2, 1, 0), some (0, 0, a1), some (0, 0, a2), some (0, 0, a3)] (rv.toList ++ []) σ2))) : G 38 [some (2, 1, 0), some (0, 0, a1), some (0, 0, a2), some (0, 0, a3)] [(0, 0, b0)] σ := fw_on hG [22, 23, 38, 45, 48, 52, 67, 92, 110, 114, 138, 141] 200 h
theorem fs_readRun_141 {G : fw_K} {R : fw_KR} (hG : fw_cls st_readRun R G) {a1 a2 a3 : Int} {σ : ab_SG} (h : (fw_c a1 ≠ 0 → R none σ) ∧ (fw_c a1 = 0 → (fw_c 2 < fw_c a2 → R none σ) ∧ (fw_c a2 ≤ fw_c 2 → R none (ab_ups σ 1 5 (fw_c 3))))) : G 141 [some (2, 1, 0), some (0, 0, a1), some (0, 0, a2), some (0, 0, a3)] [] σ := fw_on hG [22, 23, 38, 45, 48, 52, 67, 92, 110, 114, 138, 141] 200 h
theorem fs_readRun_138 {G : fw_K} {R : fw_KR} (hG : fw_cls st_readRun R G) {a1 a2 a3 : Int} {σ : ab_SG} (h : R none σ) : G 138 [some (2, 1, 0), some (0, 0, a1), some (0, 0, a2), some (0, 0, a3)] [] σ := fw_on hG [22, 23, 38, 45, 48, 52, 67, 92, 110, 114, 138, 141] 200 h
theorem fs_readRun_48 {G : fw_K} {R : fw_KR} (hG : fw_cls st_readRun R G) {a1 a2 a3 : Int} {σ : ab_SG} (h : sp_isLetter [(0, 0, a3)] σ (fun rv σ2 => G 52 [some (2, 1, 0), some (0, 0, a1), some (0, 0, a2), some (0, 0, a3)] (rv.toList ++ []) σ2)) : G 48 [some (2, 1, 0), some (0, 0, a1), some (0, 0, a2), some (0, 0, a3)] [] σ := fw_on hG [22, 23, 38, 45, 48, 52, 67, 92, 110, 114, 138, 141] 200 h
theorem fs_readRun_45 {G : fw_K} {R : fw_KR} (hG : fw_cls st_readRun R G) {a1 a2 a3 b0 : Int} {σ : ab_SG} (h : (fw_c b0 = 0 → G 114 [some (2, 1, 0), some (0, 0, a1), some (0, 0, a2), some (0, 0, a3)] [] σ) ∧ (fw_c b0 ≠ 0 → G 48 [some (2, 1, 0), some (0, 0, a1), some (0, 0, a2), some (0, 0, a3)] [] σ)) : G 45 [some (2, 1, 0), some (0, 0, a1), some (0, 0, a2), some (0, 0, a3)] [(0, 0, b0)] σ := fw_on hG [22, 23, 38, 45, 48, 52, 67, 92, 110, 114, 138, 141] 200 h
theorem fs_readRun_52 {G : fw_K} {R : fw_KR} (hG : fw_cls st_readRun R G) {a1 a2 a3 b0 : Int} {σ : ab_SG} (h : (fw_c b0 = 0 → G 92 [some (2, 1, 0), some (0, 0, a1), some (0, 0, a2 + 1), some (0, 0, a3)] [] (ab_ups σ 1 8 (fw_c ((((σ 1 8) * 10) + a3) - 48)))) ∧ (fw_c b0 ≠ 0 → sp_withLetter [(1, 0, σ 1 6), (0, 0, a3)] σ (fun rv σ2 => G 67 [some (2, 1, 0), some (0, 0, a1 + 1), some (0, 0, a2), some (0, 0, a3)] (rv.toList ++ [(2, 1, 0)]) σ2))) : G 52 [some (2, 1, 0), some (0, 0, a1), some (0, 0, a2), some (0, 0, a3)] [(0, 0, b0)] σ := fw_on hG [22, 23, 38, 45, 48, 52, 67, 92, 110, 114, 138, 141] 200 h
theorem fs_readRun_92 {G : fw_K} {R : fw_KR} (hG : fw_cls st_readRun R G) {a1 a2 a3 : Int} {σ : ab_SG} (h : sp_look [(2, 1, 0), (0, 0, (fw_c ((σ 1 3) + 1)))] (ab_ups σ 1 3 (fw_c ((σ 1 3) + 1))) (fun rv σ2 => G 110 [some (2, 1, 0), some (0, 0, a1), some (0, 0, a2), some (0, 0, a3)] (rv.toList ++ []) σ2)) : G 92 [some (2, 1, 0), some (0, 0, a1), some (0, 0, a2), some (0, 0, a3)] [] σ := fw_on hG [22, 23, 38, 45, 48, 52, 67, 92, 110, 114, 138, 141] 200 h
theorem fs_readRun_67 {G : fw_K} {R : fw_KR} (hG : fw_cls st_readRun R G) {a1 a2 a3 b0 : Int} {σ : ab_SG} (h : G 92 [some (2, 1, 0), some (0, 0, a1), some (0, 0, a2), some (0, 0, a3)] [] (ab_ups σ 1 6 (fw_d b0))) : G 67 [some (2, 1, 0), some (0, 0, a1), some (0, 0, a2), some (0, 0, a3)] [(1, 0, b0), (2, 1, 0)] σ := fw_on hG [22, 23, 38, 45, 48, 52, 67, 92, 110, 114, 138, 141] 200 h
theorem fs_readRun_110 {G : fw_K} {R : fw_KR} (hG : fw_cls st_readRun R G) {a1 a2 a3 b0 : Int} {σ : ab_SG} (h : G 23 [some (2, 1, 0), some (0, 0, a1), some (0, 0, a2), some (0, 0, b0)] [] σ) : G 110 [some (2, 1, 0), some (0, 0, a1), some (0, 0, a2), some (0, 0, a3)] [(0, 0, b0)] σ := fw_on hG [22, 23, 38, 45, 48, 52, 67, 92, 110, 114, 138, 141] 200 h
theorem fw_17 : fw_c ((17 : Nat) : Int) = 17 := fw_c_id (by decide) (by decide)
theorem fw_wc_d : ∀ i : Nat, i < 17 → fw_d (fw_wc i) = fw_wc i := by decide +kernel
theorem kw_step {G : fw_K} {K : fw_KR} (hG : fw_cls st_findKeyword K G) {σ0 : ab_SG} (hd : fw_d (σ0 1 6) = σ0 1 6) (hK : ∀ σ' : ab_SG, ab_okM [(1, 7)] σ0 σ' → σ' 1 7 = kw_of 17 (σ0 1 6) (σ0 1 7) → K none σ') :
    ∀ (f i : Nat) (σ : ab_SG), i + f = 17 → ab_okM [(1, 7)] σ0 σ → σ 1 7 = kw_of i (σ0 1 6) (σ0 1 7) → G 2 [some (2, 1, 0), some (0, 0, (i : Int))] [] σ := by
  intro f
  induction f with
  | zero =>
    intro i σ hi hM hk
    have e0 : i = 17 := by omega
    subst e0
    have e1 : fw_c ((17 : Nat) : Int) = 17 := fw_17
    refine fs_findKeyword_2 hG ?_
    rw [e1]
    exact ⟨fun _ => hK σ hM hk, fun q => absurd q (by omega)⟩
  | succ f ih =>
    intro i σ hi hM hk
    have e1 : fw_c (i : Int) = i := fw_c_id (by omega) (by omega)
    have e6 : σ 1 6 = σ0 1 6 := hM 1 6 (by decide)
    have e5 : (i : Int).toNat = i := Int.toNat_natCast i
    refine fs_findKeyword_2 hG ?_
    rw [e1, fw_17, e6, hd, e5, fw_wc_d i (by omega)]
    refine ⟨fun q => absurd q (by omega), fun _ => ⟨⟨by omega, by show (i : Int) < 17; omega⟩, ⟨by omega, by omega⟩, fun q => ?_, fun q => ⟨⟨by omega, by show (i : Int) < 17; omega⟩, ?_⟩⟩⟩
    · refine fs_findKeyword_35 hG ?_
      refine ih (i + 1) σ (by omega) hM ?_
      show _ = if fw_wc i = σ0 1 6 then (i : Int) else kw_of i (σ0 1 6) (σ0 1 7)
      rw [if_neg q]
      exact hk
    · refine fs_findKeyword_35 hG ?_
      refine ih (i + 1) _ (by omega) (fw_okM_ups hM (by decide)) ?_
      show _ = if fw_wc i = σ0 1 6 then (i : Int) else kw_of i (σ0 1 6) (σ0 1 7)
      rw [if_pos q, ab_ups_eq]
section
variable {l : Launch} {cy : Nat → ClassId} {ad wr cr : Nat → Nat} {D : va_G}
theorem fm_withLetter (hinj : nn_inj ad) : fw_H l cy ad wr cr D 16 0 sp_withLetter := fw_mk hinj (⟨"NameNotes$Tape", "withLetter", "(JI)J"⟩, prog_10_method_15_code, 3, (Option.some Jvm.ClassFile.FieldType.long), 2, false, 2) rfl rfl nn_KI2_ok nn_KJ2_ok nn_PF2_ok nn_PS2_ok (by decide +kernel) rfl rfl (fun _ h => absurd h List.not_mem_nil) (fun as σ K h => by
  obtain ⟨w, x, rfl, h⟩ := h
  exact ⟨rfl, fun G hG => fs_withLetter_0 hG h⟩)
theorem fm_findKeyword (hinj : nn_inj ad) : fw_H l cy ad wr cr D 17 0 sp_findKeyword := fw_mk hinj (⟨"NameNotes$Tape", "findKeyword", "()V"⟩, prog_10_method_7_code, 2, (Option.none : Option Jvm.ClassFile.FieldType), 0, true, 4) rfl rfl nn_KI2_ok nn_KJ2_ok nn_PF2_ok nn_PS2_ok (by decide +kernel) rfl rfl (fun _ h => absurd h List.not_mem_nil) (fun as σ K h => by
  obtain ⟨rfl, hd, h⟩ := h
  refine ⟨rfl, fun G hG => fs_findKeyword_0 hG ?_⟩
  exact kw_step hG hd h 17 0 σ rfl (fw_okM_refl _ _) rfl)
end
theorem rr_loop {G : fw_K} {K : fw_KR} (hG : fw_cls st_readRun K G) {σ0 : ab_SG} (hn : 0 ≤ σ0 1 1 ∧ σ0 1 1 ≤ 940) {r : Nat × tk_S}
    (hx : ∀ (σ : ab_SG) (c : Int), ab_okM rr_M σ0 σ → σ 1 3 = (r.1 : Int) → σ 1 7 = σ0 1 7 → σ 1 6 = r.2.2.2.1 → σ 1 8 = r.2.2.2.2 → fw_d (σ 1 6) = σ 1 6 → 0 ≤ r.2.1 → r.2.1 ≤ 940 → 0 ≤ r.2.2.1 → r.2.2.1 ≤ 940 → G 114 [some (2, 1, 0), some (0, 0, r.2.1), some (0, 0, r.2.2.1), some (0, 0, c)] [] σ) :
    ∀ (f p : Nat) (s : tk_S) (c : Int) (σ : ab_SG), p + f = (σ0 1 1).toNat → ab_okM rr_M σ0 σ → σ 1 3 = (p : Int) → σ 1 7 = σ0 1 7 → σ 1 6 = s.2.2.1 → σ 1 8 = s.2.2.2 → fw_d (σ 1 6) = σ 1 6 → (0 < f → c = tp_t σ0 p) → 0 ≤ s.1 → s.1 ≤ p → 0 ≤ s.2.1 → s.2.1 ≤ p → tk_run (tp_t σ0) f p s = r →
      G 23 [some (2, 1, 0), some (0, 0, s.1), some (0, 0, s.2.1), some (0, 0, c)] [] σ := by
  intro f
  induction f with
  | zero =>
    intro p s c σ hp hM h3 h7 h6 h8 hd _ a1 a2 a3 a4 hr
    have hr : (p, s) = r := hr
    subst hr
    have e1 : σ 1 1 = σ0 1 1 := hM 1 1 (by decide)
    have e3 : fw_c (σ 1 3) = σ 1 3 := fw_c_id (by omega) (by omega)
    have e2 : fw_c (σ0 1 1) = σ0 1 1 := fw_c_id (by omega) (by omega)
    refine fs_readRun_23 hG ?_
    rw [e1, e2, e3]
    exact ⟨fun _ => hx σ c hM h3 h7 h6 h8 hd a1 (by show s.1 ≤ 940; omega) a3 (by show s.2.1 ≤ 940; omega), fun q => absurd q (by omega)⟩
  | succ f ih =>
    intro p s c σ hp hM h3 h7 h6 h8 hd hc a1 a2 a3 a4 hr
    have hc := hc (Nat.succ_pos f)
    subst hc
    have e1 : σ 1 1 = σ0 1 1 := hM 1 1 (by decide)
    have e3 : fw_c (σ 1 3) = σ 1 3 := fw_c_id (by omega) (by omega)
    have e2 : fw_c (σ0 1 1) = σ0 1 1 := fw_c_id (by omega) (by omega)
    have et := tp_t_in σ0 p
    have ec := tp_t_c σ0 p
    have q48 : fw_c 48 = 48 := fw_c_id (by decide) (by decide)
    -- behind both: one byte on
    have on : ∀ (s' : tk_S) (σ' : ab_SG), ab_okM rr_M σ0 σ' → σ' 1 3 = (p : Int) → σ' 1 7 = σ0 1 7 → σ' 1 6 = s'.2.2.1 → σ' 1 8 = s'.2.2.2 → fw_d (σ' 1 6) = σ' 1 6 → 0 ≤ s'.1 → s'.1 ≤ p + 1 → 0 ≤ s'.2.1 → s'.2.1 ≤ p + 1 → tk_run (tp_t σ0) f (p + 1) s' = r →
        G 92 [some (2, 1, 0), some (0, 0, s'.1), some (0, 0, s'.2.1), some (0, 0, tp_t σ0 p)] [] σ' := by
      intro s' σ' hM' h3' h7' h6' h8' hd' b1 b2 b3 b4 hr'
      have ep : fw_c (σ' 1 3 + 1) = ((p + 1 : Nat) : Int) := by rw [h3', fw_c_id (by omega) (by omega)]; rfl
      refine fs_readRun_92 hG ?_
      rw [ep]
      have hM2 : ab_okM rr_M σ0 (ab_ups σ' 1 3 ((p + 1 : Nat) : Int)) := fw_okM_ups hM' (by decide)
      refine ⟨_, rfl, ?_⟩
      refine fs_readRun_110 hG ?_
      refine ih (p + 1) s' _ _ (by omega) hM2 ab_ups_eq ?_ ?_ ?_ ?_ ?_ b1 (by omega) b3 (by omega) hr'
      · rw [ab_ups_ne (by decide)]; exact h7'
      · rw [ab_ups_ne (by decide)]; exact h6'
      · rw [ab_ups_ne (by decide)]; exact h8'
      · rw [ab_ups_ne (by decide)]; exact hd'
      · intro hf
        have g1 : ab_ups σ' 1 3 ((p + 1 : Nat) : Int) 1 1 = σ0 1 1 := hM2 1 1 (by decide)
        rw [tp_lk_at (by rw [g1]; omega) (by rw [g1]; omega), tp_t_M hM2 (by decide)]
    refine fs_readRun_23 hG ?_
    rw [e1, e2, e3]
    refine ⟨fun q => absurd q (by omega), fun _ => ⟨_, rfl, ?_⟩⟩
    rw [ec]
    have hr2 : (if 97 ≤ tp_t σ0 p ∧ tp_t σ0 p ≤ 122 then tk_run (tp_t σ0) f (p + 1) (s.1 + 1, s.2.1, fw_d (s.2.2.1 * 32 + tp_t σ0 p - 97 + 1), s.2.2.2)
      else if 48 ≤ tp_t σ0 p ∧ tp_t σ0 p ≤ 57 then tk_run (tp_t σ0) f (p + 1) (s.1, s.2.1 + 1, s.2.2.1, fw_c (s.2.2.2 * 10 + tp_t σ0 p - 48))
      else (p, s)) = r := hr
    have lett : 97 ≤ tp_t σ0 p ∧ tp_t σ0 p ≤ 122 → G 48 [some (2, 1, 0), some (0, 0, s.1), some (0, 0, s.2.1), some (0, 0, tp_t σ0 p)] [] σ := by
      intro hl
      rw [if_pos hl] at hr2
      refine fs_readRun_48 hG ⟨_, rfl, ?_⟩
      rw [ec]
      refine fs_readRun_52 hG ⟨fun q => absurd hl (fw_bo_eq q), fun _ => ⟨_, _, rfl, ?_⟩⟩
      refine fs_readRun_67 hG ?_
      rw [ec, h6]
      refine on (s.1 + 1, s.2.1, fw_d (s.2.2.1 * 32 + tp_t σ0 p - 97 + 1), s.2.2.2) _ (fw_okM_ups hM (by decide)) ?_ ?_ ?_ ?_ ?_ (by show 0 ≤ s.1 + 1; omega) (by show s.1 + 1 ≤ _; omega) a3 (by show s.2.1 ≤ _; omega) hr2
      · rw [ab_ups_ne (by decide)]; exact h3
      · rw [ab_ups_ne (by decide)]; exact h7
      · rw [ab_ups_eq]; rfl
      · rw [ab_ups_ne (by decide)]; exact h8
      · rw [ab_ups_eq, fw_d_d]
    refine fs_readRun_38 hG ⟨fun q => lett (fw_bo_ne q), fun q => ⟨_, rfl, ?_⟩⟩
    have hnl := fw_bo_eq q
    rw [ec]
    refine fs_readRun_45 hG ⟨fun q2 => ?_, fun q2 => ?_⟩
    · have hnd := fw_bo_eq q2
      rw [if_neg hnl, if_neg hnd] at hr2
      subst hr2
      exact hx σ _ hM h3 h7 h6 h8 hd a1 (by show s.1 ≤ 940; omega) a3 (by show s.2.1 ≤ 940; omega)
    · have hdg := fw_bo_ne q2
      rw [if_neg hnl, if_pos hdg] at hr2
      refine fs_readRun_48 hG ⟨_, rfl, ?_⟩
      rw [ec]
      refine fs_readRun_52 hG ⟨fun _ => ?_, fun q3 => absurd (fw_bo_ne q3) hnl⟩
      rw [h8]
      refine on (s.1, s.2.1 + 1, s.2.2.1, fw_c (s.2.2.2 * 10 + tp_t σ0 p - 48)) _ (fw_okM_ups hM (by decide)) ?_ ?_ ?_ ?_ ?_ a1 (by show s.1 ≤ _; omega) (by show 0 ≤ s.2.1 + 1; omega) (by show s.2.1 + 1 ≤ _; omega) hr2
      · rw [ab_ups_ne (by decide)]; exact h3
      · rw [ab_ups_ne (by decide)]; exact h7
      · rw [ab_ups_ne (by decide)]; exact h6
      · rw [ab_ups_eq]
      · rw [ab_ups_ne (by decide)]; exact hd
section
variable {l : Launch} {cy : Nat → ClassId} {ad wr cr : Nat → Nat} {D : va_G}
theorem fm_readRun (hinj : nn_inj ad) : fw_H l cy ad wr cr D 15 1 sp_readRun := fw_mk hinj (⟨"NameNotes$Tape", "readRun", "()V"⟩, prog_10_method_6_code, 4, (Option.none : Option Jvm.ClassFile.FieldType), 0, true, 4) rfl rfl nn_KI2_ok nn_KJ2_ok nn_PF2_ok nn_PS2_ok (by decide +kernel) rfl rfl (List.forall_mem_cons.mpr ⟨fw_row nn_PM2_ok (x := 34) (k := 0) (mn := 11) (np := 1) (ob := true) (ci := 8) (⟨"NameNotes$Tape", "look", "(I)I"⟩, prog_10_method_8_code, 2, (Option.some Jvm.ClassFile.FieldType.int), 1, true, 0) rfl (by decide +kernel) rfl rfl (by decide) (fun _ => ⟨_, _, rfl⟩) (fm_look hinj), (List.forall_mem_cons.mpr ⟨fw_row nn_PM2_ok (x := 52) (k := 0) (mn := 13) (np := 1) (ob := false) (ci := 0) (⟨"NameNotes$Tape", "isLetter", "(I)Z"⟩, prog_10_method_17_code, 1, (Option.some Jvm.ClassFile.FieldType.boolean), 1, false, 1) rfl (by decide +kernel) rfl rfl (by decide) (fun q => by cases q) (fm_isLetter hinj), (List.forall_mem_cons.mpr ⟨fw_row nn_PM2_ok (x := 55) (k := 0) (mn := 14) (np := 1) (ob := false) (ci := 0) (⟨"NameNotes$Tape", "isDigit", "(I)Z"⟩, prog_10_method_18_code, 1, (Option.some Jvm.ClassFile.FieldType.boolean), 1, false, 1) rfl (by decide +kernel) rfl rfl (by decide) (fun q => by cases q) (fm_isDigit hinj), (List.forall_mem_cons.mpr ⟨fw_row nn_PM2_ok (x := 71) (k := 0) (mn := 16) (np := 2) (ob := false) (ci := 0) (⟨"NameNotes$Tape", "withLetter", "(JI)J"⟩, prog_10_method_15_code, 3, (Option.some Jvm.ClassFile.FieldType.long), 2, false, 2) rfl (by decide +kernel) rfl rfl (by decide) (fun q => by cases q) (fm_withLetter hinj), (List.forall_mem_cons.mpr ⟨fw_row nn_PM2_ok (x := 75) (k := 0) (mn := 17) (np := 0) (ob := true) (ci := 8) (⟨"NameNotes$Tape", "findKeyword", "()V"⟩, prog_10_method_7_code, 2, (Option.none : Option Jvm.ClassFile.FieldType), 0, true, 4) rfl (by decide +kernel) rfl rfl (by decide) (fun _ => ⟨_, _, rfl⟩) (fm_findKeyword hinj), (fun _ h => absurd h List.not_mem_nil)⟩)⟩)⟩)⟩)⟩) (fun as σ K h => by
  obtain ⟨rfl, ⟨n1, n2, n3⟩, h⟩ := h
  refine ⟨rfl, fun G hG => fs_readRun_0 hG ⟨_, rfl, ?_⟩⟩
  have z1 : fw_d ((0 : Nat) : Int) = 0 := fw_d_id (by decide) (by decide)
  have z7 : fw_c 7 = 7 := fw_c_id (by decide) (by decide)
  have z2 : fw_c 2 = 2 := fw_c_id (by decide) (by decide)
  have z3 : fw_c 3 = 3 := fw_c_id (by decide) (by decide)
  refine fs_readRun_22 hG ?_
  rw [z1, fw_c0]
  generalize hr : tk_run (tp_t σ) ((σ 1 1).toNat - (σ 1 3).toNat) (σ 1 3).toNat (0, 0, 0, 0) = r at h
  have hM0 : ab_okM rr_M σ (ab_ups (ab_ups σ 1 6 0) 1 8 0) := fw_okM_ups (fw_okM_ups (fw_okM_refl _ _) (by decide)) (by decide)
  refine rr_loop hG (σ0 := σ) ⟨by omega, n3⟩ (r := r) ?_ ((σ 1 1).toNat - (σ 1 3).toNat) (σ 1 3).toNat (0, 0, 0, 0) _ _ (by omega) hM0 ?_ rfl rfl rfl ?_ ?_ (Int.le_refl _) (Int.natCast_nonneg _) (Int.le_refl _) (Int.natCast_nonneg _) hr
  · intro σ1 c hM h3 h7 h6 h8 hd b1 b2 b3 b4
    have e1 : fw_c r.2.1 = r.2.1 := fw_c_id (by omega) (by omega)
    have e2 : fw_c r.2.2.1 = r.2.2.1 := fw_c_id (by omega) (by omega)
    -- no word
    have nw : ∀ c : Int, ¬ (r.2.2.1 = 0 ∧ r.2.1 ≤ 7) → G 141 [some (2, 1, 0), some (0, 0, r.2.1), some (0, 0, r.2.2.1), some (0, 0, c)] [] (ab_ups σ1 1 5 (fw_c 1)) := by
      intro c hnw
      have hM2 : ab_okM rr_M σ (ab_ups σ1 1 5 (fw_c 1)) := fw_okM_ups hM (by decide)
      have p3 : (ab_ups σ1 1 5 (fw_c 1)) 1 3 = (r.1 : Int) := by rw [ab_ups_ne (by decide)]; exact h3
      have p5 : (ab_ups σ1 1 5 (fw_c 1)) 1 5 = 1 := by rw [ab_ups_eq, fw_c1]
      have p7 : (ab_ups σ1 1 5 (fw_c 1)) 1 7 = σ 1 7 := by rw [ab_ups_ne (by decide)]; exact h7
      refine fs_readRun_141 hG ?_
      rw [e1, e2, z2, z3]
      refine ⟨fun q => h _ ⟨hM2, p3, fun z => absurd z hnw, fun _ z => absurd z.1 q, fun _ _ => ⟨p5, p7⟩⟩, fun q => ⟨fun q2 => h _ ⟨hM2, p3, fun z => absurd z hnw, fun _ z => absurd z.2 (by omega), fun _ _ => ⟨p5, p7⟩⟩, fun q2 => h _ ⟨fw_okM_ups hM2 (by decide), ?_, fun z => absurd z hnw, fun _ _ => ⟨ab_ups_eq, ?_, ?_⟩, fun _ z => absurd ⟨q, q2⟩ z⟩⟩⟩
      · rw [ab_ups_ne (by decide)]; exact p3
      · rw [ab_ups_ne (by decide), ab_ups_ne (by decide)]; exact h8
      · rw [ab_ups_ne (by decide)]; exact p7
    refine fs_readRun_114 hG ?_
    rw [e1, e2, z7]
    refine ⟨fun q => nw c (fun z => q z.1), fun q => ⟨fun q2 => nw c (by omega), fun q2 => ?_⟩⟩
    have hM3 : ab_okM rr_M σ (ab_ups (ab_ups σ1 1 5 (fw_c 1)) 1 5 (fw_c 2)) := fw_okM_ups (fw_okM_ups hM (by decide)) (by decide)
    have p6 : (ab_ups (ab_ups σ1 1 5 (fw_c 1)) 1 5 (fw_c 2)) 1 6 = r.2.2.2.1 := by rw [ab_ups_ne (by decide), ab_ups_ne (by decide)]; exact h6
    have p7 : (ab_ups (ab_ups σ1 1 5 (fw_c 1)) 1 5 (fw_c 2)) 1 7 = σ 1 7 := by rw [ab_ups_ne (by decide), ab_ups_ne (by decide)]; exact h7
    have p3 : (ab_ups (ab_ups σ1 1 5 (fw_c 1)) 1 5 (fw_c 2)) 1 3 = (r.1 : Int) := by rw [ab_ups_ne (by decide), ab_ups_ne (by decide)]; exact h3
    refine ⟨rfl, by rw [p6, ← h6]; exact hd, fun σ2 hM4 hk => ?_⟩
    refine fs_readRun_138 hG (h σ2 ⟨fw_okM_tr hM3 hM4 (by decide), ?_, fun _ => ⟨?_, ?_, ?_⟩, fun z => absurd ⟨q, q2⟩ z, fun z => absurd ⟨q, q2⟩ z⟩)
    · rw [hM4 1 3 (by decide)]; exact p3
    · rw [hM4 1 5 (by decide), ab_ups_eq, z2]
    · rw [hM4 1 6 (by decide)]; exact p6
    · rw [hk, p6, p7]
  · show σ 1 3 = _
    omega
  · show fw_d 0 = 0
    exact fw_d_id (by decide) (by decide)
  · intro hf
    have g1 : (ab_ups (ab_ups σ 1 6 0) 1 8 0) 1 1 = σ 1 1 := rfl
    have g2 : σ 1 3 = ((σ 1 3).toNat : Int) := by omega
    rw [g2, tp_lk_at (by rw [g1]; exact n3) (by rw [g1]; omega), tp_t_M hM0 (by decide)]
    rfl)
end
