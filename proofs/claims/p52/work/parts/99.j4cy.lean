section
/-! a studio copied, row by row -/
def sp_o3 (f : Nat → Nat → Nat → fw_SP) (l : List (Nat × Nat × Nat)) : fw_SP := fun as σ K => ∃ q ∈ l, f q.1 q.2.1 q.2.2 as σ K
theorem fw_H_o3 {l : Launch} {cy : Nat → ClassId} {ad wr cr : Nat → Nat} {D : va_G} {mn lev : Nat} {f : Nat → Nat → Nat → fw_SP} {ks : List (Nat × Nat × Nat)} (h : ∀ q ∈ ks, fw_H l cy ad wr cr D mn lev (f q.1 q.2.1 q.2.2)) : fw_H l cy ad wr cr D mn lev (sp_o3 f ks) := by
  intro mr hmr as σ sz K ⟨q, hq, hsp⟩
  exact h q hq mr hmr as σ sz K hsp
def cp_k (a b n : Nat) : fw_SP := fun as σ K => as = [(2, a, 0), (2, b, 0)] ∧ ∀ σ' : ab_SG, ab_okM [(b, 1000000)] σ σ' → (∀ j : Nat, j < n → σ' b j = fw_c (σ a j)) → K none σ'
def cl_k (a b n : Nat) : fw_SP := fun as σ K => as = [(2, a, 0), (2, b, 0)] ∧ ∀ σ' : ab_SG, ab_okM [(b, 1000000)] σ σ' → (∀ j : Nat, j < n → σ' b j = fw_d (σ a j)) → K none σ'
def cp_T : List (Nat × Nat × Nat) := [(50, 4, 81), (51, 5, 81), (52, 6, 9), (53, 7, 324), (54, 8, 6), (55, 9, 45), (56, 10, 5), (61, 15, 64), (62, 16, 64), (4, 19, 81), (5, 20, 81), (6, 21, 9), (7, 22, 324), (8, 23, 6), (9, 24, 45), (10, 25, 5), (15, 30, 64), (16, 31, 64), (4, 34, 81), (5, 35, 81), (6, 36, 9), (7, 37, 324), (8, 38, 6), (9, 39, 45), (10, 40, 5), (15, 45, 64), (16, 46, 64), (19, 4, 81), (20, 5, 81), (21, 6, 9), (22, 7, 324), (23, 8, 6), (24, 9, 45), (25, 10, 5), (30, 15, 64), (31, 16, 64), (34, 4, 81), (35, 5, 81), (36, 6, 9), (37, 7, 324), (38, 8, 6), (39, 9, 45), (40, 10, 5), (45, 15, 64), (46, 16, 64)]
def cl_T : List (Nat × Nat × Nat) := [(57, 11, 9), (58, 12, 6), (59, 13, 5), (11, 26, 9), (12, 27, 6), (13, 28, 5), (11, 41, 9), (12, 42, 6), (13, 43, 5), (26, 11, 9), (27, 12, 6), (28, 13, 5), (41, 11, 9), (42, 12, 6), (43, 13, 5)]
def cy_T : List (Nat × Nat) := [(49, 3), (3, 18), (3, 33), (18, 3), (33, 3)]
def sp_cp : fw_SP := sp_o3 cp_k cp_T
def sp_cl : fw_SP := sp_o3 cl_k cl_T
theorem cp_gen {a b n : Nat} (hab : a ≠ b) (hn : n ≤ 1000) {f : Int → Int} {K : fw_KR} {σ : ab_SG} {G2 : Int → ab_SG → Prop}
    (s2 : ∀ (a2 : Int) (σ1 : ab_SG), (fw_c ((n : Nat) : Int) ≤ fw_c a2 → K none σ1) ∧ (fw_c a2 < fw_c ((n : Nat) : Int) → (fw_c ((n : Nat) : Int) ≤ fw_c a2 → K none σ1) ∧ (fw_c a2 < fw_c ((n : Nat) : Int) → (0 ≤ fw_c a2 ∧ fw_c a2 < ((n : Nat) : Int)) ∧ ((0 ≤ fw_c a2 ∧ fw_c a2 < ((n : Nat) : Int)) ∧ True ∧ (G2 (a2 + 1) (ab_ups σ1 b (fw_c a2).toNat (f (σ1 a (fw_c a2).toNat))))))) → G2 a2 σ1)
    (h : ∀ σ' : ab_SG, ab_okM [(b, 1000000)] σ σ' → (∀ j : Nat, j < n → σ' b j = f (σ a j)) → K none σ') : G2 0 σ := by
  have en : fw_c ((n : Nat) : Int) = ((n : Nat) : Int) := fw_c_id (by omega) (by omega)
  have key : ∀ (k i : Nat) (σ1 : ab_SG), i + k = n → (∀ c d : Nat, c ≠ b → σ1 c d = σ c d) → (∀ j : Nat, j < i → σ1 b j = f (σ a j)) → G2 (i : Int) σ1 := by
    intro k
    induction k with
    | zero =>
      intro i σ1 hi q1 q2
      have e : i = n := by omega
      subst e
      refine s2 _ _ ⟨fun _ => h σ1 (fun c d hcd => q1 c d (fun z => hcd (b, 1000000) List.mem_cons_self ⟨z.symm, Or.inr rfl⟩)) q2, fun q => absurd q (Int.lt_irrefl _)⟩
    | succ k ih =>
      intro i σ1 hi q1 q2
      have ei : fw_c (i : Int) = i := fw_c_id (by omega) (by omega)
      refine s2 _ _ ?_
      rw [en, ei, Int.toNat_natCast, q1 a i hab]
      refine ⟨fun q => absurd q (by omega), fun q => ⟨fun q => absurd q (by omega), fun _ => ⟨⟨Int.natCast_nonneg i, q⟩, ⟨Int.natCast_nonneg i, q⟩, trivial, ?_⟩⟩⟩
      refine ih (i + 1) _ (by omega) (fun c d hc => ?_) (fun j hj => ?_)
      · rw [ab_ups_ne (fun z => hc z.1)]; exact q1 c d hc
      · by_cases e : j = i
        · rw [e, ab_ups_eq]
        · rw [ab_ups_ne (fun z => e z.2)]; exact q2 j (by omega)
  exact key n 0 σ (by omega) (fun _ _ _ => rfl) (fun b hb => absurd hb (Nat.not_lt_zero b))
def sc_M (b : Nat) : ab_ML := [(b + 12, 1000000), (b + 13, 1000000), (b + 11, 3), (b + 11, 4)]
def sc_is (σ σ' : ab_SG) (a b : Nat) : Prop := (∀ j : Nat, j < 64 → σ' (b + 12) j = fw_c (σ (a + 12) j)) ∧ (∀ j : Nat, j < 64 → σ' (b + 13) j = fw_c (σ (a + 13) j)) ∧ σ' (b + 11) 3 = fw_c (σ (a + 11) 3) ∧ σ' (b + 11) 4 = fw_c (σ (a + 11) 4)
def sc_k (a b : Nat) : fw_SP := fun as σ K => as = [(2, b + 11, 0), (2, a + 11, 0)] ∧ ∀ σ' : ab_SG, ab_okM (sc_M b) σ σ' → sc_is σ σ' a b → K none σ'
def sp_scopy : fw_SP := sp_of sc_k cy_T
def cy_M (b : Nat) : ab_ML := (b + 1, 1000000) :: (b + 2, 1000000) :: (b + 3, 1000000) :: (b + 4, 1000000) :: (b + 5, 1000000) :: (b + 6, 1000000) :: (b + 7, 1000000) :: (b + 8, 1000000) :: (b + 9, 1000000) :: (b + 10, 1000000) :: (b, 11) :: (b, 12) :: (b, 13) :: (b, 14) :: (b, 15) :: sc_M b
def cy_is (σ σ' : ab_SG) (a b : Nat) : Prop := (∀ j : Nat, j < 81 → σ' (b + 1) j = fw_c (σ (a + 1) j)) ∧ (∀ j : Nat, j < 81 → σ' (b + 2) j = fw_c (σ (a + 2) j)) ∧ (∀ j : Nat, j < 9 → σ' (b + 3) j = fw_c (σ (a + 3) j)) ∧ (∀ j : Nat, j < 324 → σ' (b + 4) j = fw_c (σ (a + 4) j)) ∧
  (∀ j : Nat, j < 6 → σ' (b + 5) j = fw_c (σ (a + 5) j)) ∧ (∀ j : Nat, j < 45 → σ' (b + 6) j = fw_c (σ (a + 6) j)) ∧ (∀ j : Nat, j < 5 → σ' (b + 7) j = fw_c (σ (a + 7) j)) ∧ (∀ j : Nat, j < 9 → σ' (b + 8) j = fw_d (σ (a + 8) j)) ∧ (∀ j : Nat, j < 6 → σ' (b + 9) j = fw_d (σ (a + 9) j)) ∧ (∀ j : Nat, j < 5 → σ' (b + 10) j = fw_d (σ (a + 10) j)) ∧ sc_is σ σ' a b ∧
  σ' b 11 = fw_c (σ a 11) ∧ σ' b 12 = fw_c (σ a 12) ∧ σ' b 13 = fw_c (σ a 13) ∧ σ' b 14 = fw_c (σ a 14) ∧ σ' b 15 = fw_c (σ a 15)
def cy_k (a b : Nat) : fw_SP := fun as σ K => as = [(2, b, 0), (2, a, 0)] ∧ ∀ σ' : ab_SG, ab_okM (cy_M b) σ σ' → cy_is σ σ' a b → K none σ'
def sp_copy : fw_SP := sp_of cy_k cy_T
abbrev fk_cp_50_4 : List fw_CR := []
abbrev st_cp_50_4 : fw_K → fw_KR → fw_K := fw_st vwCl nn_sh nn_kd fw_kv fw_wc (nn_KI1.map (fun x => x.1)) (nn_KJ1.map (fun x => x.1)) (nn_PF1.map (fun x => x.1)) (nn_PS1.map (fun x => x.1)) fk_cp_50_4 0 nn_dt50 3 4
theorem fs_cp_50_4_0 {G : fw_K} {R : fw_KR} (hG : fw_cls st_cp_50_4 R G) {σ : ab_SG} (h : G 2 [some (2, 50, 0), some (2, 4, 0), some (0, 0, 0)] [] σ) : G 0 [some (2, 50, 0), some (2, 4, 0), none] [] σ := fw_on hG [2] 200 h
theorem fs_cp_50_4_2 {G : fw_K} {R : fw_KR} (hG : fw_cls st_cp_50_4 R G) {a2 : Int} {σ : ab_SG} (h : (fw_c ((81 : Nat) : Int) ≤ fw_c a2 → R none σ) ∧ (fw_c a2 < fw_c ((81 : Nat) : Int) → (fw_c ((81 : Nat) : Int) ≤ fw_c a2 → R none σ) ∧ (fw_c a2 < fw_c ((81 : Nat) : Int) → (0 ≤ fw_c a2 ∧ fw_c a2 < ((81 : Nat) : Int)) ∧ ((0 ≤ fw_c a2 ∧ fw_c a2 < ((81 : Nat) : Int)) ∧ True ∧ (G 2 [some (2, 50, 0), some (2, 4, 0), some (0, 0, a2 + 1)] [] (ab_ups σ 4 (fw_c a2).toNat (fw_c (σ 50 (fw_c a2).toNat)))))))) : G 2 [some (2, 50, 0), some (2, 4, 0), some (0, 0, a2)] [] σ := fw_on hG [2] 200 h
abbrev fk_cp_51_5 : List fw_CR := []
abbrev st_cp_51_5 : fw_K → fw_KR → fw_K := fw_st vwCl nn_sh nn_kd fw_kv fw_wc (nn_KI1.map (fun x => x.1)) (nn_KJ1.map (fun x => x.1)) (nn_PF1.map (fun x => x.1)) (nn_PS1.map (fun x => x.1)) fk_cp_51_5 0 nn_dt50 3 4
theorem fs_cp_51_5_0 {G : fw_K} {R : fw_KR} (hG : fw_cls st_cp_51_5 R G) {σ : ab_SG} (h : G 2 [some (2, 51, 0), some (2, 5, 0), some (0, 0, 0)] [] σ) : G 0 [some (2, 51, 0), some (2, 5, 0), none] [] σ := fw_on hG [2] 200 h
theorem fs_cp_51_5_2 {G : fw_K} {R : fw_KR} (hG : fw_cls st_cp_51_5 R G) {a2 : Int} {σ : ab_SG} (h : (fw_c ((81 : Nat) : Int) ≤ fw_c a2 → R none σ) ∧ (fw_c a2 < fw_c ((81 : Nat) : Int) → (fw_c ((81 : Nat) : Int) ≤ fw_c a2 → R none σ) ∧ (fw_c a2 < fw_c ((81 : Nat) : Int) → (0 ≤ fw_c a2 ∧ fw_c a2 < ((81 : Nat) : Int)) ∧ ((0 ≤ fw_c a2 ∧ fw_c a2 < ((81 : Nat) : Int)) ∧ True ∧ (G 2 [some (2, 51, 0), some (2, 5, 0), some (0, 0, a2 + 1)] [] (ab_ups σ 5 (fw_c a2).toNat (fw_c (σ 51 (fw_c a2).toNat)))))))) : G 2 [some (2, 51, 0), some (2, 5, 0), some (0, 0, a2)] [] σ := fw_on hG [2] 200 h
abbrev fk_cp_52_6 : List fw_CR := []
abbrev st_cp_52_6 : fw_K → fw_KR → fw_K := fw_st vwCl nn_sh nn_kd fw_kv fw_wc (nn_KI1.map (fun x => x.1)) (nn_KJ1.map (fun x => x.1)) (nn_PF1.map (fun x => x.1)) (nn_PS1.map (fun x => x.1)) fk_cp_52_6 0 nn_dt50 3 4
theorem fs_cp_52_6_0 {G : fw_K} {R : fw_KR} (hG : fw_cls st_cp_52_6 R G) {σ : ab_SG} (h : G 2 [some (2, 52, 0), some (2, 6, 0), some (0, 0, 0)] [] σ) : G 0 [some (2, 52, 0), some (2, 6, 0), none] [] σ := fw_on hG [2] 200 h
theorem fs_cp_52_6_2 {G : fw_K} {R : fw_KR} (hG : fw_cls st_cp_52_6 R G) {a2 : Int} {σ : ab_SG} (h : (fw_c ((9 : Nat) : Int) ≤ fw_c a2 → R none σ) ∧ (fw_c a2 < fw_c ((9 : Nat) : Int) → (fw_c ((9 : Nat) : Int) ≤ fw_c a2 → R none σ) ∧ (fw_c a2 < fw_c ((9 : Nat) : Int) → (0 ≤ fw_c a2 ∧ fw_c a2 < ((9 : Nat) : Int)) ∧ ((0 ≤ fw_c a2 ∧ fw_c a2 < ((9 : Nat) : Int)) ∧ True ∧ (G 2 [some (2, 52, 0), some (2, 6, 0), some (0, 0, a2 + 1)] [] (ab_ups σ 6 (fw_c a2).toNat (fw_c (σ 52 (fw_c a2).toNat)))))))) : G 2 [some (2, 52, 0), some (2, 6, 0), some (0, 0, a2)] [] σ := fw_on hG [2] 200 h
abbrev fk_cp_53_7 : List fw_CR := []
abbrev st_cp_53_7 : fw_K → fw_KR → fw_K := fw_st vwCl nn_sh nn_kd fw_kv fw_wc (nn_KI1.map (fun x => x.1)) (nn_KJ1.map (fun x => x.1)) (nn_PF1.map (fun x => x.1)) (nn_PS1.map (fun x => x.1)) fk_cp_53_7 0 nn_dt50 3 4
theorem fs_cp_53_7_0 {G : fw_K} {R : fw_KR} (hG : fw_cls st_cp_53_7 R G) {σ : ab_SG} (h : G 2 [some (2, 53, 0), some (2, 7, 0), some (0, 0, 0)] [] σ) : G 0 [some (2, 53, 0), some (2, 7, 0), none] [] σ := fw_on hG [2] 200 h
theorem fs_cp_53_7_2 {G : fw_K} {R : fw_KR} (hG : fw_cls st_cp_53_7 R G) {a2 : Int} {σ : ab_SG} (h : (fw_c ((324 : Nat) : Int) ≤ fw_c a2 → R none σ) ∧ (fw_c a2 < fw_c ((324 : Nat) : Int) → (fw_c ((324 : Nat) : Int) ≤ fw_c a2 → R none σ) ∧ (fw_c a2 < fw_c ((324 : Nat) : Int) → (0 ≤ fw_c a2 ∧ fw_c a2 < ((324 : Nat) : Int)) ∧ ((0 ≤ fw_c a2 ∧ fw_c a2 < ((324 : Nat) : Int)) ∧ True ∧ (G 2 [some (2, 53, 0), some (2, 7, 0), some (0, 0, a2 + 1)] [] (ab_ups σ 7 (fw_c a2).toNat (fw_c (σ 53 (fw_c a2).toNat)))))))) : G 2 [some (2, 53, 0), some (2, 7, 0), some (0, 0, a2)] [] σ := fw_on hG [2] 200 h
abbrev fk_cp_54_8 : List fw_CR := []
abbrev st_cp_54_8 : fw_K → fw_KR → fw_K := fw_st vwCl nn_sh nn_kd fw_kv fw_wc (nn_KI1.map (fun x => x.1)) (nn_KJ1.map (fun x => x.1)) (nn_PF1.map (fun x => x.1)) (nn_PS1.map (fun x => x.1)) fk_cp_54_8 0 nn_dt50 3 4
theorem fs_cp_54_8_0 {G : fw_K} {R : fw_KR} (hG : fw_cls st_cp_54_8 R G) {σ : ab_SG} (h : G 2 [some (2, 54, 0), some (2, 8, 0), some (0, 0, 0)] [] σ) : G 0 [some (2, 54, 0), some (2, 8, 0), none] [] σ := fw_on hG [2] 200 h
theorem fs_cp_54_8_2 {G : fw_K} {R : fw_KR} (hG : fw_cls st_cp_54_8 R G) {a2 : Int} {σ : ab_SG} (h : (fw_c ((6 : Nat) : Int) ≤ fw_c a2 → R none σ) ∧ (fw_c a2 < fw_c ((6 : Nat) : Int) → (fw_c ((6 : Nat) : Int) ≤ fw_c a2 → R none σ) ∧ (fw_c a2 < fw_c ((6 : Nat) : Int) → (0 ≤ fw_c a2 ∧ fw_c a2 < ((6 : Nat) : Int)) ∧ ((0 ≤ fw_c a2 ∧ fw_c a2 < ((6 : Nat) : Int)) ∧ True ∧ (G 2 [some (2, 54, 0), some (2, 8, 0), some (0, 0, a2 + 1)] [] (ab_ups σ 8 (fw_c a2).toNat (fw_c (σ 54 (fw_c a2).toNat)))))))) : G 2 [some (2, 54, 0), some (2, 8, 0), some (0, 0, a2)] [] σ := fw_on hG [2] 200 h
abbrev fk_cp_55_9 : List fw_CR := []
abbrev st_cp_55_9 : fw_K → fw_KR → fw_K := fw_st vwCl nn_sh nn_kd fw_kv fw_wc (nn_KI1.map (fun x => x.1)) (nn_KJ1.map (fun x => x.1)) (nn_PF1.map (fun x => x.1)) (nn_PS1.map (fun x => x.1)) fk_cp_55_9 0 nn_dt50 3 4
theorem fs_cp_55_9_0 {G : fw_K} {R : fw_KR} (hG : fw_cls st_cp_55_9 R G) {σ : ab_SG} (h : G 2 [some (2, 55, 0), some (2, 9, 0), some (0, 0, 0)] [] σ) : G 0 [some (2, 55, 0), some (2, 9, 0), none] [] σ := fw_on hG [2] 200 h
theorem fs_cp_55_9_2 {G : fw_K} {R : fw_KR} (hG : fw_cls st_cp_55_9 R G) {a2 : Int} {σ : ab_SG} (h : (fw_c ((45 : Nat) : Int) ≤ fw_c a2 → R none σ) ∧ (fw_c a2 < fw_c ((45 : Nat) : Int) → (fw_c ((45 : Nat) : Int) ≤ fw_c a2 → R none σ) ∧ (fw_c a2 < fw_c ((45 : Nat) : Int) → (0 ≤ fw_c a2 ∧ fw_c a2 < ((45 : Nat) : Int)) ∧ ((0 ≤ fw_c a2 ∧ fw_c a2 < ((45 : Nat) : Int)) ∧ True ∧ (G 2 [some (2, 55, 0), some (2, 9, 0), some (0, 0, a2 + 1)] [] (ab_ups σ 9 (fw_c a2).toNat (fw_c (σ 55 (fw_c a2).toNat)))))))) : G 2 [some (2, 55, 0), some (2, 9, 0), some (0, 0, a2)] [] σ := fw_on hG [2] 200 h
abbrev fk_cp_56_10 : List fw_CR := []
abbrev st_cp_56_10 : fw_K → fw_KR → fw_K := fw_st vwCl nn_sh nn_kd fw_kv fw_wc (nn_KI1.map (fun x => x.1)) (nn_KJ1.map (fun x => x.1)) (nn_PF1.map (fun x => x.1)) (nn_PS1.map (fun x => x.1)) fk_cp_56_10 0 nn_dt50 3 4
theorem fs_cp_56_10_0 {G : fw_K} {R : fw_KR} (hG : fw_cls st_cp_56_10 R G) {σ : ab_SG} (h : G 2 [some (2, 56, 0), some (2, 10, 0), some (0, 0, 0)] [] σ) : G 0 [some (2, 56, 0), some (2, 10, 0), none] [] σ := fw_on hG [2] 200 h
theorem fs_cp_56_10_2 {G : fw_K} {R : fw_KR} (hG : fw_cls st_cp_56_10 R G) {a2 : Int} {σ : ab_SG} (h : (fw_c ((5 : Nat) : Int) ≤ fw_c a2 → R none σ) ∧ (fw_c a2 < fw_c ((5 : Nat) : Int) → (fw_c ((5 : Nat) : Int) ≤ fw_c a2 → R none σ) ∧ (fw_c a2 < fw_c ((5 : Nat) : Int) → (0 ≤ fw_c a2 ∧ fw_c a2 < ((5 : Nat) : Int)) ∧ ((0 ≤ fw_c a2 ∧ fw_c a2 < ((5 : Nat) : Int)) ∧ True ∧ (G 2 [some (2, 56, 0), some (2, 10, 0), some (0, 0, a2 + 1)] [] (ab_ups σ 10 (fw_c a2).toNat (fw_c (σ 56 (fw_c a2).toNat)))))))) : G 2 [some (2, 56, 0), some (2, 10, 0), some (0, 0, a2)] [] σ := fw_on hG [2] 200 h
abbrev fk_cp_61_15 : List fw_CR := []
abbrev st_cp_61_15 : fw_K → fw_KR → fw_K := fw_st vwCl nn_sh nn_kd fw_kv fw_wc (nn_KI1.map (fun x => x.1)) (nn_KJ1.map (fun x => x.1)) (nn_PF1.map (fun x => x.1)) (nn_PS1.map (fun x => x.1)) fk_cp_61_15 0 nn_dt50 3 4
theorem fs_cp_61_15_0 {G : fw_K} {R : fw_KR} (hG : fw_cls st_cp_61_15 R G) {σ : ab_SG} (h : G 2 [some (2, 61, 0), some (2, 15, 0), some (0, 0, 0)] [] σ) : G 0 [some (2, 61, 0), some (2, 15, 0), none] [] σ := fw_on hG [2] 200 h
theorem fs_cp_61_15_2 {G : fw_K} {R : fw_KR} (hG : fw_cls st_cp_61_15 R G) {a2 : Int} {σ : ab_SG} (h : (fw_c ((64 : Nat) : Int) ≤ fw_c a2 → R none σ) ∧ (fw_c a2 < fw_c ((64 : Nat) : Int) → (fw_c ((64 : Nat) : Int) ≤ fw_c a2 → R none σ) ∧ (fw_c a2 < fw_c ((64 : Nat) : Int) → (0 ≤ fw_c a2 ∧ fw_c a2 < ((64 : Nat) : Int)) ∧ ((0 ≤ fw_c a2 ∧ fw_c a2 < ((64 : Nat) : Int)) ∧ True ∧ (G 2 [some (2, 61, 0), some (2, 15, 0), some (0, 0, a2 + 1)] [] (ab_ups σ 15 (fw_c a2).toNat (fw_c (σ 61 (fw_c a2).toNat)))))))) : G 2 [some (2, 61, 0), some (2, 15, 0), some (0, 0, a2)] [] σ := fw_on hG [2] 200 h
abbrev fk_cp_62_16 : List fw_CR := []
abbrev st_cp_62_16 : fw_K → fw_KR → fw_K := fw_st vwCl nn_sh nn_kd fw_kv fw_wc (nn_KI1.map (fun x => x.1)) (nn_KJ1.map (fun x => x.1)) (nn_PF1.map (fun x => x.1)) (nn_PS1.map (fun x => x.1)) fk_cp_62_16 0 nn_dt50 3 4
theorem fs_cp_62_16_0 {G : fw_K} {R : fw_KR} (hG : fw_cls st_cp_62_16 R G) {σ : ab_SG} (h : G 2 [some (2, 62, 0), some (2, 16, 0), some (0, 0, 0)] [] σ) : G 0 [some (2, 62, 0), some (2, 16, 0), none] [] σ := fw_on hG [2] 200 h
theorem fs_cp_62_16_2 {G : fw_K} {R : fw_KR} (hG : fw_cls st_cp_62_16 R G) {a2 : Int} {σ : ab_SG} (h : (fw_c ((64 : Nat) : Int) ≤ fw_c a2 → R none σ) ∧ (fw_c a2 < fw_c ((64 : Nat) : Int) → (fw_c ((64 : Nat) : Int) ≤ fw_c a2 → R none σ) ∧ (fw_c a2 < fw_c ((64 : Nat) : Int) → (0 ≤ fw_c a2 ∧ fw_c a2 < ((64 : Nat) : Int)) ∧ ((0 ≤ fw_c a2 ∧ fw_c a2 < ((64 : Nat) : Int)) ∧ True ∧ (G 2 [some (2, 62, 0), some (2, 16, 0), some (0, 0, a2 + 1)] [] (ab_ups σ 16 (fw_c a2).toNat (fw_c (σ 62 (fw_c a2).toNat)))))))) : G 2 [some (2, 62, 0), some (2, 16, 0), some (0, 0, a2)] [] σ := fw_on hG [2] 200 h
abbrev fk_cp_4_19 : List fw_CR := []
abbrev st_cp_4_19 : fw_K → fw_KR → fw_K := fw_st vwCl nn_sh nn_kd fw_kv fw_wc (nn_KI1.map (fun x => x.1)) (nn_KJ1.map (fun x => x.1)) (nn_PF1.map (fun x => x.1)) (nn_PS1.map (fun x => x.1)) fk_cp_4_19 0 nn_dt50 3 4
theorem fs_cp_4_19_0 {G : fw_K} {R : fw_KR} (hG : fw_cls st_cp_4_19 R G) {σ : ab_SG} (h : G 2 [some (2, 4, 0), some (2, 19, 0), some (0, 0, 0)] [] σ) : G 0 [some (2, 4, 0), some (2, 19, 0), none] [] σ := fw_on hG [2] 200 h
theorem fs_cp_4_19_2 {G : fw_K} {R : fw_KR} (hG : fw_cls st_cp_4_19 R G) {a2 : Int} {σ : ab_SG} (h : (fw_c ((81 : Nat) : Int) ≤ fw_c a2 → R none σ) ∧ (fw_c a2 < fw_c ((81 : Nat) : Int) → (fw_c ((81 : Nat) : Int) ≤ fw_c a2 → R none σ) ∧ (fw_c a2 < fw_c ((81 : Nat) : Int) → (0 ≤ fw_c a2 ∧ fw_c a2 < ((81 : Nat) : Int)) ∧ ((0 ≤ fw_c a2 ∧ fw_c a2 < ((81 : Nat) : Int)) ∧ True ∧ (G 2 [some (2, 4, 0), some (2, 19, 0), some (0, 0, a2 + 1)] [] (ab_ups σ 19 (fw_c a2).toNat (fw_c (σ 4 (fw_c a2).toNat)))))))) : G 2 [some (2, 4, 0), some (2, 19, 0), some (0, 0, a2)] [] σ := fw_on hG [2] 200 h
abbrev fk_cp_5_20 : List fw_CR := []
abbrev st_cp_5_20 : fw_K → fw_KR → fw_K := fw_st vwCl nn_sh nn_kd fw_kv fw_wc (nn_KI1.map (fun x => x.1)) (nn_KJ1.map (fun x => x.1)) (nn_PF1.map (fun x => x.1)) (nn_PS1.map (fun x => x.1)) fk_cp_5_20 0 nn_dt50 3 4
theorem fs_cp_5_20_0 {G : fw_K} {R : fw_KR} (hG : fw_cls st_cp_5_20 R G) {σ : ab_SG} (h : G 2 [some (2, 5, 0), some (2, 20, 0), some (0, 0, 0)] [] σ) : G 0 [some (2, 5, 0), some (2, 20, 0), none] [] σ := fw_on hG [2] 200 h
theorem fs_cp_5_20_2 {G : fw_K} {R : fw_KR} (hG : fw_cls st_cp_5_20 R G) {a2 : Int} {σ : ab_SG} (h : (fw_c ((81 : Nat) : Int) ≤ fw_c a2 → R none σ) ∧ (fw_c a2 < fw_c ((81 : Nat) : Int) → (fw_c ((81 : Nat) : Int) ≤ fw_c a2 → R none σ) ∧ (fw_c a2 < fw_c ((81 : Nat) : Int) → (0 ≤ fw_c a2 ∧ fw_c a2 < ((81 : Nat) : Int)) ∧ ((0 ≤ fw_c a2 ∧ fw_c a2 < ((81 : Nat) : Int)) ∧ True ∧ (G 2 [some (2, 5, 0), some (2, 20, 0), some (0, 0, a2 + 1)] [] (ab_ups σ 20 (fw_c a2).toNat (fw_c (σ 5 (fw_c a2).toNat)))))))) : G 2 [some (2, 5, 0), some (2, 20, 0), some (0, 0, a2)] [] σ := fw_on hG [2] 200 h
abbrev fk_cp_6_21 : List fw_CR := []
abbrev st_cp_6_21 : fw_K → fw_KR → fw_K := fw_st vwCl nn_sh nn_kd fw_kv fw_wc (nn_KI1.map (fun x => x.1)) (nn_KJ1.map (fun x => x.1)) (nn_PF1.map (fun x => x.1)) (nn_PS1.map (fun x => x.1)) fk_cp_6_21 0 nn_dt50 3 4
theorem fs_cp_6_21_0 {G : fw_K} {R : fw_KR} (hG : fw_cls st_cp_6_21 R G) {σ : ab_SG} (h : G 2 [some (2, 6, 0), some (2, 21, 0), some (0, 0, 0)] [] σ) : G 0 [some (2, 6, 0), some (2, 21, 0), none] [] σ := fw_on hG [2] 200 h
theorem fs_cp_6_21_2 {G : fw_K} {R : fw_KR} (hG : fw_cls st_cp_6_21 R G) {a2 : Int} {σ : ab_SG} (h : (fw_c ((9 : Nat) : Int) ≤ fw_c a2 → R none σ) ∧ (fw_c a2 < fw_c ((9 : Nat) : Int) → (fw_c ((9 : Nat) : Int) ≤ fw_c a2 → R none σ) ∧ (fw_c a2 < fw_c ((9 : Nat) : Int) → (0 ≤ fw_c a2 ∧ fw_c a2 < ((9 : Nat) : Int)) ∧ ((0 ≤ fw_c a2 ∧ fw_c a2 < ((9 : Nat) : Int)) ∧ True ∧ (G 2 [some (2, 6, 0), some (2, 21, 0), some (0, 0, a2 + 1)] [] (ab_ups σ 21 (fw_c a2).toNat (fw_c (σ 6 (fw_c a2).toNat)))))))) : G 2 [some (2, 6, 0), some (2, 21, 0), some (0, 0, a2)] [] σ := fw_on hG [2] 200 h
abbrev fk_cp_7_22 : List fw_CR := []
abbrev st_cp_7_22 : fw_K → fw_KR → fw_K := fw_st vwCl nn_sh nn_kd fw_kv fw_wc (nn_KI1.map (fun x => x.1)) (nn_KJ1.map (fun x => x.1)) (nn_PF1.map (fun x => x.1)) (nn_PS1.map (fun x => x.1)) fk_cp_7_22 0 nn_dt50 3 4
theorem fs_cp_7_22_0 {G : fw_K} {R : fw_KR} (hG : fw_cls st_cp_7_22 R G) {σ : ab_SG} (h : G 2 [some (2, 7, 0), some (2, 22, 0), some (0, 0, 0)] [] σ) : G 0 [some (2, 7, 0), some (2, 22, 0), none] [] σ := fw_on hG [2] 200 h
theorem fs_cp_7_22_2 {G : fw_K} {R : fw_KR} (hG : fw_cls st_cp_7_22 R G) {a2 : Int} {σ : ab_SG} (h : (fw_c ((324 : Nat) : Int) ≤ fw_c a2 → R none σ) ∧ (fw_c a2 < fw_c ((324 : Nat) : Int) → (fw_c ((324 : Nat) : Int) ≤ fw_c a2 → R none σ) ∧ (fw_c a2 < fw_c ((324 : Nat) : Int) → (0 ≤ fw_c a2 ∧ fw_c a2 < ((324 : Nat) : Int)) ∧ ((0 ≤ fw_c a2 ∧ fw_c a2 < ((324 : Nat) : Int)) ∧ True ∧ (G 2 [some (2, 7, 0), some (2, 22, 0), some (0, 0, a2 + 1)] [] (ab_ups σ 22 (fw_c a2).toNat (fw_c (σ 7 (fw_c a2).toNat)))))))) : G 2 [some (2, 7, 0), some (2, 22, 0), some (0, 0, a2)] [] σ := fw_on hG [2] 200 h
abbrev fk_cp_8_23 : List fw_CR := []
abbrev st_cp_8_23 : fw_K → fw_KR → fw_K := fw_st vwCl nn_sh nn_kd fw_kv fw_wc (nn_KI1.map (fun x => x.1)) (nn_KJ1.map (fun x => x.1)) (nn_PF1.map (fun x => x.1)) (nn_PS1.map (fun x => x.1)) fk_cp_8_23 0 nn_dt50 3 4
theorem fs_cp_8_23_0 {G : fw_K} {R : fw_KR} (hG : fw_cls st_cp_8_23 R G) {σ : ab_SG} (h : G 2 [some (2, 8, 0), some (2, 23, 0), some (0, 0, 0)] [] σ) : G 0 [some (2, 8, 0), some (2, 23, 0), none] [] σ := fw_on hG [2] 200 h
theorem fs_cp_8_23_2 {G : fw_K} {R : fw_KR} (hG : fw_cls st_cp_8_23 R G) {a2 : Int} {σ : ab_SG} (h : (fw_c ((6 : Nat) : Int) ≤ fw_c a2 → R none σ) ∧ (fw_c a2 < fw_c ((6 : Nat) : Int) → (fw_c ((6 : Nat) : Int) ≤ fw_c a2 → R none σ) ∧ (fw_c a2 < fw_c ((6 : Nat) : Int) → (0 ≤ fw_c a2 ∧ fw_c a2 < ((6 : Nat) : Int)) ∧ ((0 ≤ fw_c a2 ∧ fw_c a2 < ((6 : Nat) : Int)) ∧ True ∧ (G 2 [some (2, 8, 0), some (2, 23, 0), some (0, 0, a2 + 1)] [] (ab_ups σ 23 (fw_c a2).toNat (fw_c (σ 8 (fw_c a2).toNat)))))))) : G 2 [some (2, 8, 0), some (2, 23, 0), some (0, 0, a2)] [] σ := fw_on hG [2] 200 h
abbrev fk_cp_9_24 : List fw_CR := []
abbrev st_cp_9_24 : fw_K → fw_KR → fw_K := fw_st vwCl nn_sh nn_kd fw_kv fw_wc (nn_KI1.map (fun x => x.1)) (nn_KJ1.map (fun x => x.1)) (nn_PF1.map (fun x => x.1)) (nn_PS1.map (fun x => x.1)) fk_cp_9_24 0 nn_dt50 3 4
theorem fs_cp_9_24_0 {G : fw_K} {R : fw_KR} (hG : fw_cls st_cp_9_24 R G) {σ : ab_SG} (h : G 2 [some (2, 9, 0), some (2, 24, 0), some (0, 0, 0)] [] σ) : G 0 [some (2, 9, 0), some (2, 24, 0), none] [] σ := fw_on hG [2] 200 h
theorem fs_cp_9_24_2 {G : fw_K} {R : fw_KR} (hG : fw_cls st_cp_9_24 R G) {a2 : Int} {σ : ab_SG} (h : (fw_c ((45 : Nat) : Int) ≤ fw_c a2 → R none σ) ∧ (fw_c a2 < fw_c ((45 : Nat) : Int) → (fw_c ((45 : Nat) : Int) ≤ fw_c a2 → R none σ) ∧ (fw_c a2 < fw_c ((45 : Nat) : Int) → (0 ≤ fw_c a2 ∧ fw_c a2 < ((45 : Nat) : Int)) ∧ ((0 ≤ fw_c a2 ∧ fw_c a2 < ((45 : Nat) : Int)) ∧ True ∧ (G 2 [some (2, 9, 0), some (2, 24, 0), some (0, 0, a2 + 1)] [] (ab_ups σ 24 (fw_c a2).toNat (fw_c (σ 9 (fw_c a2).toNat)))))))) : G 2 [some (2, 9, 0), some (2, 24, 0), some (0, 0, a2)] [] σ := fw_on hG [2] 200 h
abbrev fk_cp_10_25 : List fw_CR := []
abbrev st_cp_10_25 : fw_K → fw_KR → fw_K := fw_st vwCl nn_sh nn_kd fw_kv fw_wc (nn_KI1.map (fun x => x.1)) (nn_KJ1.map (fun x => x.1)) (nn_PF1.map (fun x => x.1)) (nn_PS1.map (fun x => x.1)) fk_cp_10_25 0 nn_dt50 3 4
theorem fs_cp_10_25_0 {G : fw_K} {R : fw_KR} (hG : fw_cls st_cp_10_25 R G) {σ : ab_SG} (h : G 2 [some (2, 10, 0), some (2, 25, 0), some (0, 0, 0)] [] σ) : G 0 [some (2, 10, 0), some (2, 25, 0), none] [] σ := fw_on hG [2] 200 h
theorem fs_cp_10_25_2 {G : fw_K} {R : fw_KR} (hG : fw_cls st_cp_10_25 R G) {a2 : Int} {σ : ab_SG} (h : (fw_c ((5 : Nat) : Int) ≤ fw_c a2 → R none σ) ∧ (fw_c a2 < fw_c ((5 : Nat) : Int) → (fw_c ((5 : Nat) : Int) ≤ fw_c a2 → R none σ) ∧ (fw_c a2 < fw_c ((5 : Nat) : Int) → (0 ≤ fw_c a2 ∧ fw_c a2 < ((5 : Nat) : Int)) ∧ ((0 ≤ fw_c a2 ∧ fw_c a2 < ((5 : Nat) : Int)) ∧ True ∧ (G 2 [some (2, 10, 0), some (2, 25, 0), some (0, 0, a2 + 1)] [] (ab_ups σ 25 (fw_c a2).toNat (fw_c (σ 10 (fw_c a2).toNat)))))))) : G 2 [some (2, 10, 0), some (2, 25, 0), some (0, 0, a2)] [] σ := fw_on hG [2] 200 h
abbrev fk_cp_15_30 : List fw_CR := []
abbrev st_cp_15_30 : fw_K → fw_KR → fw_K := fw_st vwCl nn_sh nn_kd fw_kv fw_wc (nn_KI1.map (fun x => x.1)) (nn_KJ1.map (fun x => x.1)) (nn_PF1.map (fun x => x.1)) (nn_PS1.map (fun x => x.1)) fk_cp_15_30 0 nn_dt50 3 4
theorem fs_cp_15_30_0 {G : fw_K} {R : fw_KR} (hG : fw_cls st_cp_15_30 R G) {σ : ab_SG} (h : G 2 [some (2, 15, 0), some (2, 30, 0), some (0, 0, 0)] [] σ) : G 0 [some (2, 15, 0), some (2, 30, 0), none] [] σ := fw_on hG [2] 200 h
theorem fs_cp_15_30_2 {G : fw_K} {R : fw_KR} (hG : fw_cls st_cp_15_30 R G) {a2 : Int} {σ : ab_SG} (h : (fw_c ((64 : Nat) : Int) ≤ fw_c a2 → R none σ) ∧ (fw_c a2 < fw_c ((64 : Nat) : Int) → (fw_c ((64 : Nat) : Int) ≤ fw_c a2 → R none σ) ∧ (fw_c a2 < fw_c ((64 : Nat) : Int) → (0 ≤ fw_c a2 ∧ fw_c a2 < ((64 : Nat) : Int)) ∧ ((0 ≤ fw_c a2 ∧ fw_c a2 < ((64 : Nat) : Int)) ∧ True ∧ (G 2 [some (2, 15, 0), some (2, 30, 0), some (0, 0, a2 + 1)] [] (ab_ups σ 30 (fw_c a2).toNat (fw_c (σ 15 (fw_c a2).toNat)))))))) : G 2 [some (2, 15, 0), some (2, 30, 0), some (0, 0, a2)] [] σ := fw_on hG [2] 200 h
abbrev fk_cp_16_31 : List fw_CR := []
abbrev st_cp_16_31 : fw_K → fw_KR → fw_K := fw_st vwCl nn_sh nn_kd fw_kv fw_wc (nn_KI1.map (fun x => x.1)) (nn_KJ1.map (fun x => x.1)) (nn_PF1.map (fun x => x.1)) (nn_PS1.map (fun x => x.1)) fk_cp_16_31 0 nn_dt50 3 4
theorem fs_cp_16_31_0 {G : fw_K} {R : fw_KR} (hG : fw_cls st_cp_16_31 R G) {σ : ab_SG} (h : G 2 [some (2, 16, 0), some (2, 31, 0), some (0, 0, 0)] [] σ) : G 0 [some (2, 16, 0), some (2, 31, 0), none] [] σ := fw_on hG [2] 200 h
theorem fs_cp_16_31_2 {G : fw_K} {R : fw_KR} (hG : fw_cls st_cp_16_31 R G) {a2 : Int} {σ : ab_SG} (h : (fw_c ((64 : Nat) : Int) ≤ fw_c a2 → R none σ) ∧ (fw_c a2 < fw_c ((64 : Nat) : Int) → (fw_c ((64 : Nat) : Int) ≤ fw_c a2 → R none σ) ∧ (fw_c a2 < fw_c ((64 : Nat) : Int) → (0 ≤ fw_c a2 ∧ fw_c a2 < ((64 : Nat) : Int)) ∧ ((0 ≤ fw_c a2 ∧ fw_c a2 < ((64 : Nat) : Int)) ∧ True ∧ (G 2 [some (2, 16, 0), some (2, 31, 0), some (0, 0, a2 + 1)] [] (ab_ups σ 31 (fw_c a2).toNat (fw_c (σ 16 (fw_c a2).toNat)))))))) : G 2 [some (2, 16, 0), some (2, 31, 0), some (0, 0, a2)] [] σ := fw_on hG [2] 200 h
abbrev fk_cp_4_34 : List fw_CR := []
abbrev st_cp_4_34 : fw_K → fw_KR → fw_K := fw_st vwCl nn_sh nn_kd fw_kv fw_wc (nn_KI1.map (fun x => x.1)) (nn_KJ1.map (fun x => x.1)) (nn_PF1.map (fun x => x.1)) (nn_PS1.map (fun x => x.1)) fk_cp_4_34 0 nn_dt50 3 4
theorem fs_cp_4_34_0 {G : fw_K} {R : fw_KR} (hG : fw_cls st_cp_4_34 R G) {σ : ab_SG} (h : G 2 [some (2, 4, 0), some (2, 34, 0), some (0, 0, 0)] [] σ) : G 0 [some (2, 4, 0), some (2, 34, 0), none] [] σ := fw_on hG [2] 200 h
theorem fs_cp_4_34_2 {G : fw_K} {R : fw_KR} (hG : fw_cls st_cp_4_34 R G) {a2 : Int} {σ : ab_SG} (h : (fw_c ((81 : Nat) : Int) ≤ fw_c a2 → R none σ) ∧ (fw_c a2 < fw_c ((81 : Nat) : Int) → (fw_c ((81 : Nat) : Int) ≤ fw_c a2 → R none σ) ∧ (fw_c a2 < fw_c ((81 : Nat) : Int) → (0 ≤ fw_c a2 ∧ fw_c a2 < ((81 : Nat) : Int)) ∧ ((0 ≤ fw_c a2 ∧ fw_c a2 < ((81 : Nat) : Int)) ∧ True ∧ (G 2 [some (2, 4, 0), some (2, 34, 0), some (0, 0, a2 + 1)] [] (ab_ups σ 34 (fw_c a2).toNat (fw_c (σ 4 (fw_c a2).toNat)))))))) : G 2 [some (2, 4, 0), some (2, 34, 0), some (0, 0, a2)] [] σ := fw_on hG [2] 200 h
abbrev fk_cp_5_35 : List fw_CR := []
abbrev st_cp_5_35 : fw_K → fw_KR → fw_K := fw_st vwCl nn_sh nn_kd fw_kv fw_wc (nn_KI1.map (fun x => x.1)) (nn_KJ1.map (fun x => x.1)) (nn_PF1.map (fun x => x.1)) (nn_PS1.map (fun x => x.1)) fk_cp_5_35 0 nn_dt50 3 4
theorem fs_cp_5_35_0 {G : fw_K} {R : fw_KR} (hG : fw_cls st_cp_5_35 R G) {σ : ab_SG} (h : G 2 [some (2, 5, 0), some (2, 35, 0), some (0, 0, 0)] [] σ) : G 0 [some (2, 5, 0), some (2, 35, 0), none] [] σ := fw_on hG [2] 200 h
theorem fs_cp_5_35_2 {G : fw_K} {R : fw_KR} (hG : fw_cls st_cp_5_35 R G) {a2 : Int} {σ : ab_SG} (h : (fw_c ((81 : Nat) : Int) ≤ fw_c a2 → R none σ) ∧ (fw_c a2 < fw_c ((81 : Nat) : Int) → (fw_c ((81 : Nat) : Int) ≤ fw_c a2 → R none σ) ∧ (fw_c a2 < fw_c ((81 : Nat) : Int) → (0 ≤ fw_c a2 ∧ fw_c a2 < ((81 : Nat) : Int)) ∧ ((0 ≤ fw_c a2 ∧ fw_c a2 < ((81 : Nat) : Int)) ∧ True ∧ (G 2 [some (2, 5, 0), some (2, 35, 0), some (0, 0, a2 + 1)] [] (ab_ups σ 35 (fw_c a2).toNat (fw_c (σ 5 (fw_c a2).toNat)))))))) : G 2 [some (2, 5, 0), some (2, 35, 0), some (0, 0, a2)] [] σ := fw_on hG [2] 200 h
abbrev fk_cp_6_36 : List fw_CR := []
abbrev st_cp_6_36 : fw_K → fw_KR → fw_K := fw_st vwCl nn_sh nn_kd fw_kv fw_wc (nn_KI1.map (fun x => x.1)) (nn_KJ1.map (fun x => x.1)) (nn_PF1.map (fun x => x.1)) (nn_PS1.map (fun x => x.1)) fk_cp_6_36 0 nn_dt50 3 4
theorem fs_cp_6_36_0 {G : fw_K} {R : fw_KR} (hG : fw_cls st_cp_6_36 R G) {σ : ab_SG} (h : G 2 [some (2, 6, 0), some (2, 36, 0), some (0, 0, 0)] [] σ) : G 0 [some (2, 6, 0), some (2, 36, 0), none] [] σ := fw_on hG [2] 200 h
theorem fs_cp_6_36_2 {G : fw_K} {R : fw_KR} (hG : fw_cls st_cp_6_36 R G) {a2 : Int} {σ : ab_SG} (h : (fw_c ((9 : Nat) : Int) ≤ fw_c a2 → R none σ) ∧ (fw_c a2 < fw_c ((9 : Nat) : Int) → (fw_c ((9 : Nat) : Int) ≤ fw_c a2 → R none σ) ∧ (fw_c a2 < fw_c ((9 : Nat) : Int) → (0 ≤ fw_c a2 ∧ fw_c a2 < ((9 : Nat) : Int)) ∧ ((0 ≤ fw_c a2 ∧ fw_c a2 < ((9 : Nat) : Int)) ∧ True ∧ (G 2 [some (2, 6, 0), some (2, 36, 0), some (0, 0, a2 + 1)] [] (ab_ups σ 36 (fw_c a2).toNat (fw_c (σ 6 (fw_c a2).toNat)))))))) : G 2 [some (2, 6, 0), some (2, 36, 0), some (0, 0, a2)] [] σ := fw_on hG [2] 200 h
abbrev fk_cp_7_37 : List fw_CR := []
abbrev st_cp_7_37 : fw_K → fw_KR → fw_K := fw_st vwCl nn_sh nn_kd fw_kv fw_wc (nn_KI1.map (fun x => x.1)) (nn_KJ1.map (fun x => x.1)) (nn_PF1.map (fun x => x.1)) (nn_PS1.map (fun x => x.1)) fk_cp_7_37 0 nn_dt50 3 4
theorem fs_cp_7_37_0 {G : fw_K} {R : fw_KR} (hG : fw_cls st_cp_7_37 R G) {σ : ab_SG} (h : G 2 [some (2, 7, 0), some (2, 37, 0), some (0, 0, 0)] [] σ) : G 0 [some (2, 7, 0), some (2, 37, 0), none] [] σ := fw_on hG [2] 200 h
theorem fs_cp_7_37_2 {G : fw_K} {R : fw_KR} (hG : fw_cls st_cp_7_37 R G) {a2 : Int} {σ : ab_SG} (h : (fw_c ((324 : Nat) : Int) ≤ fw_c a2 → R none σ) ∧ (fw_c a2 < fw_c ((324 : Nat) : Int) → (fw_c ((324 : Nat) : Int) ≤ fw_c a2 → R none σ) ∧ (fw_c a2 < fw_c ((324 : Nat) : Int) → (0 ≤ fw_c a2 ∧ fw_c a2 < ((324 : Nat) : Int)) ∧ ((0 ≤ fw_c a2 ∧ fw_c a2 < ((324 : Nat) : Int)) ∧ True ∧ (G 2 [some (2, 7, 0), some (2, 37, 0), some (0, 0, a2 + 1)] [] (ab_ups σ 37 (fw_c a2).toNat (fw_c (σ 7 (fw_c a2).toNat)))))))) : G 2 [some (2, 7, 0), some (2, 37, 0), some (0, 0, a2)] [] σ := fw_on hG [2] 200 h
abbrev fk_cp_8_38 : List fw_CR := []
abbrev st_cp_8_38 : fw_K → fw_KR → fw_K := fw_st vwCl nn_sh nn_kd fw_kv fw_wc (nn_KI1.map (fun x => x.1)) (nn_KJ1.map (fun x => x.1)) (nn_PF1.map (fun x => x.1)) (nn_PS1.map (fun x => x.1)) fk_cp_8_38 0 nn_dt50 3 4
theorem fs_cp_8_38_0 {G : fw_K} {R : fw_KR} (hG : fw_cls st_cp_8_38 R G) {σ : ab_SG} (h : G 2 [some (2, 8, 0), some (2, 38, 0), some (0, 0, 0)] [] σ) : G 0 [some (2, 8, 0), some (2, 38, 0), none] [] σ := fw_on hG [2] 200 h
theorem fs_cp_8_38_2 {G : fw_K} {R : fw_KR} (hG : fw_cls st_cp_8_38 R G) {a2 : Int} {σ : ab_SG} (h : (fw_c ((6 : Nat) : Int) ≤ fw_c a2 → R none σ) ∧ (fw_c a2 < fw_c ((6 : Nat) : Int) → (fw_c ((6 : Nat) : Int) ≤ fw_c a2 → R none σ) ∧ (fw_c a2 < fw_c ((6 : Nat) : Int) → (0 ≤ fw_c a2 ∧ fw_c a2 < ((6 : Nat) : Int)) ∧ ((0 ≤ fw_c a2 ∧ fw_c a2 < ((6 : Nat) : Int)) ∧ True ∧ (G 2 [some (2, 8, 0), some (2, 38, 0), some (0, 0, a2 + 1)] [] (ab_ups σ 38 (fw_c a2).toNat (fw_c (σ 8 (fw_c a2).toNat)))))))) : G 2 [some (2, 8, 0), some (2, 38, 0), some (0, 0, a2)] [] σ := fw_on hG [2] 200 h
abbrev fk_cp_9_39 : List fw_CR := []
abbrev st_cp_9_39 : fw_K → fw_KR → fw_K := fw_st vwCl nn_sh nn_kd fw_kv fw_wc (nn_KI1.map (fun x => x.1)) (nn_KJ1.map (fun x => x.1)) (nn_PF1.map (fun x => x.1)) (nn_PS1.map (fun x => x.1)) fk_cp_9_39 0 nn_dt50 3 4
theorem fs_cp_9_39_0 {G : fw_K} {R : fw_KR} (hG : fw_cls st_cp_9_39 R G) {σ : ab_SG} (h : G 2 [some (2, 9, 0), some (2, 39, 0), some (0, 0, 0)] [] σ) : G 0 [some (2, 9, 0), some (2, 39, 0), none] [] σ := fw_on hG [2] 200 h
theorem fs_cp_9_39_2 {G : fw_K} {R : fw_KR} (hG : fw_cls st_cp_9_39 R G) {a2 : Int} {σ : ab_SG} (h : (fw_c ((45 : Nat) : Int) ≤ fw_c a2 → R none σ) ∧ (fw_c a2 < fw_c ((45 : Nat) : Int) → (fw_c ((45 : Nat) : Int) ≤ fw_c a2 → R none σ) ∧ (fw_c a2 < fw_c ((45 : Nat) : Int) → (0 ≤ fw_c a2 ∧ fw_c a2 < ((45 : Nat) : Int)) ∧ ((0 ≤ fw_c a2 ∧ fw_c a2 < ((45 : Nat) : Int)) ∧ True ∧ (G 2 [some (2, 9, 0), some (2, 39, 0), some (0, 0, a2 + 1)] [] (ab_ups σ 39 (fw_c a2).toNat (fw_c (σ 9 (fw_c a2).toNat)))))))) : G 2 [some (2, 9, 0), some (2, 39, 0), some (0, 0, a2)] [] σ := fw_on hG [2] 200 h
abbrev fk_cp_10_40 : List fw_CR := []
abbrev st_cp_10_40 : fw_K → fw_KR → fw_K := fw_st vwCl nn_sh nn_kd fw_kv fw_wc (nn_KI1.map (fun x => x.1)) (nn_KJ1.map (fun x => x.1)) (nn_PF1.map (fun x => x.1)) (nn_PS1.map (fun x => x.1)) fk_cp_10_40 0 nn_dt50 3 4
theorem fs_cp_10_40_0 {G : fw_K} {R : fw_KR} (hG : fw_cls st_cp_10_40 R G) {σ : ab_SG} (h : G 2 [some (2, 10, 0), some (2, 40, 0), some (0, 0, 0)] [] σ) : G 0 [some (2, 10, 0), some (2, 40, 0), none] [] σ := fw_on hG [2] 200 h
theorem fs_cp_10_40_2 {G : fw_K} {R : fw_KR} (hG : fw_cls st_cp_10_40 R G) {a2 : Int} {σ : ab_SG} (h : (fw_c ((5 : Nat) : Int) ≤ fw_c a2 → R none σ) ∧ (fw_c a2 < fw_c ((5 : Nat) : Int) → (fw_c ((5 : Nat) : Int) ≤ fw_c a2 → R none σ) ∧ (fw_c a2 < fw_c ((5 : Nat) : Int) → (0 ≤ fw_c a2 ∧ fw_c a2 < ((5 : Nat) : Int)) ∧ ((0 ≤ fw_c a2 ∧ fw_c a2 < ((5 : Nat) : Int)) ∧ True ∧ (G 2 [some (2, 10, 0), some (2, 40, 0), some (0, 0, a2 + 1)] [] (ab_ups σ 40 (fw_c a2).toNat (fw_c (σ 10 (fw_c a2).toNat)))))))) : G 2 [some (2, 10, 0), some (2, 40, 0), some (0, 0, a2)] [] σ := fw_on hG [2] 200 h
abbrev fk_cp_15_45 : List fw_CR := []
abbrev st_cp_15_45 : fw_K → fw_KR → fw_K := fw_st vwCl nn_sh nn_kd fw_kv fw_wc (nn_KI1.map (fun x => x.1)) (nn_KJ1.map (fun x => x.1)) (nn_PF1.map (fun x => x.1)) (nn_PS1.map (fun x => x.1)) fk_cp_15_45 0 nn_dt50 3 4
theorem fs_cp_15_45_0 {G : fw_K} {R : fw_KR} (hG : fw_cls st_cp_15_45 R G) {σ : ab_SG} (h : G 2 [some (2, 15, 0), some (2, 45, 0), some (0, 0, 0)] [] σ) : G 0 [some (2, 15, 0), some (2, 45, 0), none] [] σ := fw_on hG [2] 200 h
theorem fs_cp_15_45_2 {G : fw_K} {R : fw_KR} (hG : fw_cls st_cp_15_45 R G) {a2 : Int} {σ : ab_SG} (h : (fw_c ((64 : Nat) : Int) ≤ fw_c a2 → R none σ) ∧ (fw_c a2 < fw_c ((64 : Nat) : Int) → (fw_c ((64 : Nat) : Int) ≤ fw_c a2 → R none σ) ∧ (fw_c a2 < fw_c ((64 : Nat) : Int) → (0 ≤ fw_c a2 ∧ fw_c a2 < ((64 : Nat) : Int)) ∧ ((0 ≤ fw_c a2 ∧ fw_c a2 < ((64 : Nat) : Int)) ∧ True ∧ (G 2 [some (2, 15, 0), some (2, 45, 0), some (0, 0, a2 + 1)] [] (ab_ups σ 45 (fw_c a2).toNat (fw_c (σ 15 (fw_c a2).toNat)))))))) : G 2 [some (2, 15, 0), some (2, 45, 0), some (0, 0, a2)] [] σ := fw_on hG [2] 200 h
abbrev fk_cp_16_46 : List fw_CR := []
abbrev st_cp_16_46 : fw_K → fw_KR → fw_K := fw_st vwCl nn_sh nn_kd fw_kv fw_wc (nn_KI1.map (fun x => x.1)) (nn_KJ1.map (fun x => x.1)) (nn_PF1.map (fun x => x.1)) (nn_PS1.map (fun x => x.1)) fk_cp_16_46 0 nn_dt50 3 4
theorem fs_cp_16_46_0 {G : fw_K} {R : fw_KR} (hG : fw_cls st_cp_16_46 R G) {σ : ab_SG} (h : G 2 [some (2, 16, 0), some (2, 46, 0), some (0, 0, 0)] [] σ) : G 0 [some (2, 16, 0), some (2, 46, 0), none] [] σ := fw_on hG [2] 200 h
theorem fs_cp_16_46_2 {G : fw_K} {R : fw_KR} (hG : fw_cls st_cp_16_46 R G) {a2 : Int} {σ : ab_SG} (h : (fw_c ((64 : Nat) : Int) ≤ fw_c a2 → R none σ) ∧ (fw_c a2 < fw_c ((64 : Nat) : Int) → (fw_c ((64 : Nat) : Int) ≤ fw_c a2 → R none σ) ∧ (fw_c a2 < fw_c ((64 : Nat) : Int) → (0 ≤ fw_c a2 ∧ fw_c a2 < ((64 : Nat) : Int)) ∧ ((0 ≤ fw_c a2 ∧ fw_c a2 < ((64 : Nat) : Int)) ∧ True ∧ (G 2 [some (2, 16, 0), some (2, 46, 0), some (0, 0, a2 + 1)] [] (ab_ups σ 46 (fw_c a2).toNat (fw_c (σ 16 (fw_c a2).toNat)))))))) : G 2 [some (2, 16, 0), some (2, 46, 0), some (0, 0, a2)] [] σ := fw_on hG [2] 200 h
abbrev fk_cp_19_4 : List fw_CR := []
abbrev st_cp_19_4 : fw_K → fw_KR → fw_K := fw_st vwCl nn_sh nn_kd fw_kv fw_wc (nn_KI1.map (fun x => x.1)) (nn_KJ1.map (fun x => x.1)) (nn_PF1.map (fun x => x.1)) (nn_PS1.map (fun x => x.1)) fk_cp_19_4 0 nn_dt50 3 4
theorem fs_cp_19_4_0 {G : fw_K} {R : fw_KR} (hG : fw_cls st_cp_19_4 R G) {σ : ab_SG} (h : G 2 [some (2, 19, 0), some (2, 4, 0), some (0, 0, 0)] [] σ) : G 0 [some (2, 19, 0), some (2, 4, 0), none] [] σ := fw_on hG [2] 200 h
theorem fs_cp_19_4_2 {G : fw_K} {R : fw_KR} (hG : fw_cls st_cp_19_4 R G) {a2 : Int} {σ : ab_SG} (h : (fw_c ((81 : Nat) : Int) ≤ fw_c a2 → R none σ) ∧ (fw_c a2 < fw_c ((81 : Nat) : Int) → (fw_c ((81 : Nat) : Int) ≤ fw_c a2 → R none σ) ∧ (fw_c a2 < fw_c ((81 : Nat) : Int) → (0 ≤ fw_c a2 ∧ fw_c a2 < ((81 : Nat) : Int)) ∧ ((0 ≤ fw_c a2 ∧ fw_c a2 < ((81 : Nat) : Int)) ∧ True ∧ (G 2 [some (2, 19, 0), some (2, 4, 0), some (0, 0, a2 + 1)] [] (ab_ups σ 4 (fw_c a2).toNat (fw_c (σ 19 (fw_c a2).toNat)))))))) : G 2 [some (2, 19, 0), some (2, 4, 0), some (0, 0, a2)] [] σ := fw_on hG [2] 200 h
abbrev fk_cp_20_5 : List fw_CR := []
abbrev st_cp_20_5 : fw_K → fw_KR → fw_K := fw_st vwCl nn_sh nn_kd fw_kv fw_wc (nn_KI1.map (fun x => x.1)) (nn_KJ1.map (fun x => x.1)) (nn_PF1.map (fun x => x.1)) (nn_PS1.map (fun x => x.1)) fk_cp_20_5 0 nn_dt50 3 4
theorem fs_cp_20_5_0 {G : fw_K} {R : fw_KR} (hG : fw_cls st_cp_20_5 R G) {σ : ab_SG} (h : G 2 [some (2, 20, 0), some (2, 5, 0), some (0, 0, 0)] [] σ) : G 0 [some (2, 20, 0), some (2, 5, 0), none] [] σ := fw_on hG [2] 200 h
theorem fs_cp_20_5_2 {G : fw_K} {R : fw_KR} (hG : fw_cls st_cp_20_5 R G) {a2 : Int} {σ : ab_SG} (h : (fw_c ((81 : Nat) : Int) ≤ fw_c a2 → R none σ) ∧ (fw_c a2 < fw_c ((81 : Nat) : Int) → (fw_c ((81 : Nat) : Int) ≤ fw_c a2 → R none σ) ∧ (fw_c a2 < fw_c ((81 : Nat) : Int) → (0 ≤ fw_c a2 ∧ fw_c a2 < ((81 : Nat) : Int)) ∧ ((0 ≤ fw_c a2 ∧ fw_c a2 < ((81 : Nat) : Int)) ∧ True ∧ (G 2 [some (2, 20, 0), some (2, 5, 0), some (0, 0, a2 + 1)] [] (ab_ups σ 5 (fw_c a2).toNat (fw_c (σ 20 (fw_c a2).toNat)))))))) : G 2 [some (2, 20, 0), some (2, 5, 0), some (0, 0, a2)] [] σ := fw_on hG [2] 200 h
abbrev fk_cp_21_6 : List fw_CR := []
abbrev st_cp_21_6 : fw_K → fw_KR → fw_K := fw_st vwCl nn_sh nn_kd fw_kv fw_wc (nn_KI1.map (fun x => x.1)) (nn_KJ1.map (fun x => x.1)) (nn_PF1.map (fun x => x.1)) (nn_PS1.map (fun x => x.1)) fk_cp_21_6 0 nn_dt50 3 4
theorem fs_cp_21_6_0 {G : fw_K} {R : fw_KR} (hG : fw_cls st_cp_21_6 R G) {σ : ab_SG} (h : G 2 [some (2, 21, 0), some (2, 6, 0), some (0, 0, 0)] [] σ) : G 0 [some (2, 21, 0), some (2, 6, 0), none] [] σ := fw_on hG [2] 200 h
theorem fs_cp_21_6_2 {G : fw_K} {R : fw_KR} (hG : fw_cls st_cp_21_6 R G) {a2 : Int} {σ : ab_SG} (h : (fw_c ((9 : Nat) : Int) ≤ fw_c a2 → R none σ) ∧ (fw_c a2 < fw_c ((9 : Nat) : Int) → (fw_c ((9 : Nat) : Int) ≤ fw_c a2 → R none σ) ∧ (fw_c a2 < fw_c ((9 : Nat) : Int) → (0 ≤ fw_c a2 ∧ fw_c a2 < ((9 : Nat) : Int)) ∧ ((0 ≤ fw_c a2 ∧ fw_c a2 < ((9 : Nat) : Int)) ∧ True ∧ (G 2 [some (2, 21, 0), some (2, 6, 0), some (0, 0, a2 + 1)] [] (ab_ups σ 6 (fw_c a2).toNat (fw_c (σ 21 (fw_c a2).toNat)))))))) : G 2 [some (2, 21, 0), some (2, 6, 0), some (0, 0, a2)] [] σ := fw_on hG [2] 200 h
abbrev fk_cp_22_7 : List fw_CR := []
abbrev st_cp_22_7 : fw_K → fw_KR → fw_K := fw_st vwCl nn_sh nn_kd fw_kv fw_wc (nn_KI1.map (fun x => x.1)) (nn_KJ1.map (fun x => x.1)) (nn_PF1.map (fun x => x.1)) (nn_PS1.map (fun x => x.1)) fk_cp_22_7 0 nn_dt50 3 4
theorem fs_cp_22_7_0 {G : fw_K} {R : fw_KR} (hG : fw_cls st_cp_22_7 R G) {σ : ab_SG} (h : G 2 [some (2, 22, 0), some (2, 7, 0), some (0, 0, 0)] [] σ) : G 0 [some (2, 22, 0), some (2, 7, 0), none] [] σ := fw_on hG [2] 200 h
theorem fs_cp_22_7_2 {G : fw_K} {R : fw_KR} (hG : fw_cls st_cp_22_7 R G) {a2 : Int} {σ : ab_SG} (h : (fw_c ((324 : Nat) : Int) ≤ fw_c a2 → R none σ) ∧ (fw_c a2 < fw_c ((324 : Nat) : Int) → (fw_c ((324 : Nat) : Int) ≤ fw_c a2 → R none σ) ∧ (fw_c a2 < fw_c ((324 : Nat) : Int) → (0 ≤ fw_c a2 ∧ fw_c a2 < ((324 : Nat) : Int)) ∧ ((0 ≤ fw_c a2 ∧ fw_c a2 < ((324 : Nat) : Int)) ∧ True ∧ (G 2 [some (2, 22, 0), some (2, 7, 0), some (0, 0, a2 + 1)] [] (ab_ups σ 7 (fw_c a2).toNat (fw_c (σ 22 (fw_c a2).toNat)))))))) : G 2 [some (2, 22, 0), some (2, 7, 0), some (0, 0, a2)] [] σ := fw_on hG [2] 200 h
abbrev fk_cp_23_8 : List fw_CR := []
abbrev st_cp_23_8 : fw_K → fw_KR → fw_K := fw_st vwCl nn_sh nn_kd fw_kv fw_wc (nn_KI1.map (fun x => x.1)) (nn_KJ1.map (fun x => x.1)) (nn_PF1.map (fun x => x.1)) (nn_PS1.map (fun x => x.1)) fk_cp_23_8 0 nn_dt50 3 4
theorem fs_cp_23_8_0 {G : fw_K} {R : fw_KR} (hG : fw_cls st_cp_23_8 R G) {σ : ab_SG} (h : G 2 [some (2, 23, 0), some (2, 8, 0), some (0, 0, 0)] [] σ) : G 0 [some (2, 23, 0), some (2, 8, 0), none] [] σ := fw_on hG [2] 200 h
theorem fs_cp_23_8_2 {G : fw_K} {R : fw_KR} (hG : fw_cls st_cp_23_8 R G) {a2 : Int} {σ : ab_SG} (h : (fw_c ((6 : Nat) : Int) ≤ fw_c a2 → R none σ) ∧ (fw_c a2 < fw_c ((6 : Nat) : Int) → (fw_c ((6 : Nat) : Int) ≤ fw_c a2 → R none σ) ∧ (fw_c a2 < fw_c ((6 : Nat) : Int) → (0 ≤ fw_c a2 ∧ fw_c a2 < ((6 : Nat) : Int)) ∧ ((0 ≤ fw_c a2 ∧ fw_c a2 < ((6 : Nat) : Int)) ∧ True ∧ (G 2 [some (2, 23, 0), some (2, 8, 0), some (0, 0, a2 + 1)] [] (ab_ups σ 8 (fw_c a2).toNat (fw_c (σ 23 (fw_c a2).toNat)))))))) : G 2 [some (2, 23, 0), some (2, 8, 0), some (0, 0, a2)] [] σ := fw_on hG [2] 200 h
abbrev fk_cp_24_9 : List fw_CR := []
abbrev st_cp_24_9 : fw_K → fw_KR → fw_K := fw_st vwCl nn_sh nn_kd fw_kv fw_wc (nn_KI1.map (fun x => x.1)) (nn_KJ1.map (fun x => x.1)) (nn_PF1.map (fun x => x.1)) (nn_PS1.map (fun x => x.1)) fk_cp_24_9 0 nn_dt50 3 4
theorem fs_cp_24_9_0 {G : fw_K} {R : fw_KR} (hG : fw_cls st_cp_24_9 R G) {σ : ab_SG} (h : G 2 [some (2, 24, 0), some (2, 9, 0), some (0, 0, 0)] [] σ) : G 0 [some (2, 24, 0), some (2, 9, 0), none] [] σ := fw_on hG [2] 200 h
theorem fs_cp_24_9_2 {G : fw_K} {R : fw_KR} (hG : fw_cls st_cp_24_9 R G) {a2 : Int} {σ : ab_SG} (h : (fw_c ((45 : Nat) : Int) ≤ fw_c a2 → R none σ) ∧ (fw_c a2 < fw_c ((45 : Nat) : Int) → (fw_c ((45 : Nat) : Int) ≤ fw_c a2 → R none σ) ∧ (fw_c a2 < fw_c ((45 : Nat) : Int) → (0 ≤ fw_c a2 ∧ fw_c a2 < ((45 : Nat) : Int)) ∧ ((0 ≤ fw_c a2 ∧ fw_c a2 < ((45 : Nat) : Int)) ∧ True ∧ (G 2 [some (2, 24, 0), some (2, 9, 0), some (0, 0, a2 + 1)] [] (ab_ups σ 9 (fw_c a2).toNat (fw_c (σ 24 (fw_c a2).toNat)))))))) : G 2 [some (2, 24, 0), some (2, 9, 0), some (0, 0, a2)] [] σ := fw_on hG [2] 200 h
abbrev fk_cp_25_10 : List fw_CR := []
abbrev st_cp_25_10 : fw_K → fw_KR → fw_K := fw_st vwCl nn_sh nn_kd fw_kv fw_wc (nn_KI1.map (fun x => x.1)) (nn_KJ1.map (fun x => x.1)) (nn_PF1.map (fun x => x.1)) (nn_PS1.map (fun x => x.1)) fk_cp_25_10 0 nn_dt50 3 4
theorem fs_cp_25_10_0 {G : fw_K} {R : fw_KR} (hG : fw_cls st_cp_25_10 R G) {σ : ab_SG} (h : G 2 [some (2, 25, 0), some (2, 10, 0), some (0, 0, 0)] [] σ) : G 0 [some (2, 25, 0), some (2, 10, 0), none] [] σ := fw_on hG [2] 200 h
theorem fs_cp_25_10_2 {G : fw_K} {R : fw_KR} (hG : fw_cls st_cp_25_10 R G) {a2 : Int} {σ : ab_SG} (h : (fw_c ((5 : Nat) : Int) ≤ fw_c a2 → R none σ) ∧ (fw_c a2 < fw_c ((5 : Nat) : Int) → (fw_c ((5 : Nat) : Int) ≤ fw_c a2 → R none σ) ∧ (fw_c a2 < fw_c ((5 : Nat) : Int) → (0 ≤ fw_c a2 ∧ fw_c a2 < ((5 : Nat) : Int)) ∧ ((0 ≤ fw_c a2 ∧ fw_c a2 < ((5 : Nat) : Int)) ∧ True ∧ (G 2 [some (2, 25, 0), some (2, 10, 0), some (0, 0, a2 + 1)] [] (ab_ups σ 10 (fw_c a2).toNat (fw_c (σ 25 (fw_c a2).toNat)))))))) : G 2 [some (2, 25, 0), some (2, 10, 0), some (0, 0, a2)] [] σ := fw_on hG [2] 200 h
abbrev fk_cp_30_15 : List fw_CR := []
abbrev st_cp_30_15 : fw_K → fw_KR → fw_K := fw_st vwCl nn_sh nn_kd fw_kv fw_wc (nn_KI1.map (fun x => x.1)) (nn_KJ1.map (fun x => x.1)) (nn_PF1.map (fun x => x.1)) (nn_PS1.map (fun x => x.1)) fk_cp_30_15 0 nn_dt50 3 4
theorem fs_cp_30_15_0 {G : fw_K} {R : fw_KR} (hG : fw_cls st_cp_30_15 R G) {σ : ab_SG} (h : G 2 [some (2, 30, 0), some (2, 15, 0), some (0, 0, 0)] [] σ) : G 0 [some (2, 30, 0), some (2, 15, 0), none] [] σ := fw_on hG [2] 200 h
theorem fs_cp_30_15_2 {G : fw_K} {R : fw_KR} (hG : fw_cls st_cp_30_15 R G) {a2 : Int} {σ : ab_SG} (h : (fw_c ((64 : Nat) : Int) ≤ fw_c a2 → R none σ) ∧ (fw_c a2 < fw_c ((64 : Nat) : Int) → (fw_c ((64 : Nat) : Int) ≤ fw_c a2 → R none σ) ∧ (fw_c a2 < fw_c ((64 : Nat) : Int) → (0 ≤ fw_c a2 ∧ fw_c a2 < ((64 : Nat) : Int)) ∧ ((0 ≤ fw_c a2 ∧ fw_c a2 < ((64 : Nat) : Int)) ∧ True ∧ (G 2 [some (2, 30, 0), some (2, 15, 0), some (0, 0, a2 + 1)] [] (ab_ups σ 15 (fw_c a2).toNat (fw_c (σ 30 (fw_c a2).toNat)))))))) : G 2 [some (2, 30, 0), some (2, 15, 0), some (0, 0, a2)] [] σ := fw_on hG [2] 200 h
abbrev fk_cp_31_16 : List fw_CR := []
abbrev st_cp_31_16 : fw_K → fw_KR → fw_K := fw_st vwCl nn_sh nn_kd fw_kv fw_wc (nn_KI1.map (fun x => x.1)) (nn_KJ1.map (fun x => x.1)) (nn_PF1.map (fun x => x.1)) (nn_PS1.map (fun x => x.1)) fk_cp_31_16 0 nn_dt50 3 4
theorem fs_cp_31_16_0 {G : fw_K} {R : fw_KR} (hG : fw_cls st_cp_31_16 R G) {σ : ab_SG} (h : G 2 [some (2, 31, 0), some (2, 16, 0), some (0, 0, 0)] [] σ) : G 0 [some (2, 31, 0), some (2, 16, 0), none] [] σ := fw_on hG [2] 200 h
theorem fs_cp_31_16_2 {G : fw_K} {R : fw_KR} (hG : fw_cls st_cp_31_16 R G) {a2 : Int} {σ : ab_SG} (h : (fw_c ((64 : Nat) : Int) ≤ fw_c a2 → R none σ) ∧ (fw_c a2 < fw_c ((64 : Nat) : Int) → (fw_c ((64 : Nat) : Int) ≤ fw_c a2 → R none σ) ∧ (fw_c a2 < fw_c ((64 : Nat) : Int) → (0 ≤ fw_c a2 ∧ fw_c a2 < ((64 : Nat) : Int)) ∧ ((0 ≤ fw_c a2 ∧ fw_c a2 < ((64 : Nat) : Int)) ∧ True ∧ (G 2 [some (2, 31, 0), some (2, 16, 0), some (0, 0, a2 + 1)] [] (ab_ups σ 16 (fw_c a2).toNat (fw_c (σ 31 (fw_c a2).toNat)))))))) : G 2 [some (2, 31, 0), some (2, 16, 0), some (0, 0, a2)] [] σ := fw_on hG [2] 200 h
abbrev fk_cp_34_4 : List fw_CR := []
abbrev st_cp_34_4 : fw_K → fw_KR → fw_K := fw_st vwCl nn_sh nn_kd fw_kv fw_wc (nn_KI1.map (fun x => x.1)) (nn_KJ1.map (fun x => x.1)) (nn_PF1.map (fun x => x.1)) (nn_PS1.map (fun x => x.1)) fk_cp_34_4 0 nn_dt50 3 4
theorem fs_cp_34_4_0 {G : fw_K} {R : fw_KR} (hG : fw_cls st_cp_34_4 R G) {σ : ab_SG} (h : G 2 [some (2, 34, 0), some (2, 4, 0), some (0, 0, 0)] [] σ) : G 0 [some (2, 34, 0), some (2, 4, 0), none] [] σ := fw_on hG [2] 200 h
theorem fs_cp_34_4_2 {G : fw_K} {R : fw_KR} (hG : fw_cls st_cp_34_4 R G) {a2 : Int} {σ : ab_SG} (h : (fw_c ((81 : Nat) : Int) ≤ fw_c a2 → R none σ) ∧ (fw_c a2 < fw_c ((81 : Nat) : Int) → (fw_c ((81 : Nat) : Int) ≤ fw_c a2 → R none σ) ∧ (fw_c a2 < fw_c ((81 : Nat) : Int) → (0 ≤ fw_c a2 ∧ fw_c a2 < ((81 : Nat) : Int)) ∧ ((0 ≤ fw_c a2 ∧ fw_c a2 < ((81 : Nat) : Int)) ∧ True ∧ (G 2 [some (2, 34, 0), some (2, 4, 0), some (0, 0, a2 + 1)] [] (ab_ups σ 4 (fw_c a2).toNat (fw_c (σ 34 (fw_c a2).toNat)))))))) : G 2 [some (2, 34, 0), some (2, 4, 0), some (0, 0, a2)] [] σ := fw_on hG [2] 200 h
abbrev fk_cp_35_5 : List fw_CR := []
abbrev st_cp_35_5 : fw_K → fw_KR → fw_K := fw_st vwCl nn_sh nn_kd fw_kv fw_wc (nn_KI1.map (fun x => x.1)) (nn_KJ1.map (fun x => x.1)) (nn_PF1.map (fun x => x.1)) (nn_PS1.map (fun x => x.1)) fk_cp_35_5 0 nn_dt50 3 4
theorem fs_cp_35_5_0 {G : fw_K} {R : fw_KR} (hG : fw_cls st_cp_35_5 R G) {σ : ab_SG} (h : G 2 [some (2, 35, 0), some (2, 5, 0), some (0, 0, 0)] [] σ) : G 0 [some (2, 35, 0), some (2, 5, 0), none] [] σ := fw_on hG [2] 200 h
theorem fs_cp_35_5_2 {G : fw_K} {R : fw_KR} (hG : fw_cls st_cp_35_5 R G) {a2 : Int} {σ : ab_SG} (h : (fw_c ((81 : Nat) : Int) ≤ fw_c a2 → R none σ) ∧ (fw_c a2 < fw_c ((81 : Nat) : Int) → (fw_c ((81 : Nat) : Int) ≤ fw_c a2 → R none σ) ∧ (fw_c a2 < fw_c ((81 : Nat) : Int) → (0 ≤ fw_c a2 ∧ fw_c a2 < ((81 : Nat) : Int)) ∧ ((0 ≤ fw_c a2 ∧ fw_c a2 < ((81 : Nat) : Int)) ∧ True ∧ (G 2 [some (2, 35, 0), some (2, 5, 0), some (0, 0, a2 + 1)] [] (ab_ups σ 5 (fw_c a2).toNat (fw_c (σ 35 (fw_c a2).toNat)))))))) : G 2 [some (2, 35, 0), some (2, 5, 0), some (0, 0, a2)] [] σ := fw_on hG [2] 200 h
abbrev fk_cp_36_6 : List fw_CR := []
abbrev st_cp_36_6 : fw_K → fw_KR → fw_K := fw_st vwCl nn_sh nn_kd fw_kv fw_wc (nn_KI1.map (fun x => x.1)) (nn_KJ1.map (fun x => x.1)) (nn_PF1.map (fun x => x.1)) (nn_PS1.map (fun x => x.1)) fk_cp_36_6 0 nn_dt50 3 4
theorem fs_cp_36_6_0 {G : fw_K} {R : fw_KR} (hG : fw_cls st_cp_36_6 R G) {σ : ab_SG} (h : G 2 [some (2, 36, 0), some (2, 6, 0), some (0, 0, 0)] [] σ) : G 0 [some (2, 36, 0), some (2, 6, 0), none] [] σ := fw_on hG [2] 200 h
theorem fs_cp_36_6_2 {G : fw_K} {R : fw_KR} (hG : fw_cls st_cp_36_6 R G) {a2 : Int} {σ : ab_SG} (h : (fw_c ((9 : Nat) : Int) ≤ fw_c a2 → R none σ) ∧ (fw_c a2 < fw_c ((9 : Nat) : Int) → (fw_c ((9 : Nat) : Int) ≤ fw_c a2 → R none σ) ∧ (fw_c a2 < fw_c ((9 : Nat) : Int) → (0 ≤ fw_c a2 ∧ fw_c a2 < ((9 : Nat) : Int)) ∧ ((0 ≤ fw_c a2 ∧ fw_c a2 < ((9 : Nat) : Int)) ∧ True ∧ (G 2 [some (2, 36, 0), some (2, 6, 0), some (0, 0, a2 + 1)] [] (ab_ups σ 6 (fw_c a2).toNat (fw_c (σ 36 (fw_c a2).toNat)))))))) : G 2 [some (2, 36, 0), some (2, 6, 0), some (0, 0, a2)] [] σ := fw_on hG [2] 200 h
abbrev fk_cp_37_7 : List fw_CR := []
abbrev st_cp_37_7 : fw_K → fw_KR → fw_K := fw_st vwCl nn_sh nn_kd fw_kv fw_wc (nn_KI1.map (fun x => x.1)) (nn_KJ1.map (fun x => x.1)) (nn_PF1.map (fun x => x.1)) (nn_PS1.map (fun x => x.1)) fk_cp_37_7 0 nn_dt50 3 4
theorem fs_cp_37_7_0 {G : fw_K} {R : fw_KR} (hG : fw_cls st_cp_37_7 R G) {σ : ab_SG} (h : G 2 [some (2, 37, 0), some (2, 7, 0), some (0, 0, 0)] [] σ) : G 0 [some (2, 37, 0), some (2, 7, 0), none] [] σ := fw_on hG [2] 200 h
theorem fs_cp_37_7_2 {G : fw_K} {R : fw_KR} (hG : fw_cls st_cp_37_7 R G) {a2 : Int} {σ : ab_SG} (h : (fw_c ((324 : Nat) : Int) ≤ fw_c a2 → R none σ) ∧ (fw_c a2 < fw_c ((324 : Nat) : Int) → (fw_c ((324 : Nat) : Int) ≤ fw_c a2 → R none σ) ∧ (fw_c a2 < fw_c ((324 : Nat) : Int) → (0 ≤ fw_c a2 ∧ fw_c a2 < ((324 : Nat) : Int)) ∧ ((0 ≤ fw_c a2 ∧ fw_c a2 < ((324 : Nat) : Int)) ∧ True ∧ (G 2 [some (2, 37, 0), some (2, 7, 0), some (0, 0, a2 + 1)] [] (ab_ups σ 7 (fw_c a2).toNat (fw_c (σ 37 (fw_c a2).toNat)))))))) : G 2 [some (2, 37, 0), some (2, 7, 0), some (0, 0, a2)] [] σ := fw_on hG [2] 200 h
abbrev fk_cp_38_8 : List fw_CR := []
abbrev st_cp_38_8 : fw_K → fw_KR → fw_K := fw_st vwCl nn_sh nn_kd fw_kv fw_wc (nn_KI1.map (fun x => x.1)) (nn_KJ1.map (fun x => x.1)) (nn_PF1.map (fun x => x.1)) (nn_PS1.map (fun x => x.1)) fk_cp_38_8 0 nn_dt50 3 4
theorem fs_cp_38_8_0 {G : fw_K} {R : fw_KR} (hG : fw_cls st_cp_38_8 R G) {σ : ab_SG} (h : G 2 [some (2, 38, 0), some (2, 8, 0), some (0, 0, 0)] [] σ) : G 0 [some (2, 38, 0), some (2, 8, 0), none] [] σ := fw_on hG [2] 200 h
theorem fs_cp_38_8_2 {G : fw_K} {R : fw_KR} (hG : fw_cls st_cp_38_8 R G) {a2 : Int} {σ : ab_SG} (h : (fw_c ((6 : Nat) : Int) ≤ fw_c a2 → R none σ) ∧ (fw_c a2 < fw_c ((6 : Nat) : Int) → (fw_c ((6 : Nat) : Int) ≤ fw_c a2 → R none σ) ∧ (fw_c a2 < fw_c ((6 : Nat) : Int) → (0 ≤ fw_c a2 ∧ fw_c a2 < ((6 : Nat) : Int)) ∧ ((0 ≤ fw_c a2 ∧ fw_c a2 < ((6 : Nat) : Int)) ∧ True ∧ (G 2 [some (2, 38, 0), some (2, 8, 0), some (0, 0, a2 + 1)] [] (ab_ups σ 8 (fw_c a2).toNat (fw_c (σ 38 (fw_c a2).toNat)))))))) : G 2 [some (2, 38, 0), some (2, 8, 0), some (0, 0, a2)] [] σ := fw_on hG [2] 200 h
abbrev fk_cp_39_9 : List fw_CR := []
abbrev st_cp_39_9 : fw_K → fw_KR → fw_K := fw_st vwCl nn_sh nn_kd fw_kv fw_wc (nn_KI1.map (fun x => x.1)) (nn_KJ1.map (fun x => x.1)) (nn_PF1.map (fun x => x.1)) (nn_PS1.map (fun x => x.1)) fk_cp_39_9 0 nn_dt50 3 4
theorem fs_cp_39_9_0 {G : fw_K} {R : fw_KR} (hG : fw_cls st_cp_39_9 R G) {σ : ab_SG} (h : G 2 [some (2, 39, 0), some (2, 9, 0), some (0, 0, 0)] [] σ) : G 0 [some (2, 39, 0), some (2, 9, 0), none] [] σ := fw_on hG [2] 200 h
theorem fs_cp_39_9_2 {G : fw_K} {R : fw_KR} (hG : fw_cls st_cp_39_9 R G) {a2 : Int} {σ : ab_SG} (h : (fw_c ((45 : Nat) : Int) ≤ fw_c a2 → R none σ) ∧ (fw_c a2 < fw_c ((45 : Nat) : Int) → (fw_c ((45 : Nat) : Int) ≤ fw_c a2 → R none σ) ∧ (fw_c a2 < fw_c ((45 : Nat) : Int) → (0 ≤ fw_c a2 ∧ fw_c a2 < ((45 : Nat) : Int)) ∧ ((0 ≤ fw_c a2 ∧ fw_c a2 < ((45 : Nat) : Int)) ∧ True ∧ (G 2 [some (2, 39, 0), some (2, 9, 0), some (0, 0, a2 + 1)] [] (ab_ups σ 9 (fw_c a2).toNat (fw_c (σ 39 (fw_c a2).toNat)))))))) : G 2 [some (2, 39, 0), some (2, 9, 0), some (0, 0, a2)] [] σ := fw_on hG [2] 200 h
abbrev fk_cp_40_10 : List fw_CR := []
abbrev st_cp_40_10 : fw_K → fw_KR → fw_K := fw_st vwCl nn_sh nn_kd fw_kv fw_wc (nn_KI1.map (fun x => x.1)) (nn_KJ1.map (fun x => x.1)) (nn_PF1.map (fun x => x.1)) (nn_PS1.map (fun x => x.1)) fk_cp_40_10 0 nn_dt50 3 4
theorem fs_cp_40_10_0 {G : fw_K} {R : fw_KR} (hG : fw_cls st_cp_40_10 R G) {σ : ab_SG} (h : G 2 [some (2, 40, 0), some (2, 10, 0), some (0, 0, 0)] [] σ) : G 0 [some (2, 40, 0), some (2, 10, 0), none] [] σ := fw_on hG [2] 200 h
theorem fs_cp_40_10_2 {G : fw_K} {R : fw_KR} (hG : fw_cls st_cp_40_10 R G) {a2 : Int} {σ : ab_SG} (h : (fw_c ((5 : Nat) : Int) ≤ fw_c a2 → R none σ) ∧ (fw_c a2 < fw_c ((5 : Nat) : Int) → (fw_c ((5 : Nat) : Int) ≤ fw_c a2 → R none σ) ∧ (fw_c a2 < fw_c ((5 : Nat) : Int) → (0 ≤ fw_c a2 ∧ fw_c a2 < ((5 : Nat) : Int)) ∧ ((0 ≤ fw_c a2 ∧ fw_c a2 < ((5 : Nat) : Int)) ∧ True ∧ (G 2 [some (2, 40, 0), some (2, 10, 0), some (0, 0, a2 + 1)] [] (ab_ups σ 10 (fw_c a2).toNat (fw_c (σ 40 (fw_c a2).toNat)))))))) : G 2 [some (2, 40, 0), some (2, 10, 0), some (0, 0, a2)] [] σ := fw_on hG [2] 200 h
abbrev fk_cp_45_15 : List fw_CR := []
abbrev st_cp_45_15 : fw_K → fw_KR → fw_K := fw_st vwCl nn_sh nn_kd fw_kv fw_wc (nn_KI1.map (fun x => x.1)) (nn_KJ1.map (fun x => x.1)) (nn_PF1.map (fun x => x.1)) (nn_PS1.map (fun x => x.1)) fk_cp_45_15 0 nn_dt50 3 4
theorem fs_cp_45_15_0 {G : fw_K} {R : fw_KR} (hG : fw_cls st_cp_45_15 R G) {σ : ab_SG} (h : G 2 [some (2, 45, 0), some (2, 15, 0), some (0, 0, 0)] [] σ) : G 0 [some (2, 45, 0), some (2, 15, 0), none] [] σ := fw_on hG [2] 200 h
theorem fs_cp_45_15_2 {G : fw_K} {R : fw_KR} (hG : fw_cls st_cp_45_15 R G) {a2 : Int} {σ : ab_SG} (h : (fw_c ((64 : Nat) : Int) ≤ fw_c a2 → R none σ) ∧ (fw_c a2 < fw_c ((64 : Nat) : Int) → (fw_c ((64 : Nat) : Int) ≤ fw_c a2 → R none σ) ∧ (fw_c a2 < fw_c ((64 : Nat) : Int) → (0 ≤ fw_c a2 ∧ fw_c a2 < ((64 : Nat) : Int)) ∧ ((0 ≤ fw_c a2 ∧ fw_c a2 < ((64 : Nat) : Int)) ∧ True ∧ (G 2 [some (2, 45, 0), some (2, 15, 0), some (0, 0, a2 + 1)] [] (ab_ups σ 15 (fw_c a2).toNat (fw_c (σ 45 (fw_c a2).toNat)))))))) : G 2 [some (2, 45, 0), some (2, 15, 0), some (0, 0, a2)] [] σ := fw_on hG [2] 200 h
abbrev fk_cp_46_16 : List fw_CR := []
abbrev st_cp_46_16 : fw_K → fw_KR → fw_K := fw_st vwCl nn_sh nn_kd fw_kv fw_wc (nn_KI1.map (fun x => x.1)) (nn_KJ1.map (fun x => x.1)) (nn_PF1.map (fun x => x.1)) (nn_PS1.map (fun x => x.1)) fk_cp_46_16 0 nn_dt50 3 4
theorem fs_cp_46_16_0 {G : fw_K} {R : fw_KR} (hG : fw_cls st_cp_46_16 R G) {σ : ab_SG} (h : G 2 [some (2, 46, 0), some (2, 16, 0), some (0, 0, 0)] [] σ) : G 0 [some (2, 46, 0), some (2, 16, 0), none] [] σ := fw_on hG [2] 200 h
theorem fs_cp_46_16_2 {G : fw_K} {R : fw_KR} (hG : fw_cls st_cp_46_16 R G) {a2 : Int} {σ : ab_SG} (h : (fw_c ((64 : Nat) : Int) ≤ fw_c a2 → R none σ) ∧ (fw_c a2 < fw_c ((64 : Nat) : Int) → (fw_c ((64 : Nat) : Int) ≤ fw_c a2 → R none σ) ∧ (fw_c a2 < fw_c ((64 : Nat) : Int) → (0 ≤ fw_c a2 ∧ fw_c a2 < ((64 : Nat) : Int)) ∧ ((0 ≤ fw_c a2 ∧ fw_c a2 < ((64 : Nat) : Int)) ∧ True ∧ (G 2 [some (2, 46, 0), some (2, 16, 0), some (0, 0, a2 + 1)] [] (ab_ups σ 16 (fw_c a2).toNat (fw_c (σ 46 (fw_c a2).toNat)))))))) : G 2 [some (2, 46, 0), some (2, 16, 0), some (0, 0, a2)] [] σ := fw_on hG [2] 200 h
abbrev fk_cl_57_11 : List fw_CR := []
abbrev st_cl_57_11 : fw_K → fw_KR → fw_K := fw_st vwCl nn_sh nn_kd fw_kv fw_wc (nn_KI1.map (fun x => x.1)) (nn_KJ1.map (fun x => x.1)) (nn_PF1.map (fun x => x.1)) (nn_PS1.map (fun x => x.1)) fk_cl_57_11 0 nn_dt51 3 4
theorem fs_cl_57_11_0 {G : fw_K} {R : fw_KR} (hG : fw_cls st_cl_57_11 R G) {σ : ab_SG} (h : G 2 [some (2, 57, 0), some (2, 11, 0), some (0, 0, 0)] [] σ) : G 0 [some (2, 57, 0), some (2, 11, 0), none] [] σ := fw_on hG [2] 200 h
theorem fs_cl_57_11_2 {G : fw_K} {R : fw_KR} (hG : fw_cls st_cl_57_11 R G) {a2 : Int} {σ : ab_SG} (h : (fw_c ((9 : Nat) : Int) ≤ fw_c a2 → R none σ) ∧ (fw_c a2 < fw_c ((9 : Nat) : Int) → (fw_c ((9 : Nat) : Int) ≤ fw_c a2 → R none σ) ∧ (fw_c a2 < fw_c ((9 : Nat) : Int) → (0 ≤ fw_c a2 ∧ fw_c a2 < ((9 : Nat) : Int)) ∧ ((0 ≤ fw_c a2 ∧ fw_c a2 < ((9 : Nat) : Int)) ∧ True ∧ (G 2 [some (2, 57, 0), some (2, 11, 0), some (0, 0, a2 + 1)] [] (ab_ups σ 11 (fw_c a2).toNat (fw_d (σ 57 (fw_c a2).toNat)))))))) : G 2 [some (2, 57, 0), some (2, 11, 0), some (0, 0, a2)] [] σ := fw_on hG [2] 200 h
abbrev fk_cl_58_12 : List fw_CR := []
abbrev st_cl_58_12 : fw_K → fw_KR → fw_K := fw_st vwCl nn_sh nn_kd fw_kv fw_wc (nn_KI1.map (fun x => x.1)) (nn_KJ1.map (fun x => x.1)) (nn_PF1.map (fun x => x.1)) (nn_PS1.map (fun x => x.1)) fk_cl_58_12 0 nn_dt51 3 4
theorem fs_cl_58_12_0 {G : fw_K} {R : fw_KR} (hG : fw_cls st_cl_58_12 R G) {σ : ab_SG} (h : G 2 [some (2, 58, 0), some (2, 12, 0), some (0, 0, 0)] [] σ) : G 0 [some (2, 58, 0), some (2, 12, 0), none] [] σ := fw_on hG [2] 200 h
theorem fs_cl_58_12_2 {G : fw_K} {R : fw_KR} (hG : fw_cls st_cl_58_12 R G) {a2 : Int} {σ : ab_SG} (h : (fw_c ((6 : Nat) : Int) ≤ fw_c a2 → R none σ) ∧ (fw_c a2 < fw_c ((6 : Nat) : Int) → (fw_c ((6 : Nat) : Int) ≤ fw_c a2 → R none σ) ∧ (fw_c a2 < fw_c ((6 : Nat) : Int) → (0 ≤ fw_c a2 ∧ fw_c a2 < ((6 : Nat) : Int)) ∧ ((0 ≤ fw_c a2 ∧ fw_c a2 < ((6 : Nat) : Int)) ∧ True ∧ (G 2 [some (2, 58, 0), some (2, 12, 0), some (0, 0, a2 + 1)] [] (ab_ups σ 12 (fw_c a2).toNat (fw_d (σ 58 (fw_c a2).toNat)))))))) : G 2 [some (2, 58, 0), some (2, 12, 0), some (0, 0, a2)] [] σ := fw_on hG [2] 200 h
abbrev fk_cl_59_13 : List fw_CR := []
abbrev st_cl_59_13 : fw_K → fw_KR → fw_K := fw_st vwCl nn_sh nn_kd fw_kv fw_wc (nn_KI1.map (fun x => x.1)) (nn_KJ1.map (fun x => x.1)) (nn_PF1.map (fun x => x.1)) (nn_PS1.map (fun x => x.1)) fk_cl_59_13 0 nn_dt51 3 4
theorem fs_cl_59_13_0 {G : fw_K} {R : fw_KR} (hG : fw_cls st_cl_59_13 R G) {σ : ab_SG} (h : G 2 [some (2, 59, 0), some (2, 13, 0), some (0, 0, 0)] [] σ) : G 0 [some (2, 59, 0), some (2, 13, 0), none] [] σ := fw_on hG [2] 200 h
theorem fs_cl_59_13_2 {G : fw_K} {R : fw_KR} (hG : fw_cls st_cl_59_13 R G) {a2 : Int} {σ : ab_SG} (h : (fw_c ((5 : Nat) : Int) ≤ fw_c a2 → R none σ) ∧ (fw_c a2 < fw_c ((5 : Nat) : Int) → (fw_c ((5 : Nat) : Int) ≤ fw_c a2 → R none σ) ∧ (fw_c a2 < fw_c ((5 : Nat) : Int) → (0 ≤ fw_c a2 ∧ fw_c a2 < ((5 : Nat) : Int)) ∧ ((0 ≤ fw_c a2 ∧ fw_c a2 < ((5 : Nat) : Int)) ∧ True ∧ (G 2 [some (2, 59, 0), some (2, 13, 0), some (0, 0, a2 + 1)] [] (ab_ups σ 13 (fw_c a2).toNat (fw_d (σ 59 (fw_c a2).toNat)))))))) : G 2 [some (2, 59, 0), some (2, 13, 0), some (0, 0, a2)] [] σ := fw_on hG [2] 200 h
abbrev fk_cl_11_26 : List fw_CR := []
abbrev st_cl_11_26 : fw_K → fw_KR → fw_K := fw_st vwCl nn_sh nn_kd fw_kv fw_wc (nn_KI1.map (fun x => x.1)) (nn_KJ1.map (fun x => x.1)) (nn_PF1.map (fun x => x.1)) (nn_PS1.map (fun x => x.1)) fk_cl_11_26 0 nn_dt51 3 4
theorem fs_cl_11_26_0 {G : fw_K} {R : fw_KR} (hG : fw_cls st_cl_11_26 R G) {σ : ab_SG} (h : G 2 [some (2, 11, 0), some (2, 26, 0), some (0, 0, 0)] [] σ) : G 0 [some (2, 11, 0), some (2, 26, 0), none] [] σ := fw_on hG [2] 200 h
theorem fs_cl_11_26_2 {G : fw_K} {R : fw_KR} (hG : fw_cls st_cl_11_26 R G) {a2 : Int} {σ : ab_SG} (h : (fw_c ((9 : Nat) : Int) ≤ fw_c a2 → R none σ) ∧ (fw_c a2 < fw_c ((9 : Nat) : Int) → (fw_c ((9 : Nat) : Int) ≤ fw_c a2 → R none σ) ∧ (fw_c a2 < fw_c ((9 : Nat) : Int) → (0 ≤ fw_c a2 ∧ fw_c a2 < ((9 : Nat) : Int)) ∧ ((0 ≤ fw_c a2 ∧ fw_c a2 < ((9 : Nat) : Int)) ∧ True ∧ (G 2 [some (2, 11, 0), some (2, 26, 0), some (0, 0, a2 + 1)] [] (ab_ups σ 26 (fw_c a2).toNat (fw_d (σ 11 (fw_c a2).toNat)))))))) : G 2 [some (2, 11, 0), some (2, 26, 0), some (0, 0, a2)] [] σ := fw_on hG [2] 200 h
abbrev fk_cl_12_27 : List fw_CR := []
abbrev st_cl_12_27 : fw_K → fw_KR → fw_K := fw_st vwCl nn_sh nn_kd fw_kv fw_wc (nn_KI1.map (fun x => x.1)) (nn_KJ1.map (fun x => x.1)) (nn_PF1.map (fun x => x.1)) (nn_PS1.map (fun x => x.1)) fk_cl_12_27 0 nn_dt51 3 4
theorem fs_cl_12_27_0 {G : fw_K} {R : fw_KR} (hG : fw_cls st_cl_12_27 R G) {σ : ab_SG} (h : G 2 [some (2, 12, 0), some (2, 27, 0), some (0, 0, 0)] [] σ) : G 0 [some (2, 12, 0), some (2, 27, 0), none] [] σ := fw_on hG [2] 200 h
theorem fs_cl_12_27_2 {G : fw_K} {R : fw_KR} (hG : fw_cls st_cl_12_27 R G) {a2 : Int} {σ : ab_SG} (h : (fw_c ((6 : Nat) : Int) ≤ fw_c a2 → R none σ) ∧ (fw_c a2 < fw_c ((6 : Nat) : Int) → (fw_c ((6 : Nat) : Int) ≤ fw_c a2 → R none σ) ∧ (fw_c a2 < fw_c ((6 : Nat) : Int) → (0 ≤ fw_c a2 ∧ fw_c a2 < ((6 : Nat) : Int)) ∧ ((0 ≤ fw_c a2 ∧ fw_c a2 < ((6 : Nat) : Int)) ∧ True ∧ (G 2 [some (2, 12, 0), some (2, 27, 0), some (0, 0, a2 + 1)] [] (ab_ups σ 27 (fw_c a2).toNat (fw_d (σ 12 (fw_c a2).toNat)))))))) : G 2 [some (2, 12, 0), some (2, 27, 0), some (0, 0, a2)] [] σ := fw_on hG [2] 200 h
abbrev fk_cl_13_28 : List fw_CR := []
abbrev st_cl_13_28 : fw_K → fw_KR → fw_K := fw_st vwCl nn_sh nn_kd fw_kv fw_wc (nn_KI1.map (fun x => x.1)) (nn_KJ1.map (fun x => x.1)) (nn_PF1.map (fun x => x.1)) (nn_PS1.map (fun x => x.1)) fk_cl_13_28 0 nn_dt51 3 4
theorem fs_cl_13_28_0 {G : fw_K} {R : fw_KR} (hG : fw_cls st_cl_13_28 R G) {σ : ab_SG} (h : G 2 [some (2, 13, 0), some (2, 28, 0), some (0, 0, 0)] [] σ) : G 0 [some (2, 13, 0), some (2, 28, 0), none] [] σ := fw_on hG [2] 200 h
theorem fs_cl_13_28_2 {G : fw_K} {R : fw_KR} (hG : fw_cls st_cl_13_28 R G) {a2 : Int} {σ : ab_SG} (h : (fw_c ((5 : Nat) : Int) ≤ fw_c a2 → R none σ) ∧ (fw_c a2 < fw_c ((5 : Nat) : Int) → (fw_c ((5 : Nat) : Int) ≤ fw_c a2 → R none σ) ∧ (fw_c a2 < fw_c ((5 : Nat) : Int) → (0 ≤ fw_c a2 ∧ fw_c a2 < ((5 : Nat) : Int)) ∧ ((0 ≤ fw_c a2 ∧ fw_c a2 < ((5 : Nat) : Int)) ∧ True ∧ (G 2 [some (2, 13, 0), some (2, 28, 0), some (0, 0, a2 + 1)] [] (ab_ups σ 28 (fw_c a2).toNat (fw_d (σ 13 (fw_c a2).toNat)))))))) : G 2 [some (2, 13, 0), some (2, 28, 0), some (0, 0, a2)] [] σ := fw_on hG [2] 200 h
abbrev fk_cl_11_41 : List fw_CR := []
abbrev st_cl_11_41 : fw_K → fw_KR → fw_K := fw_st vwCl nn_sh nn_kd fw_kv fw_wc (nn_KI1.map (fun x => x.1)) (nn_KJ1.map (fun x => x.1)) (nn_PF1.map (fun x => x.1)) (nn_PS1.map (fun x => x.1)) fk_cl_11_41 0 nn_dt51 3 4
theorem fs_cl_11_41_0 {G : fw_K} {R : fw_KR} (hG : fw_cls st_cl_11_41 R G) {σ : ab_SG} (h : G 2 [some (2, 11, 0), some (2, 41, 0), some (0, 0, 0)] [] σ) : G 0 [some (2, 11, 0), some (2, 41, 0), none] [] σ := fw_on hG [2] 200 h
theorem fs_cl_11_41_2 {G : fw_K} {R : fw_KR} (hG : fw_cls st_cl_11_41 R G) {a2 : Int} {σ : ab_SG} (h : (fw_c ((9 : Nat) : Int) ≤ fw_c a2 → R none σ) ∧ (fw_c a2 < fw_c ((9 : Nat) : Int) → (fw_c ((9 : Nat) : Int) ≤ fw_c a2 → R none σ) ∧ (fw_c a2 < fw_c ((9 : Nat) : Int) → (0 ≤ fw_c a2 ∧ fw_c a2 < ((9 : Nat) : Int)) ∧ ((0 ≤ fw_c a2 ∧ fw_c a2 < ((9 : Nat) : Int)) ∧ True ∧ (G 2 [some (2, 11, 0), some (2, 41, 0), some (0, 0, a2 + 1)] [] (ab_ups σ 41 (fw_c a2).toNat (fw_d (σ 11 (fw_c a2).toNat)))))))) : G 2 [some (2, 11, 0), some (2, 41, 0), some (0, 0, a2)] [] σ := fw_on hG [2] 200 h
abbrev fk_cl_12_42 : List fw_CR := []
abbrev st_cl_12_42 : fw_K → fw_KR → fw_K := fw_st vwCl nn_sh nn_kd fw_kv fw_wc (nn_KI1.map (fun x => x.1)) (nn_KJ1.map (fun x => x.1)) (nn_PF1.map (fun x => x.1)) (nn_PS1.map (fun x => x.1)) fk_cl_12_42 0 nn_dt51 3 4
theorem fs_cl_12_42_0 {G : fw_K} {R : fw_KR} (hG : fw_cls st_cl_12_42 R G) {σ : ab_SG} (h : G 2 [some (2, 12, 0), some (2, 42, 0), some (0, 0, 0)] [] σ) : G 0 [some (2, 12, 0), some (2, 42, 0), none] [] σ := fw_on hG [2] 200 h
theorem fs_cl_12_42_2 {G : fw_K} {R : fw_KR} (hG : fw_cls st_cl_12_42 R G) {a2 : Int} {σ : ab_SG} (h : (fw_c ((6 : Nat) : Int) ≤ fw_c a2 → R none σ) ∧ (fw_c a2 < fw_c ((6 : Nat) : Int) → (fw_c ((6 : Nat) : Int) ≤ fw_c a2 → R none σ) ∧ (fw_c a2 < fw_c ((6 : Nat) : Int) → (0 ≤ fw_c a2 ∧ fw_c a2 < ((6 : Nat) : Int)) ∧ ((0 ≤ fw_c a2 ∧ fw_c a2 < ((6 : Nat) : Int)) ∧ True ∧ (G 2 [some (2, 12, 0), some (2, 42, 0), some (0, 0, a2 + 1)] [] (ab_ups σ 42 (fw_c a2).toNat (fw_d (σ 12 (fw_c a2).toNat)))))))) : G 2 [some (2, 12, 0), some (2, 42, 0), some (0, 0, a2)] [] σ := fw_on hG [2] 200 h
abbrev fk_cl_13_43 : List fw_CR := []
abbrev st_cl_13_43 : fw_K → fw_KR → fw_K := fw_st vwCl nn_sh nn_kd fw_kv fw_wc (nn_KI1.map (fun x => x.1)) (nn_KJ1.map (fun x => x.1)) (nn_PF1.map (fun x => x.1)) (nn_PS1.map (fun x => x.1)) fk_cl_13_43 0 nn_dt51 3 4
theorem fs_cl_13_43_0 {G : fw_K} {R : fw_KR} (hG : fw_cls st_cl_13_43 R G) {σ : ab_SG} (h : G 2 [some (2, 13, 0), some (2, 43, 0), some (0, 0, 0)] [] σ) : G 0 [some (2, 13, 0), some (2, 43, 0), none] [] σ := fw_on hG [2] 200 h
theorem fs_cl_13_43_2 {G : fw_K} {R : fw_KR} (hG : fw_cls st_cl_13_43 R G) {a2 : Int} {σ : ab_SG} (h : (fw_c ((5 : Nat) : Int) ≤ fw_c a2 → R none σ) ∧ (fw_c a2 < fw_c ((5 : Nat) : Int) → (fw_c ((5 : Nat) : Int) ≤ fw_c a2 → R none σ) ∧ (fw_c a2 < fw_c ((5 : Nat) : Int) → (0 ≤ fw_c a2 ∧ fw_c a2 < ((5 : Nat) : Int)) ∧ ((0 ≤ fw_c a2 ∧ fw_c a2 < ((5 : Nat) : Int)) ∧ True ∧ (G 2 [some (2, 13, 0), some (2, 43, 0), some (0, 0, a2 + 1)] [] (ab_ups σ 43 (fw_c a2).toNat (fw_d (σ 13 (fw_c a2).toNat)))))))) : G 2 [some (2, 13, 0), some (2, 43, 0), some (0, 0, a2)] [] σ := fw_on hG [2] 200 h
abbrev fk_cl_26_11 : List fw_CR := []
abbrev st_cl_26_11 : fw_K → fw_KR → fw_K := fw_st vwCl nn_sh nn_kd fw_kv fw_wc (nn_KI1.map (fun x => x.1)) (nn_KJ1.map (fun x => x.1)) (nn_PF1.map (fun x => x.1)) (nn_PS1.map (fun x => x.1)) fk_cl_26_11 0 nn_dt51 3 4
theorem fs_cl_26_11_0 {G : fw_K} {R : fw_KR} (hG : fw_cls st_cl_26_11 R G) {σ : ab_SG} (h : G 2 [some (2, 26, 0), some (2, 11, 0), some (0, 0, 0)] [] σ) : G 0 [some (2, 26, 0), some (2, 11, 0), none] [] σ := fw_on hG [2] 200 h
theorem fs_cl_26_11_2 {G : fw_K} {R : fw_KR} (hG : fw_cls st_cl_26_11 R G) {a2 : Int} {σ : ab_SG} (h : (fw_c ((9 : Nat) : Int) ≤ fw_c a2 → R none σ) ∧ (fw_c a2 < fw_c ((9 : Nat) : Int) → (fw_c ((9 : Nat) : Int) ≤ fw_c a2 → R none σ) ∧ (fw_c a2 < fw_c ((9 : Nat) : Int) → (0 ≤ fw_c a2 ∧ fw_c a2 < ((9 : Nat) : Int)) ∧ ((0 ≤ fw_c a2 ∧ fw_c a2 < ((9 : Nat) : Int)) ∧ True ∧ (G 2 [some (2, 26, 0), some (2, 11, 0), some (0, 0, a2 + 1)] [] (ab_ups σ 11 (fw_c a2).toNat (fw_d (σ 26 (fw_c a2).toNat)))))))) : G 2 [some (2, 26, 0), some (2, 11, 0), some (0, 0, a2)] [] σ := fw_on hG [2] 200 h
abbrev fk_cl_27_12 : List fw_CR := []
abbrev st_cl_27_12 : fw_K → fw_KR → fw_K := fw_st vwCl nn_sh nn_kd fw_kv fw_wc (nn_KI1.map (fun x => x.1)) (nn_KJ1.map (fun x => x.1)) (nn_PF1.map (fun x => x.1)) (nn_PS1.map (fun x => x.1)) fk_cl_27_12 0 nn_dt51 3 4
theorem fs_cl_27_12_0 {G : fw_K} {R : fw_KR} (hG : fw_cls st_cl_27_12 R G) {σ : ab_SG} (h : G 2 [some (2, 27, 0), some (2, 12, 0), some (0, 0, 0)] [] σ) : G 0 [some (2, 27, 0), some (2, 12, 0), none] [] σ := fw_on hG [2] 200 h
theorem fs_cl_27_12_2 {G : fw_K} {R : fw_KR} (hG : fw_cls st_cl_27_12 R G) {a2 : Int} {σ : ab_SG} (h : (fw_c ((6 : Nat) : Int) ≤ fw_c a2 → R none σ) ∧ (fw_c a2 < fw_c ((6 : Nat) : Int) → (fw_c ((6 : Nat) : Int) ≤ fw_c a2 → R none σ) ∧ (fw_c a2 < fw_c ((6 : Nat) : Int) → (0 ≤ fw_c a2 ∧ fw_c a2 < ((6 : Nat) : Int)) ∧ ((0 ≤ fw_c a2 ∧ fw_c a2 < ((6 : Nat) : Int)) ∧ True ∧ (G 2 [some (2, 27, 0), some (2, 12, 0), some (0, 0, a2 + 1)] [] (ab_ups σ 12 (fw_c a2).toNat (fw_d (σ 27 (fw_c a2).toNat)))))))) : G 2 [some (2, 27, 0), some (2, 12, 0), some (0, 0, a2)] [] σ := fw_on hG [2] 200 h
abbrev fk_cl_28_13 : List fw_CR := []
abbrev st_cl_28_13 : fw_K → fw_KR → fw_K := fw_st vwCl nn_sh nn_kd fw_kv fw_wc (nn_KI1.map (fun x => x.1)) (nn_KJ1.map (fun x => x.1)) (nn_PF1.map (fun x => x.1)) (nn_PS1.map (fun x => x.1)) fk_cl_28_13 0 nn_dt51 3 4
theorem fs_cl_28_13_0 {G : fw_K} {R : fw_KR} (hG : fw_cls st_cl_28_13 R G) {σ : ab_SG} (h : G 2 [some (2, 28, 0), some (2, 13, 0), some (0, 0, 0)] [] σ) : G 0 [some (2, 28, 0), some (2, 13, 0), none] [] σ := fw_on hG [2] 200 h
theorem fs_cl_28_13_2 {G : fw_K} {R : fw_KR} (hG : fw_cls st_cl_28_13 R G) {a2 : Int} {σ : ab_SG} (h : (fw_c ((5 : Nat) : Int) ≤ fw_c a2 → R none σ) ∧ (fw_c a2 < fw_c ((5 : Nat) : Int) → (fw_c ((5 : Nat) : Int) ≤ fw_c a2 → R none σ) ∧ (fw_c a2 < fw_c ((5 : Nat) : Int) → (0 ≤ fw_c a2 ∧ fw_c a2 < ((5 : Nat) : Int)) ∧ ((0 ≤ fw_c a2 ∧ fw_c a2 < ((5 : Nat) : Int)) ∧ True ∧ (G 2 [some (2, 28, 0), some (2, 13, 0), some (0, 0, a2 + 1)] [] (ab_ups σ 13 (fw_c a2).toNat (fw_d (σ 28 (fw_c a2).toNat)))))))) : G 2 [some (2, 28, 0), some (2, 13, 0), some (0, 0, a2)] [] σ := fw_on hG [2] 200 h
abbrev fk_cl_41_11 : List fw_CR := []
abbrev st_cl_41_11 : fw_K → fw_KR → fw_K := fw_st vwCl nn_sh nn_kd fw_kv fw_wc (nn_KI1.map (fun x => x.1)) (nn_KJ1.map (fun x => x.1)) (nn_PF1.map (fun x => x.1)) (nn_PS1.map (fun x => x.1)) fk_cl_41_11 0 nn_dt51 3 4
theorem fs_cl_41_11_0 {G : fw_K} {R : fw_KR} (hG : fw_cls st_cl_41_11 R G) {σ : ab_SG} (h : G 2 [some (2, 41, 0), some (2, 11, 0), some (0, 0, 0)] [] σ) : G 0 [some (2, 41, 0), some (2, 11, 0), none] [] σ := fw_on hG [2] 200 h
theorem fs_cl_41_11_2 {G : fw_K} {R : fw_KR} (hG : fw_cls st_cl_41_11 R G) {a2 : Int} {σ : ab_SG} (h : (fw_c ((9 : Nat) : Int) ≤ fw_c a2 → R none σ) ∧ (fw_c a2 < fw_c ((9 : Nat) : Int) → (fw_c ((9 : Nat) : Int) ≤ fw_c a2 → R none σ) ∧ (fw_c a2 < fw_c ((9 : Nat) : Int) → (0 ≤ fw_c a2 ∧ fw_c a2 < ((9 : Nat) : Int)) ∧ ((0 ≤ fw_c a2 ∧ fw_c a2 < ((9 : Nat) : Int)) ∧ True ∧ (G 2 [some (2, 41, 0), some (2, 11, 0), some (0, 0, a2 + 1)] [] (ab_ups σ 11 (fw_c a2).toNat (fw_d (σ 41 (fw_c a2).toNat)))))))) : G 2 [some (2, 41, 0), some (2, 11, 0), some (0, 0, a2)] [] σ := fw_on hG [2] 200 h
abbrev fk_cl_42_12 : List fw_CR := []
abbrev st_cl_42_12 : fw_K → fw_KR → fw_K := fw_st vwCl nn_sh nn_kd fw_kv fw_wc (nn_KI1.map (fun x => x.1)) (nn_KJ1.map (fun x => x.1)) (nn_PF1.map (fun x => x.1)) (nn_PS1.map (fun x => x.1)) fk_cl_42_12 0 nn_dt51 3 4
theorem fs_cl_42_12_0 {G : fw_K} {R : fw_KR} (hG : fw_cls st_cl_42_12 R G) {σ : ab_SG} (h : G 2 [some (2, 42, 0), some (2, 12, 0), some (0, 0, 0)] [] σ) : G 0 [some (2, 42, 0), some (2, 12, 0), none] [] σ := fw_on hG [2] 200 h
theorem fs_cl_42_12_2 {G : fw_K} {R : fw_KR} (hG : fw_cls st_cl_42_12 R G) {a2 : Int} {σ : ab_SG} (h : (fw_c ((6 : Nat) : Int) ≤ fw_c a2 → R none σ) ∧ (fw_c a2 < fw_c ((6 : Nat) : Int) → (fw_c ((6 : Nat) : Int) ≤ fw_c a2 → R none σ) ∧ (fw_c a2 < fw_c ((6 : Nat) : Int) → (0 ≤ fw_c a2 ∧ fw_c a2 < ((6 : Nat) : Int)) ∧ ((0 ≤ fw_c a2 ∧ fw_c a2 < ((6 : Nat) : Int)) ∧ True ∧ (G 2 [some (2, 42, 0), some (2, 12, 0), some (0, 0, a2 + 1)] [] (ab_ups σ 12 (fw_c a2).toNat (fw_d (σ 42 (fw_c a2).toNat)))))))) : G 2 [some (2, 42, 0), some (2, 12, 0), some (0, 0, a2)] [] σ := fw_on hG [2] 200 h
abbrev fk_cl_43_13 : List fw_CR := []
abbrev st_cl_43_13 : fw_K → fw_KR → fw_K := fw_st vwCl nn_sh nn_kd fw_kv fw_wc (nn_KI1.map (fun x => x.1)) (nn_KJ1.map (fun x => x.1)) (nn_PF1.map (fun x => x.1)) (nn_PS1.map (fun x => x.1)) fk_cl_43_13 0 nn_dt51 3 4
theorem fs_cl_43_13_0 {G : fw_K} {R : fw_KR} (hG : fw_cls st_cl_43_13 R G) {σ : ab_SG} (h : G 2 [some (2, 43, 0), some (2, 13, 0), some (0, 0, 0)] [] σ) : G 0 [some (2, 43, 0), some (2, 13, 0), none] [] σ := fw_on hG [2] 200 h
theorem fs_cl_43_13_2 {G : fw_K} {R : fw_KR} (hG : fw_cls st_cl_43_13 R G) {a2 : Int} {σ : ab_SG} (h : (fw_c ((5 : Nat) : Int) ≤ fw_c a2 → R none σ) ∧ (fw_c a2 < fw_c ((5 : Nat) : Int) → (fw_c ((5 : Nat) : Int) ≤ fw_c a2 → R none σ) ∧ (fw_c a2 < fw_c ((5 : Nat) : Int) → (0 ≤ fw_c a2 ∧ fw_c a2 < ((5 : Nat) : Int)) ∧ ((0 ≤ fw_c a2 ∧ fw_c a2 < ((5 : Nat) : Int)) ∧ True ∧ (G 2 [some (2, 43, 0), some (2, 13, 0), some (0, 0, a2 + 1)] [] (ab_ups σ 13 (fw_c a2).toNat (fw_d (σ 43 (fw_c a2).toNat)))))))) : G 2 [some (2, 43, 0), some (2, 13, 0), some (0, 0, a2)] [] σ := fw_on hG [2] 200 h
abbrev fk_scopy_49_3 : List fw_CR := [(28, 2, false, 0, 0, sp_cp)]
abbrev st_scopy_49_3 : fw_K → fw_KR → fw_K := fw_st vwCl nn_sh nn_kd fw_kv fw_wc (nn_KI5.map (fun x => x.1)) (nn_KJ5.map (fun x => x.1)) (nn_PF5.map (fun x => x.1)) (nn_PS5.map (fun x => x.1)) fk_scopy_49_3 1 nn_dt52 2 4
theorem fs_scopy_49_3_0 {G : fw_K} {R : fw_KR} (hG : fw_cls st_scopy_49_3 R G) {σ : ab_SG} (h : sp_cp [(2, 61, 0), (2, 15, 0)] σ (fun rv σ2 => G 11 [some (2, 14, 0), some (2, 60, 0)] (rv.toList ++ []) σ2)) : G 0 [some (2, 14, 0), some (2, 60, 0)] [] σ := fw_on hG [11, 22] 200 h
theorem fs_scopy_49_3_11 {G : fw_K} {R : fw_KR} (hG : fw_cls st_scopy_49_3 R G) {σ : ab_SG} (h : sp_cp [(2, 62, 0), (2, 16, 0)] σ (fun rv σ2 => G 22 [some (2, 14, 0), some (2, 60, 0)] (rv.toList ++ []) σ2)) : G 11 [some (2, 14, 0), some (2, 60, 0)] [] σ := fw_on hG [11, 22] 200 h
theorem fs_scopy_49_3_22 {G : fw_K} {R : fw_KR} (hG : fw_cls st_scopy_49_3 R G) {σ : ab_SG} (h : R none (ab_ups (ab_ups σ 14 3 (fw_c (σ 60 3))) 14 4 (fw_c (σ 60 4)))) : G 22 [some (2, 14, 0), some (2, 60, 0)] [] σ := fw_on hG [11, 22] 200 h
abbrev fk_scopy_3_18 : List fw_CR := [(28, 2, false, 0, 0, sp_cp)]
abbrev st_scopy_3_18 : fw_K → fw_KR → fw_K := fw_st vwCl nn_sh nn_kd fw_kv fw_wc (nn_KI5.map (fun x => x.1)) (nn_KJ5.map (fun x => x.1)) (nn_PF5.map (fun x => x.1)) (nn_PS5.map (fun x => x.1)) fk_scopy_3_18 1 nn_dt52 2 4
theorem fs_scopy_3_18_0 {G : fw_K} {R : fw_KR} (hG : fw_cls st_scopy_3_18 R G) {σ : ab_SG} (h : sp_cp [(2, 15, 0), (2, 30, 0)] σ (fun rv σ2 => G 11 [some (2, 29, 0), some (2, 14, 0)] (rv.toList ++ []) σ2)) : G 0 [some (2, 29, 0), some (2, 14, 0)] [] σ := fw_on hG [11, 22] 200 h
theorem fs_scopy_3_18_11 {G : fw_K} {R : fw_KR} (hG : fw_cls st_scopy_3_18 R G) {σ : ab_SG} (h : sp_cp [(2, 16, 0), (2, 31, 0)] σ (fun rv σ2 => G 22 [some (2, 29, 0), some (2, 14, 0)] (rv.toList ++ []) σ2)) : G 11 [some (2, 29, 0), some (2, 14, 0)] [] σ := fw_on hG [11, 22] 200 h
theorem fs_scopy_3_18_22 {G : fw_K} {R : fw_KR} (hG : fw_cls st_scopy_3_18 R G) {σ : ab_SG} (h : R none (ab_ups (ab_ups σ 29 3 (fw_c (σ 14 3))) 29 4 (fw_c (σ 14 4)))) : G 22 [some (2, 29, 0), some (2, 14, 0)] [] σ := fw_on hG [11, 22] 200 h
abbrev fk_scopy_3_33 : List fw_CR := [(28, 2, false, 0, 0, sp_cp)]
abbrev st_scopy_3_33 : fw_K → fw_KR → fw_K := fw_st vwCl nn_sh nn_kd fw_kv fw_wc (nn_KI5.map (fun x => x.1)) (nn_KJ5.map (fun x => x.1)) (nn_PF5.map (fun x => x.1)) (nn_PS5.map (fun x => x.1)) fk_scopy_3_33 1 nn_dt52 2 4
theorem fs_scopy_3_33_0 {G : fw_K} {R : fw_KR} (hG : fw_cls st_scopy_3_33 R G) {σ : ab_SG} (h : sp_cp [(2, 15, 0), (2, 45, 0)] σ (fun rv σ2 => G 11 [some (2, 44, 0), some (2, 14, 0)] (rv.toList ++ []) σ2)) : G 0 [some (2, 44, 0), some (2, 14, 0)] [] σ := fw_on hG [11, 22] 200 h
theorem fs_scopy_3_33_11 {G : fw_K} {R : fw_KR} (hG : fw_cls st_scopy_3_33 R G) {σ : ab_SG} (h : sp_cp [(2, 16, 0), (2, 46, 0)] σ (fun rv σ2 => G 22 [some (2, 44, 0), some (2, 14, 0)] (rv.toList ++ []) σ2)) : G 11 [some (2, 44, 0), some (2, 14, 0)] [] σ := fw_on hG [11, 22] 200 h
theorem fs_scopy_3_33_22 {G : fw_K} {R : fw_KR} (hG : fw_cls st_scopy_3_33 R G) {σ : ab_SG} (h : R none (ab_ups (ab_ups σ 44 3 (fw_c (σ 14 3))) 44 4 (fw_c (σ 14 4)))) : G 22 [some (2, 44, 0), some (2, 14, 0)] [] σ := fw_on hG [11, 22] 200 h
abbrev fk_scopy_18_3 : List fw_CR := [(28, 2, false, 0, 0, sp_cp)]
abbrev st_scopy_18_3 : fw_K → fw_KR → fw_K := fw_st vwCl nn_sh nn_kd fw_kv fw_wc (nn_KI5.map (fun x => x.1)) (nn_KJ5.map (fun x => x.1)) (nn_PF5.map (fun x => x.1)) (nn_PS5.map (fun x => x.1)) fk_scopy_18_3 1 nn_dt52 2 4
theorem fs_scopy_18_3_0 {G : fw_K} {R : fw_KR} (hG : fw_cls st_scopy_18_3 R G) {σ : ab_SG} (h : sp_cp [(2, 30, 0), (2, 15, 0)] σ (fun rv σ2 => G 11 [some (2, 14, 0), some (2, 29, 0)] (rv.toList ++ []) σ2)) : G 0 [some (2, 14, 0), some (2, 29, 0)] [] σ := fw_on hG [11, 22] 200 h
theorem fs_scopy_18_3_11 {G : fw_K} {R : fw_KR} (hG : fw_cls st_scopy_18_3 R G) {σ : ab_SG} (h : sp_cp [(2, 31, 0), (2, 16, 0)] σ (fun rv σ2 => G 22 [some (2, 14, 0), some (2, 29, 0)] (rv.toList ++ []) σ2)) : G 11 [some (2, 14, 0), some (2, 29, 0)] [] σ := fw_on hG [11, 22] 200 h
theorem fs_scopy_18_3_22 {G : fw_K} {R : fw_KR} (hG : fw_cls st_scopy_18_3 R G) {σ : ab_SG} (h : R none (ab_ups (ab_ups σ 14 3 (fw_c (σ 29 3))) 14 4 (fw_c (σ 29 4)))) : G 22 [some (2, 14, 0), some (2, 29, 0)] [] σ := fw_on hG [11, 22] 200 h
abbrev fk_scopy_33_3 : List fw_CR := [(28, 2, false, 0, 0, sp_cp)]
abbrev st_scopy_33_3 : fw_K → fw_KR → fw_K := fw_st vwCl nn_sh nn_kd fw_kv fw_wc (nn_KI5.map (fun x => x.1)) (nn_KJ5.map (fun x => x.1)) (nn_PF5.map (fun x => x.1)) (nn_PS5.map (fun x => x.1)) fk_scopy_33_3 1 nn_dt52 2 4
theorem fs_scopy_33_3_0 {G : fw_K} {R : fw_KR} (hG : fw_cls st_scopy_33_3 R G) {σ : ab_SG} (h : sp_cp [(2, 45, 0), (2, 15, 0)] σ (fun rv σ2 => G 11 [some (2, 14, 0), some (2, 44, 0)] (rv.toList ++ []) σ2)) : G 0 [some (2, 14, 0), some (2, 44, 0)] [] σ := fw_on hG [11, 22] 200 h
theorem fs_scopy_33_3_11 {G : fw_K} {R : fw_KR} (hG : fw_cls st_scopy_33_3 R G) {σ : ab_SG} (h : sp_cp [(2, 46, 0), (2, 16, 0)] σ (fun rv σ2 => G 22 [some (2, 14, 0), some (2, 44, 0)] (rv.toList ++ []) σ2)) : G 11 [some (2, 14, 0), some (2, 44, 0)] [] σ := fw_on hG [11, 22] 200 h
theorem fs_scopy_33_3_22 {G : fw_K} {R : fw_KR} (hG : fw_cls st_scopy_33_3 R G) {σ : ab_SG} (h : R none (ab_ups (ab_ups σ 14 3 (fw_c (σ 44 3))) 14 4 (fw_c (σ 44 4)))) : G 22 [some (2, 14, 0), some (2, 44, 0)] [] σ := fw_on hG [11, 22] 200 h
abbrev fk_copy_49_3 : List fw_CR := [(70, 2, false, 0, 0, sp_cp), (74, 2, false, 0, 0, sp_cl), (77, 1, true, 5, 1, sp_scopy)]
abbrev st_copy_49_3 : fw_K → fw_KR → fw_K := fw_st vwCl nn_sh nn_kd fw_kv fw_wc (nn_KI6.map (fun x => x.1)) (nn_KJ6.map (fun x => x.1)) (nn_PF6.map (fun x => x.1)) (nn_PS6.map (fun x => x.1)) fk_copy_49_3 2 nn_dt49 2 4
theorem fs_copy_49_3_0 {G : fw_K} {R : fw_KR} (hG : fw_cls st_copy_49_3 R G) {σ : ab_SG} (h : sp_cp [(2, 50, 0), (2, 4, 0)] σ (fun rv σ2 => G 11 [some (2, 3, 0), some (2, 49, 0)] (rv.toList ++ []) σ2)) : G 0 [some (2, 3, 0), some (2, 49, 0)] [] σ := fw_on hG [11, 22, 33, 44, 55, 66, 77, 88, 99, 110, 121] 200 h
theorem fs_copy_49_3_11 {G : fw_K} {R : fw_KR} (hG : fw_cls st_copy_49_3 R G) {σ : ab_SG} (h : sp_cp [(2, 51, 0), (2, 5, 0)] σ (fun rv σ2 => G 22 [some (2, 3, 0), some (2, 49, 0)] (rv.toList ++ []) σ2)) : G 11 [some (2, 3, 0), some (2, 49, 0)] [] σ := fw_on hG [11, 22, 33, 44, 55, 66, 77, 88, 99, 110, 121] 200 h
theorem fs_copy_49_3_22 {G : fw_K} {R : fw_KR} (hG : fw_cls st_copy_49_3 R G) {σ : ab_SG} (h : sp_cp [(2, 52, 0), (2, 6, 0)] σ (fun rv σ2 => G 33 [some (2, 3, 0), some (2, 49, 0)] (rv.toList ++ []) σ2)) : G 22 [some (2, 3, 0), some (2, 49, 0)] [] σ := fw_on hG [11, 22, 33, 44, 55, 66, 77, 88, 99, 110, 121] 200 h
theorem fs_copy_49_3_33 {G : fw_K} {R : fw_KR} (hG : fw_cls st_copy_49_3 R G) {σ : ab_SG} (h : sp_cp [(2, 53, 0), (2, 7, 0)] σ (fun rv σ2 => G 44 [some (2, 3, 0), some (2, 49, 0)] (rv.toList ++ []) σ2)) : G 33 [some (2, 3, 0), some (2, 49, 0)] [] σ := fw_on hG [11, 22, 33, 44, 55, 66, 77, 88, 99, 110, 121] 200 h
theorem fs_copy_49_3_44 {G : fw_K} {R : fw_KR} (hG : fw_cls st_copy_49_3 R G) {σ : ab_SG} (h : sp_cp [(2, 54, 0), (2, 8, 0)] σ (fun rv σ2 => G 55 [some (2, 3, 0), some (2, 49, 0)] (rv.toList ++ []) σ2)) : G 44 [some (2, 3, 0), some (2, 49, 0)] [] σ := fw_on hG [11, 22, 33, 44, 55, 66, 77, 88, 99, 110, 121] 200 h
theorem fs_copy_49_3_55 {G : fw_K} {R : fw_KR} (hG : fw_cls st_copy_49_3 R G) {σ : ab_SG} (h : sp_cp [(2, 55, 0), (2, 9, 0)] σ (fun rv σ2 => G 66 [some (2, 3, 0), some (2, 49, 0)] (rv.toList ++ []) σ2)) : G 55 [some (2, 3, 0), some (2, 49, 0)] [] σ := fw_on hG [11, 22, 33, 44, 55, 66, 77, 88, 99, 110, 121] 200 h
theorem fs_copy_49_3_66 {G : fw_K} {R : fw_KR} (hG : fw_cls st_copy_49_3 R G) {σ : ab_SG} (h : sp_cp [(2, 56, 0), (2, 10, 0)] σ (fun rv σ2 => G 77 [some (2, 3, 0), some (2, 49, 0)] (rv.toList ++ []) σ2)) : G 66 [some (2, 3, 0), some (2, 49, 0)] [] σ := fw_on hG [11, 22, 33, 44, 55, 66, 77, 88, 99, 110, 121] 200 h
theorem fs_copy_49_3_77 {G : fw_K} {R : fw_KR} (hG : fw_cls st_copy_49_3 R G) {σ : ab_SG} (h : sp_cl [(2, 57, 0), (2, 11, 0)] σ (fun rv σ2 => G 88 [some (2, 3, 0), some (2, 49, 0)] (rv.toList ++ []) σ2)) : G 77 [some (2, 3, 0), some (2, 49, 0)] [] σ := fw_on hG [11, 22, 33, 44, 55, 66, 77, 88, 99, 110, 121] 200 h
theorem fs_copy_49_3_88 {G : fw_K} {R : fw_KR} (hG : fw_cls st_copy_49_3 R G) {σ : ab_SG} (h : sp_cl [(2, 58, 0), (2, 12, 0)] σ (fun rv σ2 => G 99 [some (2, 3, 0), some (2, 49, 0)] (rv.toList ++ []) σ2)) : G 88 [some (2, 3, 0), some (2, 49, 0)] [] σ := fw_on hG [11, 22, 33, 44, 55, 66, 77, 88, 99, 110, 121] 200 h
theorem fs_copy_49_3_99 {G : fw_K} {R : fw_KR} (hG : fw_cls st_copy_49_3 R G) {σ : ab_SG} (h : sp_cl [(2, 59, 0), (2, 13, 0)] σ (fun rv σ2 => G 110 [some (2, 3, 0), some (2, 49, 0)] (rv.toList ++ []) σ2)) : G 99 [some (2, 3, 0), some (2, 49, 0)] [] σ := fw_on hG [11, 22, 33, 44, 55, 66, 77, 88, 99, 110, 121] 200 h
theorem fs_copy_49_3_110 {G : fw_K} {R : fw_KR} (hG : fw_cls st_copy_49_3 R G) {σ : ab_SG} (h : sp_scopy [(2, 14, 0), (2, 60, 0)] σ (fun rv σ2 => G 121 [some (2, 3, 0), some (2, 49, 0)] (rv.toList ++ []) σ2)) : G 110 [some (2, 3, 0), some (2, 49, 0)] [] σ := fw_on hG [11, 22, 33, 44, 55, 66, 77, 88, 99, 110, 121] 200 h
theorem fs_copy_49_3_121 {G : fw_K} {R : fw_KR} (hG : fw_cls st_copy_49_3 R G) {σ : ab_SG} (h : R none (ab_ups (ab_ups (ab_ups (ab_ups (ab_ups σ 3 11 (fw_c (σ 49 11))) 3 12 (fw_c (σ 49 12))) 3 13 (fw_c (σ 49 13))) 3 14 (fw_c (σ 49 14))) 3 15 (fw_c (σ 49 15)))) : G 121 [some (2, 3, 0), some (2, 49, 0)] [] σ := fw_on hG [11, 22, 33, 44, 55, 66, 77, 88, 99, 110, 121] 200 h
abbrev fk_copy_3_18 : List fw_CR := [(70, 2, false, 0, 0, sp_cp), (74, 2, false, 0, 0, sp_cl), (77, 1, true, 5, 1, sp_scopy)]
abbrev st_copy_3_18 : fw_K → fw_KR → fw_K := fw_st vwCl nn_sh nn_kd fw_kv fw_wc (nn_KI6.map (fun x => x.1)) (nn_KJ6.map (fun x => x.1)) (nn_PF6.map (fun x => x.1)) (nn_PS6.map (fun x => x.1)) fk_copy_3_18 2 nn_dt49 2 4
theorem fs_copy_3_18_0 {G : fw_K} {R : fw_KR} (hG : fw_cls st_copy_3_18 R G) {σ : ab_SG} (h : sp_cp [(2, 4, 0), (2, 19, 0)] σ (fun rv σ2 => G 11 [some (2, 18, 0), some (2, 3, 0)] (rv.toList ++ []) σ2)) : G 0 [some (2, 18, 0), some (2, 3, 0)] [] σ := fw_on hG [11, 22, 33, 44, 55, 66, 77, 88, 99, 110, 121] 200 h
theorem fs_copy_3_18_11 {G : fw_K} {R : fw_KR} (hG : fw_cls st_copy_3_18 R G) {σ : ab_SG} (h : sp_cp [(2, 5, 0), (2, 20, 0)] σ (fun rv σ2 => G 22 [some (2, 18, 0), some (2, 3, 0)] (rv.toList ++ []) σ2)) : G 11 [some (2, 18, 0), some (2, 3, 0)] [] σ := fw_on hG [11, 22, 33, 44, 55, 66, 77, 88, 99, 110, 121] 200 h
theorem fs_copy_3_18_22 {G : fw_K} {R : fw_KR} (hG : fw_cls st_copy_3_18 R G) {σ : ab_SG} (h : sp_cp [(2, 6, 0), (2, 21, 0)] σ (fun rv σ2 => G 33 [some (2, 18, 0), some (2, 3, 0)] (rv.toList ++ []) σ2)) : G 22 [some (2, 18, 0), some (2, 3, 0)] [] σ := fw_on hG [11, 22, 33, 44, 55, 66, 77, 88, 99, 110, 121] 200 h
theorem fs_copy_3_18_33 {G : fw_K} {R : fw_KR} (hG : fw_cls st_copy_3_18 R G) {σ : ab_SG} (h : sp_cp [(2, 7, 0), (2, 22, 0)] σ (fun rv σ2 => G 44 [some (2, 18, 0), some (2, 3, 0)] (rv.toList ++ []) σ2)) : G 33 [some (2, 18, 0), some (2, 3, 0)] [] σ := fw_on hG [11, 22, 33, 44, 55, 66, 77, 88, 99, 110, 121] 200 h
theorem fs_copy_3_18_44 {G : fw_K} {R : fw_KR} (hG : fw_cls st_copy_3_18 R G) {σ : ab_SG} (h : sp_cp [(2, 8, 0), (2, 23, 0)] σ (fun rv σ2 => G 55 [some (2, 18, 0), some (2, 3, 0)] (rv.toList ++ []) σ2)) : G 44 [some (2, 18, 0), some (2, 3, 0)] [] σ := fw_on hG [11, 22, 33, 44, 55, 66, 77, 88, 99, 110, 121] 200 h
theorem fs_copy_3_18_55 {G : fw_K} {R : fw_KR} (hG : fw_cls st_copy_3_18 R G) {σ : ab_SG} (h : sp_cp [(2, 9, 0), (2, 24, 0)] σ (fun rv σ2 => G 66 [some (2, 18, 0), some (2, 3, 0)] (rv.toList ++ []) σ2)) : G 55 [some (2, 18, 0), some (2, 3, 0)] [] σ := fw_on hG [11, 22, 33, 44, 55, 66, 77, 88, 99, 110, 121] 200 h
theorem fs_copy_3_18_66 {G : fw_K} {R : fw_KR} (hG : fw_cls st_copy_3_18 R G) {σ : ab_SG} (h : sp_cp [(2, 10, 0), (2, 25, 0)] σ (fun rv σ2 => G 77 [some (2, 18, 0), some (2, 3, 0)] (rv.toList ++ []) σ2)) : G 66 [some (2, 18, 0), some (2, 3, 0)] [] σ := fw_on hG [11, 22, 33, 44, 55, 66, 77, 88, 99, 110, 121] 200 h
theorem fs_copy_3_18_77 {G : fw_K} {R : fw_KR} (hG : fw_cls st_copy_3_18 R G) {σ : ab_SG} (h : sp_cl [(2, 11, 0), (2, 26, 0)] σ (fun rv σ2 => G 88 [some (2, 18, 0), some (2, 3, 0)] (rv.toList ++ []) σ2)) : G 77 [some (2, 18, 0), some (2, 3, 0)] [] σ := fw_on hG [11, 22, 33, 44, 55, 66, 77, 88, 99, 110, 121] 200 h
theorem fs_copy_3_18_88 {G : fw_K} {R : fw_KR} (hG : fw_cls st_copy_3_18 R G) {σ : ab_SG} (h : sp_cl [(2, 12, 0), (2, 27, 0)] σ (fun rv σ2 => G 99 [some (2, 18, 0), some (2, 3, 0)] (rv.toList ++ []) σ2)) : G 88 [some (2, 18, 0), some (2, 3, 0)] [] σ := fw_on hG [11, 22, 33, 44, 55, 66, 77, 88, 99, 110, 121] 200 h
theorem fs_copy_3_18_99 {G : fw_K} {R : fw_KR} (hG : fw_cls st_copy_3_18 R G) {σ : ab_SG} (h : sp_cl [(2, 13, 0), (2, 28, 0)] σ (fun rv σ2 => G 110 [some (2, 18, 0), some (2, 3, 0)] (rv.toList ++ []) σ2)) : G 99 [some (2, 18, 0), some (2, 3, 0)] [] σ := fw_on hG [11, 22, 33, 44, 55, 66, 77, 88, 99, 110, 121] 200 h
theorem fs_copy_3_18_110 {G : fw_K} {R : fw_KR} (hG : fw_cls st_copy_3_18 R G) {σ : ab_SG} (h : sp_scopy [(2, 29, 0), (2, 14, 0)] σ (fun rv σ2 => G 121 [some (2, 18, 0), some (2, 3, 0)] (rv.toList ++ []) σ2)) : G 110 [some (2, 18, 0), some (2, 3, 0)] [] σ := fw_on hG [11, 22, 33, 44, 55, 66, 77, 88, 99, 110, 121] 200 h
theorem fs_copy_3_18_121 {G : fw_K} {R : fw_KR} (hG : fw_cls st_copy_3_18 R G) {σ : ab_SG} (h : R none (ab_ups (ab_ups (ab_ups (ab_ups (ab_ups σ 18 11 (fw_c (σ 3 11))) 18 12 (fw_c (σ 3 12))) 18 13 (fw_c (σ 3 13))) 18 14 (fw_c (σ 3 14))) 18 15 (fw_c (σ 3 15)))) : G 121 [some (2, 18, 0), some (2, 3, 0)] [] σ := fw_on hG [11, 22, 33, 44, 55, 66, 77, 88, 99, 110, 121] 200 h
abbrev fk_copy_3_33 : List fw_CR := [(70, 2, false, 0, 0, sp_cp), (74, 2, false, 0, 0, sp_cl), (77, 1, true, 5, 1, sp_scopy)]
abbrev st_copy_3_33 : fw_K → fw_KR → fw_K := fw_st vwCl nn_sh nn_kd fw_kv fw_wc (nn_KI6.map (fun x => x.1)) (nn_KJ6.map (fun x => x.1)) (nn_PF6.map (fun x => x.1)) (nn_PS6.map (fun x => x.1)) fk_copy_3_33 2 nn_dt49 2 4
theorem fs_copy_3_33_0 {G : fw_K} {R : fw_KR} (hG : fw_cls st_copy_3_33 R G) {σ : ab_SG} (h : sp_cp [(2, 4, 0), (2, 34, 0)] σ (fun rv σ2 => G 11 [some (2, 33, 0), some (2, 3, 0)] (rv.toList ++ []) σ2)) : G 0 [some (2, 33, 0), some (2, 3, 0)] [] σ := fw_on hG [11, 22, 33, 44, 55, 66, 77, 88, 99, 110, 121] 200 h
theorem fs_copy_3_33_11 {G : fw_K} {R : fw_KR} (hG : fw_cls st_copy_3_33 R G) {σ : ab_SG} (h : sp_cp [(2, 5, 0), (2, 35, 0)] σ (fun rv σ2 => G 22 [some (2, 33, 0), some (2, 3, 0)] (rv.toList ++ []) σ2)) : G 11 [some (2, 33, 0), some (2, 3, 0)] [] σ := fw_on hG [11, 22, 33, 44, 55, 66, 77, 88, 99, 110, 121] 200 h
theorem fs_copy_3_33_22 {G : fw_K} {R : fw_KR} (hG : fw_cls st_copy_3_33 R G) {σ : ab_SG} (h : sp_cp [(2, 6, 0), (2, 36, 0)] σ (fun rv σ2 => G 33 [some (2, 33, 0), some (2, 3, 0)] (rv.toList ++ []) σ2)) : G 22 [some (2, 33, 0), some (2, 3, 0)] [] σ := fw_on hG [11, 22, 33, 44, 55, 66, 77, 88, 99, 110, 121] 200 h
theorem fs_copy_3_33_33 {G : fw_K} {R : fw_KR} (hG : fw_cls st_copy_3_33 R G) {σ : ab_SG} (h : sp_cp [(2, 7, 0), (2, 37, 0)] σ (fun rv σ2 => G 44 [some (2, 33, 0), some (2, 3, 0)] (rv.toList ++ []) σ2)) : G 33 [some (2, 33, 0), some (2, 3, 0)] [] σ := fw_on hG [11, 22, 33, 44, 55, 66, 77, 88, 99, 110, 121] 200 h
theorem fs_copy_3_33_44 {G : fw_K} {R : fw_KR} (hG : fw_cls st_copy_3_33 R G) {σ : ab_SG} (h : sp_cp [(2, 8, 0), (2, 38, 0)] σ (fun rv σ2 => G 55 [some (2, 33, 0), some (2, 3, 0)] (rv.toList ++ []) σ2)) : G 44 [some (2, 33, 0), some (2, 3, 0)] [] σ := fw_on hG [11, 22, 33, 44, 55, 66, 77, 88, 99, 110, 121] 200 h
theorem fs_copy_3_33_55 {G : fw_K} {R : fw_KR} (hG : fw_cls st_copy_3_33 R G) {σ : ab_SG} (h : sp_cp [(2, 9, 0), (2, 39, 0)] σ (fun rv σ2 => G 66 [some (2, 33, 0), some (2, 3, 0)] (rv.toList ++ []) σ2)) : G 55 [some (2, 33, 0), some (2, 3, 0)] [] σ := fw_on hG [11, 22, 33, 44, 55, 66, 77, 88, 99, 110, 121] 200 h
theorem fs_copy_3_33_66 {G : fw_K} {R : fw_KR} (hG : fw_cls st_copy_3_33 R G) {σ : ab_SG} (h : sp_cp [(2, 10, 0), (2, 40, 0)] σ (fun rv σ2 => G 77 [some (2, 33, 0), some (2, 3, 0)] (rv.toList ++ []) σ2)) : G 66 [some (2, 33, 0), some (2, 3, 0)] [] σ := fw_on hG [11, 22, 33, 44, 55, 66, 77, 88, 99, 110, 121] 200 h
theorem fs_copy_3_33_77 {G : fw_K} {R : fw_KR} (hG : fw_cls st_copy_3_33 R G) {σ : ab_SG} (h : sp_cl [(2, 11, 0), (2, 41, 0)] σ (fun rv σ2 => G 88 [some (2, 33, 0), some (2, 3, 0)] (rv.toList ++ []) σ2)) : G 77 [some (2, 33, 0), some (2, 3, 0)] [] σ := fw_on hG [11, 22, 33, 44, 55, 66, 77, 88, 99, 110, 121] 200 h
theorem fs_copy_3_33_88 {G : fw_K} {R : fw_KR} (hG : fw_cls st_copy_3_33 R G) {σ : ab_SG} (h : sp_cl [(2, 12, 0), (2, 42, 0)] σ (fun rv σ2 => G 99 [some (2, 33, 0), some (2, 3, 0)] (rv.toList ++ []) σ2)) : G 88 [some (2, 33, 0), some (2, 3, 0)] [] σ := fw_on hG [11, 22, 33, 44, 55, 66, 77, 88, 99, 110, 121] 200 h
theorem fs_copy_3_33_99 {G : fw_K} {R : fw_KR} (hG : fw_cls st_copy_3_33 R G) {σ : ab_SG} (h : sp_cl [(2, 13, 0), (2, 43, 0)] σ (fun rv σ2 => G 110 [some (2, 33, 0), some (2, 3, 0)] (rv.toList ++ []) σ2)) : G 99 [some (2, 33, 0), some (2, 3, 0)] [] σ := fw_on hG [11, 22, 33, 44, 55, 66, 77, 88, 99, 110, 121] 200 h
theorem fs_copy_3_33_110 {G : fw_K} {R : fw_KR} (hG : fw_cls st_copy_3_33 R G) {σ : ab_SG} (h : sp_scopy [(2, 44, 0), (2, 14, 0)] σ (fun rv σ2 => G 121 [some (2, 33, 0), some (2, 3, 0)] (rv.toList ++ []) σ2)) : G 110 [some (2, 33, 0), some (2, 3, 0)] [] σ := fw_on hG [11, 22, 33, 44, 55, 66, 77, 88, 99, 110, 121] 200 h
theorem fs_copy_3_33_121 {G : fw_K} {R : fw_KR} (hG : fw_cls st_copy_3_33 R G) {σ : ab_SG} (h : R none (ab_ups (ab_ups (ab_ups (ab_ups (ab_ups σ 33 11 (fw_c (σ 3 11))) 33 12 (fw_c (σ 3 12))) 33 13 (fw_c (σ 3 13))) 33 14 (fw_c (σ 3 14))) 33 15 (fw_c (σ 3 15)))) : G 121 [some (2, 33, 0), some (2, 3, 0)] [] σ := fw_on hG [11, 22, 33, 44, 55, 66, 77, 88, 99, 110, 121] 200 h
abbrev fk_copy_18_3 : List fw_CR := [(70, 2, false, 0, 0, sp_cp), (74, 2, false, 0, 0, sp_cl), (77, 1, true, 5, 1, sp_scopy)]
abbrev st_copy_18_3 : fw_K → fw_KR → fw_K := fw_st vwCl nn_sh nn_kd fw_kv fw_wc (nn_KI6.map (fun x => x.1)) (nn_KJ6.map (fun x => x.1)) (nn_PF6.map (fun x => x.1)) (nn_PS6.map (fun x => x.1)) fk_copy_18_3 2 nn_dt49 2 4
theorem fs_copy_18_3_0 {G : fw_K} {R : fw_KR} (hG : fw_cls st_copy_18_3 R G) {σ : ab_SG} (h : sp_cp [(2, 19, 0), (2, 4, 0)] σ (fun rv σ2 => G 11 [some (2, 3, 0), some (2, 18, 0)] (rv.toList ++ []) σ2)) : G 0 [some (2, 3, 0), some (2, 18, 0)] [] σ := fw_on hG [11, 22, 33, 44, 55, 66, 77, 88, 99, 110, 121] 200 h
theorem fs_copy_18_3_11 {G : fw_K} {R : fw_KR} (hG : fw_cls st_copy_18_3 R G) {σ : ab_SG} (h : sp_cp [(2, 20, 0), (2, 5, 0)] σ (fun rv σ2 => G 22 [some (2, 3, 0), some (2, 18, 0)] (rv.toList ++ []) σ2)) : G 11 [some (2, 3, 0), some (2, 18, 0)] [] σ := fw_on hG [11, 22, 33, 44, 55, 66, 77, 88, 99, 110, 121] 200 h
theorem fs_copy_18_3_22 {G : fw_K} {R : fw_KR} (hG : fw_cls st_copy_18_3 R G) {σ : ab_SG} (h : sp_cp [(2, 21, 0), (2, 6, 0)] σ (fun rv σ2 => G 33 [some (2, 3, 0), some (2, 18, 0)] (rv.toList ++ []) σ2)) : G 22 [some (2, 3, 0), some (2, 18, 0)] [] σ := fw_on hG [11, 22, 33, 44, 55, 66, 77, 88, 99, 110, 121] 200 h
theorem fs_copy_18_3_33 {G : fw_K} {R : fw_KR} (hG : fw_cls st_copy_18_3 R G) {σ : ab_SG} (h : sp_cp [(2, 22, 0), (2, 7, 0)] σ (fun rv σ2 => G 44 [some (2, 3, 0), some (2, 18, 0)] (rv.toList ++ []) σ2)) : G 33 [some (2, 3, 0), some (2, 18, 0)] [] σ := fw_on hG [11, 22, 33, 44, 55, 66, 77, 88, 99, 110, 121] 200 h
theorem fs_copy_18_3_44 {G : fw_K} {R : fw_KR} (hG : fw_cls st_copy_18_3 R G) {σ : ab_SG} (h : sp_cp [(2, 23, 0), (2, 8, 0)] σ (fun rv σ2 => G 55 [some (2, 3, 0), some (2, 18, 0)] (rv.toList ++ []) σ2)) : G 44 [some (2, 3, 0), some (2, 18, 0)] [] σ := fw_on hG [11, 22, 33, 44, 55, 66, 77, 88, 99, 110, 121] 200 h
theorem fs_copy_18_3_55 {G : fw_K} {R : fw_KR} (hG : fw_cls st_copy_18_3 R G) {σ : ab_SG} (h : sp_cp [(2, 24, 0), (2, 9, 0)] σ (fun rv σ2 => G 66 [some (2, 3, 0), some (2, 18, 0)] (rv.toList ++ []) σ2)) : G 55 [some (2, 3, 0), some (2, 18, 0)] [] σ := fw_on hG [11, 22, 33, 44, 55, 66, 77, 88, 99, 110, 121] 200 h
theorem fs_copy_18_3_66 {G : fw_K} {R : fw_KR} (hG : fw_cls st_copy_18_3 R G) {σ : ab_SG} (h : sp_cp [(2, 25, 0), (2, 10, 0)] σ (fun rv σ2 => G 77 [some (2, 3, 0), some (2, 18, 0)] (rv.toList ++ []) σ2)) : G 66 [some (2, 3, 0), some (2, 18, 0)] [] σ := fw_on hG [11, 22, 33, 44, 55, 66, 77, 88, 99, 110, 121] 200 h
theorem fs_copy_18_3_77 {G : fw_K} {R : fw_KR} (hG : fw_cls st_copy_18_3 R G) {σ : ab_SG} (h : sp_cl [(2, 26, 0), (2, 11, 0)] σ (fun rv σ2 => G 88 [some (2, 3, 0), some (2, 18, 0)] (rv.toList ++ []) σ2)) : G 77 [some (2, 3, 0), some (2, 18, 0)] [] σ := fw_on hG [11, 22, 33, 44, 55, 66, 77, 88, 99, 110, 121] 200 h
theorem fs_copy_18_3_88 {G : fw_K} {R : fw_KR} (hG : fw_cls st_copy_18_3 R G) {σ : ab_SG} (h : sp_cl [(2, 27, 0), (2, 12, 0)] σ (fun rv σ2 => G 99 [some (2, 3, 0), some (2, 18, 0)] (rv.toList ++ []) σ2)) : G 88 [some (2, 3, 0), some (2, 18, 0)] [] σ := fw_on hG [11, 22, 33, 44, 55, 66, 77, 88, 99, 110, 121] 200 h
theorem fs_copy_18_3_99 {G : fw_K} {R : fw_KR} (hG : fw_cls st_copy_18_3 R G) {σ : ab_SG} (h : sp_cl [(2, 28, 0), (2, 13, 0)] σ (fun rv σ2 => G 110 [some (2, 3, 0), some (2, 18, 0)] (rv.toList ++ []) σ2)) : G 99 [some (2, 3, 0), some (2, 18, 0)] [] σ := fw_on hG [11, 22, 33, 44, 55, 66, 77, 88, 99, 110, 121] 200 h
theorem fs_copy_18_3_110 {G : fw_K} {R : fw_KR} (hG : fw_cls st_copy_18_3 R G) {σ : ab_SG} (h : sp_scopy [(2, 14, 0), (2, 29, 0)] σ (fun rv σ2 => G 121 [some (2, 3, 0), some (2, 18, 0)] (rv.toList ++ []) σ2)) : G 110 [some (2, 3, 0), some (2, 18, 0)] [] σ := fw_on hG [11, 22, 33, 44, 55, 66, 77, 88, 99, 110, 121] 200 h
theorem fs_copy_18_3_121 {G : fw_K} {R : fw_KR} (hG : fw_cls st_copy_18_3 R G) {σ : ab_SG} (h : R none (ab_ups (ab_ups (ab_ups (ab_ups (ab_ups σ 3 11 (fw_c (σ 18 11))) 3 12 (fw_c (σ 18 12))) 3 13 (fw_c (σ 18 13))) 3 14 (fw_c (σ 18 14))) 3 15 (fw_c (σ 18 15)))) : G 121 [some (2, 3, 0), some (2, 18, 0)] [] σ := fw_on hG [11, 22, 33, 44, 55, 66, 77, 88, 99, 110, 121] 200 h
abbrev fk_copy_33_3 : List fw_CR := [(70, 2, false, 0, 0, sp_cp), (74, 2, false, 0, 0, sp_cl), (77, 1, true, 5, 1, sp_scopy)]
abbrev st_copy_33_3 : fw_K → fw_KR → fw_K := fw_st vwCl nn_sh nn_kd fw_kv fw_wc (nn_KI6.map (fun x => x.1)) (nn_KJ6.map (fun x => x.1)) (nn_PF6.map (fun x => x.1)) (nn_PS6.map (fun x => x.1)) fk_copy_33_3 2 nn_dt49 2 4
theorem fs_copy_33_3_0 {G : fw_K} {R : fw_KR} (hG : fw_cls st_copy_33_3 R G) {σ : ab_SG} (h : sp_cp [(2, 34, 0), (2, 4, 0)] σ (fun rv σ2 => G 11 [some (2, 3, 0), some (2, 33, 0)] (rv.toList ++ []) σ2)) : G 0 [some (2, 3, 0), some (2, 33, 0)] [] σ := fw_on hG [11, 22, 33, 44, 55, 66, 77, 88, 99, 110, 121] 200 h
theorem fs_copy_33_3_11 {G : fw_K} {R : fw_KR} (hG : fw_cls st_copy_33_3 R G) {σ : ab_SG} (h : sp_cp [(2, 35, 0), (2, 5, 0)] σ (fun rv σ2 => G 22 [some (2, 3, 0), some (2, 33, 0)] (rv.toList ++ []) σ2)) : G 11 [some (2, 3, 0), some (2, 33, 0)] [] σ := fw_on hG [11, 22, 33, 44, 55, 66, 77, 88, 99, 110, 121] 200 h
theorem fs_copy_33_3_22 {G : fw_K} {R : fw_KR} (hG : fw_cls st_copy_33_3 R G) {σ : ab_SG} (h : sp_cp [(2, 36, 0), (2, 6, 0)] σ (fun rv σ2 => G 33 [some (2, 3, 0), some (2, 33, 0)] (rv.toList ++ []) σ2)) : G 22 [some (2, 3, 0), some (2, 33, 0)] [] σ := fw_on hG [11, 22, 33, 44, 55, 66, 77, 88, 99, 110, 121] 200 h
theorem fs_copy_33_3_33 {G : fw_K} {R : fw_KR} (hG : fw_cls st_copy_33_3 R G) {σ : ab_SG} (h : sp_cp [(2, 37, 0), (2, 7, 0)] σ (fun rv σ2 => G 44 [some (2, 3, 0), some (2, 33, 0)] (rv.toList ++ []) σ2)) : G 33 [some (2, 3, 0), some (2, 33, 0)] [] σ := fw_on hG [11, 22, 33, 44, 55, 66, 77, 88, 99, 110, 121] 200 h
theorem fs_copy_33_3_44 {G : fw_K} {R : fw_KR} (hG : fw_cls st_copy_33_3 R G) {σ : ab_SG} (h : sp_cp [(2, 38, 0), (2, 8, 0)] σ (fun rv σ2 => G 55 [some (2, 3, 0), some (2, 33, 0)] (rv.toList ++ []) σ2)) : G 44 [some (2, 3, 0), some (2, 33, 0)] [] σ := fw_on hG [11, 22, 33, 44, 55, 66, 77, 88, 99, 110, 121] 200 h
theorem fs_copy_33_3_55 {G : fw_K} {R : fw_KR} (hG : fw_cls st_copy_33_3 R G) {σ : ab_SG} (h : sp_cp [(2, 39, 0), (2, 9, 0)] σ (fun rv σ2 => G 66 [some (2, 3, 0), some (2, 33, 0)] (rv.toList ++ []) σ2)) : G 55 [some (2, 3, 0), some (2, 33, 0)] [] σ := fw_on hG [11, 22, 33, 44, 55, 66, 77, 88, 99, 110, 121] 200 h
theorem fs_copy_33_3_66 {G : fw_K} {R : fw_KR} (hG : fw_cls st_copy_33_3 R G) {σ : ab_SG} (h : sp_cp [(2, 40, 0), (2, 10, 0)] σ (fun rv σ2 => G 77 [some (2, 3, 0), some (2, 33, 0)] (rv.toList ++ []) σ2)) : G 66 [some (2, 3, 0), some (2, 33, 0)] [] σ := fw_on hG [11, 22, 33, 44, 55, 66, 77, 88, 99, 110, 121] 200 h
theorem fs_copy_33_3_77 {G : fw_K} {R : fw_KR} (hG : fw_cls st_copy_33_3 R G) {σ : ab_SG} (h : sp_cl [(2, 41, 0), (2, 11, 0)] σ (fun rv σ2 => G 88 [some (2, 3, 0), some (2, 33, 0)] (rv.toList ++ []) σ2)) : G 77 [some (2, 3, 0), some (2, 33, 0)] [] σ := fw_on hG [11, 22, 33, 44, 55, 66, 77, 88, 99, 110, 121] 200 h
theorem fs_copy_33_3_88 {G : fw_K} {R : fw_KR} (hG : fw_cls st_copy_33_3 R G) {σ : ab_SG} (h : sp_cl [(2, 42, 0), (2, 12, 0)] σ (fun rv σ2 => G 99 [some (2, 3, 0), some (2, 33, 0)] (rv.toList ++ []) σ2)) : G 88 [some (2, 3, 0), some (2, 33, 0)] [] σ := fw_on hG [11, 22, 33, 44, 55, 66, 77, 88, 99, 110, 121] 200 h
theorem fs_copy_33_3_99 {G : fw_K} {R : fw_KR} (hG : fw_cls st_copy_33_3 R G) {σ : ab_SG} (h : sp_cl [(2, 43, 0), (2, 13, 0)] σ (fun rv σ2 => G 110 [some (2, 3, 0), some (2, 33, 0)] (rv.toList ++ []) σ2)) : G 99 [some (2, 3, 0), some (2, 33, 0)] [] σ := fw_on hG [11, 22, 33, 44, 55, 66, 77, 88, 99, 110, 121] 200 h
theorem fs_copy_33_3_110 {G : fw_K} {R : fw_KR} (hG : fw_cls st_copy_33_3 R G) {σ : ab_SG} (h : sp_scopy [(2, 14, 0), (2, 44, 0)] σ (fun rv σ2 => G 121 [some (2, 3, 0), some (2, 33, 0)] (rv.toList ++ []) σ2)) : G 110 [some (2, 3, 0), some (2, 33, 0)] [] σ := fw_on hG [11, 22, 33, 44, 55, 66, 77, 88, 99, 110, 121] 200 h
theorem fs_copy_33_3_121 {G : fw_K} {R : fw_KR} (hG : fw_cls st_copy_33_3 R G) {σ : ab_SG} (h : R none (ab_ups (ab_ups (ab_ups (ab_ups (ab_ups σ 3 11 (fw_c (σ 33 11))) 3 12 (fw_c (σ 33 12))) 3 13 (fw_c (σ 33 13))) 3 14 (fw_c (σ 33 14))) 3 15 (fw_c (σ 33 15)))) : G 121 [some (2, 3, 0), some (2, 33, 0)] [] σ := fw_on hG [11, 22, 33, 44, 55, 66, 77, 88, 99, 110, 121] 200 h
section
variable {l : Launch} {cy : Nat → ClassId} {ad wr cr : Nat → Nat} {D : va_G}
theorem fm_cp_50_4 (hinj : nn_inj ad) : fw_H l cy ad wr cr D 50 0 (cp_k 50 4 81) := fw_mk hinj (⟨"NameNotes", "copyRow", "([I[I)V"⟩, prog_1_method_88_code, 3, (Option.none : Option Jvm.ClassFile.FieldType), 2, false, 4) rfl rfl nn_KI1_ok nn_KJ1_ok nn_PF1_ok nn_PS1_ok (by decide +kernel) rfl rfl (fun _ h => absurd h List.not_mem_nil) (fun as σ K h => by
  obtain ⟨rfl, h⟩ := h
  exact ⟨rfl, fun G hG => fs_cp_50_4_0 hG (cp_gen (a := 50) (b := 4) (n := 81) (f := fw_c) (K := K) (σ := σ) (G2 := fun i σ1 => G 2 [some (2, 50, 0), some (2, 4, 0), some (0, 0, i)] [] σ1) (by decide) (by decide) (fun a2 σ1 q => fs_cp_50_4_2 hG q) h)⟩)
theorem fm_cp_51_5 (hinj : nn_inj ad) : fw_H l cy ad wr cr D 50 0 (cp_k 51 5 81) := fw_mk hinj (⟨"NameNotes", "copyRow", "([I[I)V"⟩, prog_1_method_88_code, 3, (Option.none : Option Jvm.ClassFile.FieldType), 2, false, 4) rfl rfl nn_KI1_ok nn_KJ1_ok nn_PF1_ok nn_PS1_ok (by decide +kernel) rfl rfl (fun _ h => absurd h List.not_mem_nil) (fun as σ K h => by
  obtain ⟨rfl, h⟩ := h
  exact ⟨rfl, fun G hG => fs_cp_51_5_0 hG (cp_gen (a := 51) (b := 5) (n := 81) (f := fw_c) (K := K) (σ := σ) (G2 := fun i σ1 => G 2 [some (2, 51, 0), some (2, 5, 0), some (0, 0, i)] [] σ1) (by decide) (by decide) (fun a2 σ1 q => fs_cp_51_5_2 hG q) h)⟩)
theorem fm_cp_52_6 (hinj : nn_inj ad) : fw_H l cy ad wr cr D 50 0 (cp_k 52 6 9) := fw_mk hinj (⟨"NameNotes", "copyRow", "([I[I)V"⟩, prog_1_method_88_code, 3, (Option.none : Option Jvm.ClassFile.FieldType), 2, false, 4) rfl rfl nn_KI1_ok nn_KJ1_ok nn_PF1_ok nn_PS1_ok (by decide +kernel) rfl rfl (fun _ h => absurd h List.not_mem_nil) (fun as σ K h => by
  obtain ⟨rfl, h⟩ := h
  exact ⟨rfl, fun G hG => fs_cp_52_6_0 hG (cp_gen (a := 52) (b := 6) (n := 9) (f := fw_c) (K := K) (σ := σ) (G2 := fun i σ1 => G 2 [some (2, 52, 0), some (2, 6, 0), some (0, 0, i)] [] σ1) (by decide) (by decide) (fun a2 σ1 q => fs_cp_52_6_2 hG q) h)⟩)
theorem fm_cp_53_7 (hinj : nn_inj ad) : fw_H l cy ad wr cr D 50 0 (cp_k 53 7 324) := fw_mk hinj (⟨"NameNotes", "copyRow", "([I[I)V"⟩, prog_1_method_88_code, 3, (Option.none : Option Jvm.ClassFile.FieldType), 2, false, 4) rfl rfl nn_KI1_ok nn_KJ1_ok nn_PF1_ok nn_PS1_ok (by decide +kernel) rfl rfl (fun _ h => absurd h List.not_mem_nil) (fun as σ K h => by
  obtain ⟨rfl, h⟩ := h
  exact ⟨rfl, fun G hG => fs_cp_53_7_0 hG (cp_gen (a := 53) (b := 7) (n := 324) (f := fw_c) (K := K) (σ := σ) (G2 := fun i σ1 => G 2 [some (2, 53, 0), some (2, 7, 0), some (0, 0, i)] [] σ1) (by decide) (by decide) (fun a2 σ1 q => fs_cp_53_7_2 hG q) h)⟩)
theorem fm_cp_54_8 (hinj : nn_inj ad) : fw_H l cy ad wr cr D 50 0 (cp_k 54 8 6) := fw_mk hinj (⟨"NameNotes", "copyRow", "([I[I)V"⟩, prog_1_method_88_code, 3, (Option.none : Option Jvm.ClassFile.FieldType), 2, false, 4) rfl rfl nn_KI1_ok nn_KJ1_ok nn_PF1_ok nn_PS1_ok (by decide +kernel) rfl rfl (fun _ h => absurd h List.not_mem_nil) (fun as σ K h => by
  obtain ⟨rfl, h⟩ := h
  exact ⟨rfl, fun G hG => fs_cp_54_8_0 hG (cp_gen (a := 54) (b := 8) (n := 6) (f := fw_c) (K := K) (σ := σ) (G2 := fun i σ1 => G 2 [some (2, 54, 0), some (2, 8, 0), some (0, 0, i)] [] σ1) (by decide) (by decide) (fun a2 σ1 q => fs_cp_54_8_2 hG q) h)⟩)
theorem fm_cp_55_9 (hinj : nn_inj ad) : fw_H l cy ad wr cr D 50 0 (cp_k 55 9 45) := fw_mk hinj (⟨"NameNotes", "copyRow", "([I[I)V"⟩, prog_1_method_88_code, 3, (Option.none : Option Jvm.ClassFile.FieldType), 2, false, 4) rfl rfl nn_KI1_ok nn_KJ1_ok nn_PF1_ok nn_PS1_ok (by decide +kernel) rfl rfl (fun _ h => absurd h List.not_mem_nil) (fun as σ K h => by
  obtain ⟨rfl, h⟩ := h
  exact ⟨rfl, fun G hG => fs_cp_55_9_0 hG (cp_gen (a := 55) (b := 9) (n := 45) (f := fw_c) (K := K) (σ := σ) (G2 := fun i σ1 => G 2 [some (2, 55, 0), some (2, 9, 0), some (0, 0, i)] [] σ1) (by decide) (by decide) (fun a2 σ1 q => fs_cp_55_9_2 hG q) h)⟩)
theorem fm_cp_56_10 (hinj : nn_inj ad) : fw_H l cy ad wr cr D 50 0 (cp_k 56 10 5) := fw_mk hinj (⟨"NameNotes", "copyRow", "([I[I)V"⟩, prog_1_method_88_code, 3, (Option.none : Option Jvm.ClassFile.FieldType), 2, false, 4) rfl rfl nn_KI1_ok nn_KJ1_ok nn_PF1_ok nn_PS1_ok (by decide +kernel) rfl rfl (fun _ h => absurd h List.not_mem_nil) (fun as σ K h => by
  obtain ⟨rfl, h⟩ := h
  exact ⟨rfl, fun G hG => fs_cp_56_10_0 hG (cp_gen (a := 56) (b := 10) (n := 5) (f := fw_c) (K := K) (σ := σ) (G2 := fun i σ1 => G 2 [some (2, 56, 0), some (2, 10, 0), some (0, 0, i)] [] σ1) (by decide) (by decide) (fun a2 σ1 q => fs_cp_56_10_2 hG q) h)⟩)
theorem fm_cp_61_15 (hinj : nn_inj ad) : fw_H l cy ad wr cr D 50 0 (cp_k 61 15 64) := fw_mk hinj (⟨"NameNotes", "copyRow", "([I[I)V"⟩, prog_1_method_88_code, 3, (Option.none : Option Jvm.ClassFile.FieldType), 2, false, 4) rfl rfl nn_KI1_ok nn_KJ1_ok nn_PF1_ok nn_PS1_ok (by decide +kernel) rfl rfl (fun _ h => absurd h List.not_mem_nil) (fun as σ K h => by
  obtain ⟨rfl, h⟩ := h
  exact ⟨rfl, fun G hG => fs_cp_61_15_0 hG (cp_gen (a := 61) (b := 15) (n := 64) (f := fw_c) (K := K) (σ := σ) (G2 := fun i σ1 => G 2 [some (2, 61, 0), some (2, 15, 0), some (0, 0, i)] [] σ1) (by decide) (by decide) (fun a2 σ1 q => fs_cp_61_15_2 hG q) h)⟩)
theorem fm_cp_62_16 (hinj : nn_inj ad) : fw_H l cy ad wr cr D 50 0 (cp_k 62 16 64) := fw_mk hinj (⟨"NameNotes", "copyRow", "([I[I)V"⟩, prog_1_method_88_code, 3, (Option.none : Option Jvm.ClassFile.FieldType), 2, false, 4) rfl rfl nn_KI1_ok nn_KJ1_ok nn_PF1_ok nn_PS1_ok (by decide +kernel) rfl rfl (fun _ h => absurd h List.not_mem_nil) (fun as σ K h => by
  obtain ⟨rfl, h⟩ := h
  exact ⟨rfl, fun G hG => fs_cp_62_16_0 hG (cp_gen (a := 62) (b := 16) (n := 64) (f := fw_c) (K := K) (σ := σ) (G2 := fun i σ1 => G 2 [some (2, 62, 0), some (2, 16, 0), some (0, 0, i)] [] σ1) (by decide) (by decide) (fun a2 σ1 q => fs_cp_62_16_2 hG q) h)⟩)
theorem fm_cp_4_19 (hinj : nn_inj ad) : fw_H l cy ad wr cr D 50 0 (cp_k 4 19 81) := fw_mk hinj (⟨"NameNotes", "copyRow", "([I[I)V"⟩, prog_1_method_88_code, 3, (Option.none : Option Jvm.ClassFile.FieldType), 2, false, 4) rfl rfl nn_KI1_ok nn_KJ1_ok nn_PF1_ok nn_PS1_ok (by decide +kernel) rfl rfl (fun _ h => absurd h List.not_mem_nil) (fun as σ K h => by
  obtain ⟨rfl, h⟩ := h
  exact ⟨rfl, fun G hG => fs_cp_4_19_0 hG (cp_gen (a := 4) (b := 19) (n := 81) (f := fw_c) (K := K) (σ := σ) (G2 := fun i σ1 => G 2 [some (2, 4, 0), some (2, 19, 0), some (0, 0, i)] [] σ1) (by decide) (by decide) (fun a2 σ1 q => fs_cp_4_19_2 hG q) h)⟩)
theorem fm_cp_5_20 (hinj : nn_inj ad) : fw_H l cy ad wr cr D 50 0 (cp_k 5 20 81) := fw_mk hinj (⟨"NameNotes", "copyRow", "([I[I)V"⟩, prog_1_method_88_code, 3, (Option.none : Option Jvm.ClassFile.FieldType), 2, false, 4) rfl rfl nn_KI1_ok nn_KJ1_ok nn_PF1_ok nn_PS1_ok (by decide +kernel) rfl rfl (fun _ h => absurd h List.not_mem_nil) (fun as σ K h => by
  obtain ⟨rfl, h⟩ := h
  exact ⟨rfl, fun G hG => fs_cp_5_20_0 hG (cp_gen (a := 5) (b := 20) (n := 81) (f := fw_c) (K := K) (σ := σ) (G2 := fun i σ1 => G 2 [some (2, 5, 0), some (2, 20, 0), some (0, 0, i)] [] σ1) (by decide) (by decide) (fun a2 σ1 q => fs_cp_5_20_2 hG q) h)⟩)
theorem fm_cp_6_21 (hinj : nn_inj ad) : fw_H l cy ad wr cr D 50 0 (cp_k 6 21 9) := fw_mk hinj (⟨"NameNotes", "copyRow", "([I[I)V"⟩, prog_1_method_88_code, 3, (Option.none : Option Jvm.ClassFile.FieldType), 2, false, 4) rfl rfl nn_KI1_ok nn_KJ1_ok nn_PF1_ok nn_PS1_ok (by decide +kernel) rfl rfl (fun _ h => absurd h List.not_mem_nil) (fun as σ K h => by
  obtain ⟨rfl, h⟩ := h
  exact ⟨rfl, fun G hG => fs_cp_6_21_0 hG (cp_gen (a := 6) (b := 21) (n := 9) (f := fw_c) (K := K) (σ := σ) (G2 := fun i σ1 => G 2 [some (2, 6, 0), some (2, 21, 0), some (0, 0, i)] [] σ1) (by decide) (by decide) (fun a2 σ1 q => fs_cp_6_21_2 hG q) h)⟩)
theorem fm_cp_7_22 (hinj : nn_inj ad) : fw_H l cy ad wr cr D 50 0 (cp_k 7 22 324) := fw_mk hinj (⟨"NameNotes", "copyRow", "([I[I)V"⟩, prog_1_method_88_code, 3, (Option.none : Option Jvm.ClassFile.FieldType), 2, false, 4) rfl rfl nn_KI1_ok nn_KJ1_ok nn_PF1_ok nn_PS1_ok (by decide +kernel) rfl rfl (fun _ h => absurd h List.not_mem_nil) (fun as σ K h => by
  obtain ⟨rfl, h⟩ := h
  exact ⟨rfl, fun G hG => fs_cp_7_22_0 hG (cp_gen (a := 7) (b := 22) (n := 324) (f := fw_c) (K := K) (σ := σ) (G2 := fun i σ1 => G 2 [some (2, 7, 0), some (2, 22, 0), some (0, 0, i)] [] σ1) (by decide) (by decide) (fun a2 σ1 q => fs_cp_7_22_2 hG q) h)⟩)
theorem fm_cp_8_23 (hinj : nn_inj ad) : fw_H l cy ad wr cr D 50 0 (cp_k 8 23 6) := fw_mk hinj (⟨"NameNotes", "copyRow", "([I[I)V"⟩, prog_1_method_88_code, 3, (Option.none : Option Jvm.ClassFile.FieldType), 2, false, 4) rfl rfl nn_KI1_ok nn_KJ1_ok nn_PF1_ok nn_PS1_ok (by decide +kernel) rfl rfl (fun _ h => absurd h List.not_mem_nil) (fun as σ K h => by
  obtain ⟨rfl, h⟩ := h
  exact ⟨rfl, fun G hG => fs_cp_8_23_0 hG (cp_gen (a := 8) (b := 23) (n := 6) (f := fw_c) (K := K) (σ := σ) (G2 := fun i σ1 => G 2 [some (2, 8, 0), some (2, 23, 0), some (0, 0, i)] [] σ1) (by decide) (by decide) (fun a2 σ1 q => fs_cp_8_23_2 hG q) h)⟩)
theorem fm_cp_9_24 (hinj : nn_inj ad) : fw_H l cy ad wr cr D 50 0 (cp_k 9 24 45) := fw_mk hinj (⟨"NameNotes", "copyRow", "([I[I)V"⟩, prog_1_method_88_code, 3, (Option.none : Option Jvm.ClassFile.FieldType), 2, false, 4) rfl rfl nn_KI1_ok nn_KJ1_ok nn_PF1_ok nn_PS1_ok (by decide +kernel) rfl rfl (fun _ h => absurd h List.not_mem_nil) (fun as σ K h => by
  obtain ⟨rfl, h⟩ := h
  exact ⟨rfl, fun G hG => fs_cp_9_24_0 hG (cp_gen (a := 9) (b := 24) (n := 45) (f := fw_c) (K := K) (σ := σ) (G2 := fun i σ1 => G 2 [some (2, 9, 0), some (2, 24, 0), some (0, 0, i)] [] σ1) (by decide) (by decide) (fun a2 σ1 q => fs_cp_9_24_2 hG q) h)⟩)
theorem fm_cp_10_25 (hinj : nn_inj ad) : fw_H l cy ad wr cr D 50 0 (cp_k 10 25 5) := fw_mk hinj (⟨"NameNotes", "copyRow", "([I[I)V"⟩, prog_1_method_88_code, 3, (Option.none : Option Jvm.ClassFile.FieldType), 2, false, 4) rfl rfl nn_KI1_ok nn_KJ1_ok nn_PF1_ok nn_PS1_ok (by decide +kernel) rfl rfl (fun _ h => absurd h List.not_mem_nil) (fun as σ K h => by
  obtain ⟨rfl, h⟩ := h
  exact ⟨rfl, fun G hG => fs_cp_10_25_0 hG (cp_gen (a := 10) (b := 25) (n := 5) (f := fw_c) (K := K) (σ := σ) (G2 := fun i σ1 => G 2 [some (2, 10, 0), some (2, 25, 0), some (0, 0, i)] [] σ1) (by decide) (by decide) (fun a2 σ1 q => fs_cp_10_25_2 hG q) h)⟩)
theorem fm_cp_15_30 (hinj : nn_inj ad) : fw_H l cy ad wr cr D 50 0 (cp_k 15 30 64) := fw_mk hinj (⟨"NameNotes", "copyRow", "([I[I)V"⟩, prog_1_method_88_code, 3, (Option.none : Option Jvm.ClassFile.FieldType), 2, false, 4) rfl rfl nn_KI1_ok nn_KJ1_ok nn_PF1_ok nn_PS1_ok (by decide +kernel) rfl rfl (fun _ h => absurd h List.not_mem_nil) (fun as σ K h => by
  obtain ⟨rfl, h⟩ := h
  exact ⟨rfl, fun G hG => fs_cp_15_30_0 hG (cp_gen (a := 15) (b := 30) (n := 64) (f := fw_c) (K := K) (σ := σ) (G2 := fun i σ1 => G 2 [some (2, 15, 0), some (2, 30, 0), some (0, 0, i)] [] σ1) (by decide) (by decide) (fun a2 σ1 q => fs_cp_15_30_2 hG q) h)⟩)
theorem fm_cp_16_31 (hinj : nn_inj ad) : fw_H l cy ad wr cr D 50 0 (cp_k 16 31 64) := fw_mk hinj (⟨"NameNotes", "copyRow", "([I[I)V"⟩, prog_1_method_88_code, 3, (Option.none : Option Jvm.ClassFile.FieldType), 2, false, 4) rfl rfl nn_KI1_ok nn_KJ1_ok nn_PF1_ok nn_PS1_ok (by decide +kernel) rfl rfl (fun _ h => absurd h List.not_mem_nil) (fun as σ K h => by
  obtain ⟨rfl, h⟩ := h
  exact ⟨rfl, fun G hG => fs_cp_16_31_0 hG (cp_gen (a := 16) (b := 31) (n := 64) (f := fw_c) (K := K) (σ := σ) (G2 := fun i σ1 => G 2 [some (2, 16, 0), some (2, 31, 0), some (0, 0, i)] [] σ1) (by decide) (by decide) (fun a2 σ1 q => fs_cp_16_31_2 hG q) h)⟩)
theorem fm_cp_4_34 (hinj : nn_inj ad) : fw_H l cy ad wr cr D 50 0 (cp_k 4 34 81) := fw_mk hinj (⟨"NameNotes", "copyRow", "([I[I)V"⟩, prog_1_method_88_code, 3, (Option.none : Option Jvm.ClassFile.FieldType), 2, false, 4) rfl rfl nn_KI1_ok nn_KJ1_ok nn_PF1_ok nn_PS1_ok (by decide +kernel) rfl rfl (fun _ h => absurd h List.not_mem_nil) (fun as σ K h => by
  obtain ⟨rfl, h⟩ := h
  exact ⟨rfl, fun G hG => fs_cp_4_34_0 hG (cp_gen (a := 4) (b := 34) (n := 81) (f := fw_c) (K := K) (σ := σ) (G2 := fun i σ1 => G 2 [some (2, 4, 0), some (2, 34, 0), some (0, 0, i)] [] σ1) (by decide) (by decide) (fun a2 σ1 q => fs_cp_4_34_2 hG q) h)⟩)
theorem fm_cp_5_35 (hinj : nn_inj ad) : fw_H l cy ad wr cr D 50 0 (cp_k 5 35 81) := fw_mk hinj (⟨"NameNotes", "copyRow", "([I[I)V"⟩, prog_1_method_88_code, 3, (Option.none : Option Jvm.ClassFile.FieldType), 2, false, 4) rfl rfl nn_KI1_ok nn_KJ1_ok nn_PF1_ok nn_PS1_ok (by decide +kernel) rfl rfl (fun _ h => absurd h List.not_mem_nil) (fun as σ K h => by
  obtain ⟨rfl, h⟩ := h
  exact ⟨rfl, fun G hG => fs_cp_5_35_0 hG (cp_gen (a := 5) (b := 35) (n := 81) (f := fw_c) (K := K) (σ := σ) (G2 := fun i σ1 => G 2 [some (2, 5, 0), some (2, 35, 0), some (0, 0, i)] [] σ1) (by decide) (by decide) (fun a2 σ1 q => fs_cp_5_35_2 hG q) h)⟩)
theorem fm_cp_6_36 (hinj : nn_inj ad) : fw_H l cy ad wr cr D 50 0 (cp_k 6 36 9) := fw_mk hinj (⟨"NameNotes", "copyRow", "([I[I)V"⟩, prog_1_method_88_code, 3, (Option.none : Option Jvm.ClassFile.FieldType), 2, false, 4) rfl rfl nn_KI1_ok nn_KJ1_ok nn_PF1_ok nn_PS1_ok (by decide +kernel) rfl rfl (fun _ h => absurd h List.not_mem_nil) (fun as σ K h => by
  obtain ⟨rfl, h⟩ := h
  exact ⟨rfl, fun G hG => fs_cp_6_36_0 hG (cp_gen (a := 6) (b := 36) (n := 9) (f := fw_c) (K := K) (σ := σ) (G2 := fun i σ1 => G 2 [some (2, 6, 0), some (2, 36, 0), some (0, 0, i)] [] σ1) (by decide) (by decide) (fun a2 σ1 q => fs_cp_6_36_2 hG q) h)⟩)
theorem fm_cp_7_37 (hinj : nn_inj ad) : fw_H l cy ad wr cr D 50 0 (cp_k 7 37 324) := fw_mk hinj (⟨"NameNotes", "copyRow", "([I[I)V"⟩, prog_1_method_88_code, 3, (Option.none : Option Jvm.ClassFile.FieldType), 2, false, 4) rfl rfl nn_KI1_ok nn_KJ1_ok nn_PF1_ok nn_PS1_ok (by decide +kernel) rfl rfl (fun _ h => absurd h List.not_mem_nil) (fun as σ K h => by
  obtain ⟨rfl, h⟩ := h
  exact ⟨rfl, fun G hG => fs_cp_7_37_0 hG (cp_gen (a := 7) (b := 37) (n := 324) (f := fw_c) (K := K) (σ := σ) (G2 := fun i σ1 => G 2 [some (2, 7, 0), some (2, 37, 0), some (0, 0, i)] [] σ1) (by decide) (by decide) (fun a2 σ1 q => fs_cp_7_37_2 hG q) h)⟩)
theorem fm_cp_8_38 (hinj : nn_inj ad) : fw_H l cy ad wr cr D 50 0 (cp_k 8 38 6) := fw_mk hinj (⟨"NameNotes", "copyRow", "([I[I)V"⟩, prog_1_method_88_code, 3, (Option.none : Option Jvm.ClassFile.FieldType), 2, false, 4) rfl rfl nn_KI1_ok nn_KJ1_ok nn_PF1_ok nn_PS1_ok (by decide +kernel) rfl rfl (fun _ h => absurd h List.not_mem_nil) (fun as σ K h => by
  obtain ⟨rfl, h⟩ := h
  exact ⟨rfl, fun G hG => fs_cp_8_38_0 hG (cp_gen (a := 8) (b := 38) (n := 6) (f := fw_c) (K := K) (σ := σ) (G2 := fun i σ1 => G 2 [some (2, 8, 0), some (2, 38, 0), some (0, 0, i)] [] σ1) (by decide) (by decide) (fun a2 σ1 q => fs_cp_8_38_2 hG q) h)⟩)
theorem fm_cp_9_39 (hinj : nn_inj ad) : fw_H l cy ad wr cr D 50 0 (cp_k 9 39 45) := fw_mk hinj (⟨"NameNotes", "copyRow", "([I[I)V"⟩, prog_1_method_88_code, 3, (Option.none : Option Jvm.ClassFile.FieldType), 2, false, 4) rfl rfl nn_KI1_ok nn_KJ1_ok nn_PF1_ok nn_PS1_ok (by decide +kernel) rfl rfl (fun _ h => absurd h List.not_mem_nil) (fun as σ K h => by
  obtain ⟨rfl, h⟩ := h
  exact ⟨rfl, fun G hG => fs_cp_9_39_0 hG (cp_gen (a := 9) (b := 39) (n := 45) (f := fw_c) (K := K) (σ := σ) (G2 := fun i σ1 => G 2 [some (2, 9, 0), some (2, 39, 0), some (0, 0, i)] [] σ1) (by decide) (by decide) (fun a2 σ1 q => fs_cp_9_39_2 hG q) h)⟩)
theorem fm_cp_10_40 (hinj : nn_inj ad) : fw_H l cy ad wr cr D 50 0 (cp_k 10 40 5) := fw_mk hinj (⟨"NameNotes", "copyRow", "([I[I)V"⟩, prog_1_method_88_code, 3, (Option.none : Option Jvm.ClassFile.FieldType), 2, false, 4) rfl rfl nn_KI1_ok nn_KJ1_ok nn_PF1_ok nn_PS1_ok (by decide +kernel) rfl rfl (fun _ h => absurd h List.not_mem_nil) (fun as σ K h => by
  obtain ⟨rfl, h⟩ := h
  exact ⟨rfl, fun G hG => fs_cp_10_40_0 hG (cp_gen (a := 10) (b := 40) (n := 5) (f := fw_c) (K := K) (σ := σ) (G2 := fun i σ1 => G 2 [some (2, 10, 0), some (2, 40, 0), some (0, 0, i)] [] σ1) (by decide) (by decide) (fun a2 σ1 q => fs_cp_10_40_2 hG q) h)⟩)
theorem fm_cp_15_45 (hinj : nn_inj ad) : fw_H l cy ad wr cr D 50 0 (cp_k 15 45 64) := fw_mk hinj (⟨"NameNotes", "copyRow", "([I[I)V"⟩, prog_1_method_88_code, 3, (Option.none : Option Jvm.ClassFile.FieldType), 2, false, 4) rfl rfl nn_KI1_ok nn_KJ1_ok nn_PF1_ok nn_PS1_ok (by decide +kernel) rfl rfl (fun _ h => absurd h List.not_mem_nil) (fun as σ K h => by
  obtain ⟨rfl, h⟩ := h
  exact ⟨rfl, fun G hG => fs_cp_15_45_0 hG (cp_gen (a := 15) (b := 45) (n := 64) (f := fw_c) (K := K) (σ := σ) (G2 := fun i σ1 => G 2 [some (2, 15, 0), some (2, 45, 0), some (0, 0, i)] [] σ1) (by decide) (by decide) (fun a2 σ1 q => fs_cp_15_45_2 hG q) h)⟩)
theorem fm_cp_16_46 (hinj : nn_inj ad) : fw_H l cy ad wr cr D 50 0 (cp_k 16 46 64) := fw_mk hinj (⟨"NameNotes", "copyRow", "([I[I)V"⟩, prog_1_method_88_code, 3, (Option.none : Option Jvm.ClassFile.FieldType), 2, false, 4) rfl rfl nn_KI1_ok nn_KJ1_ok nn_PF1_ok nn_PS1_ok (by decide +kernel) rfl rfl (fun _ h => absurd h List.not_mem_nil) (fun as σ K h => by
  obtain ⟨rfl, h⟩ := h
  exact ⟨rfl, fun G hG => fs_cp_16_46_0 hG (cp_gen (a := 16) (b := 46) (n := 64) (f := fw_c) (K := K) (σ := σ) (G2 := fun i σ1 => G 2 [some (2, 16, 0), some (2, 46, 0), some (0, 0, i)] [] σ1) (by decide) (by decide) (fun a2 σ1 q => fs_cp_16_46_2 hG q) h)⟩)
theorem fm_cp_19_4 (hinj : nn_inj ad) : fw_H l cy ad wr cr D 50 0 (cp_k 19 4 81) := fw_mk hinj (⟨"NameNotes", "copyRow", "([I[I)V"⟩, prog_1_method_88_code, 3, (Option.none : Option Jvm.ClassFile.FieldType), 2, false, 4) rfl rfl nn_KI1_ok nn_KJ1_ok nn_PF1_ok nn_PS1_ok (by decide +kernel) rfl rfl (fun _ h => absurd h List.not_mem_nil) (fun as σ K h => by
  obtain ⟨rfl, h⟩ := h
  exact ⟨rfl, fun G hG => fs_cp_19_4_0 hG (cp_gen (a := 19) (b := 4) (n := 81) (f := fw_c) (K := K) (σ := σ) (G2 := fun i σ1 => G 2 [some (2, 19, 0), some (2, 4, 0), some (0, 0, i)] [] σ1) (by decide) (by decide) (fun a2 σ1 q => fs_cp_19_4_2 hG q) h)⟩)
theorem fm_cp_20_5 (hinj : nn_inj ad) : fw_H l cy ad wr cr D 50 0 (cp_k 20 5 81) := fw_mk hinj (⟨"NameNotes", "copyRow", "([I[I)V"⟩, prog_1_method_88_code, 3, (Option.none : Option Jvm.ClassFile.FieldType), 2, false, 4) rfl rfl nn_KI1_ok nn_KJ1_ok nn_PF1_ok nn_PS1_ok (by decide +kernel) rfl rfl (fun _ h => absurd h List.not_mem_nil) (fun as σ K h => by
  obtain ⟨rfl, h⟩ := h
  exact ⟨rfl, fun G hG => fs_cp_20_5_0 hG (cp_gen (a := 20) (b := 5) (n := 81) (f := fw_c) (K := K) (σ := σ) (G2 := fun i σ1 => G 2 [some (2, 20, 0), some (2, 5, 0), some (0, 0, i)] [] σ1) (by decide) (by decide) (fun a2 σ1 q => fs_cp_20_5_2 hG q) h)⟩)
theorem fm_cp_21_6 (hinj : nn_inj ad) : fw_H l cy ad wr cr D 50 0 (cp_k 21 6 9) := fw_mk hinj (⟨"NameNotes", "copyRow", "([I[I)V"⟩, prog_1_method_88_code, 3, (Option.none : Option Jvm.ClassFile.FieldType), 2, false, 4) rfl rfl nn_KI1_ok nn_KJ1_ok nn_PF1_ok nn_PS1_ok (by decide +kernel) rfl rfl (fun _ h => absurd h List.not_mem_nil) (fun as σ K h => by
  obtain ⟨rfl, h⟩ := h
  exact ⟨rfl, fun G hG => fs_cp_21_6_0 hG (cp_gen (a := 21) (b := 6) (n := 9) (f := fw_c) (K := K) (σ := σ) (G2 := fun i σ1 => G 2 [some (2, 21, 0), some (2, 6, 0), some (0, 0, i)] [] σ1) (by decide) (by decide) (fun a2 σ1 q => fs_cp_21_6_2 hG q) h)⟩)
theorem fm_cp_22_7 (hinj : nn_inj ad) : fw_H l cy ad wr cr D 50 0 (cp_k 22 7 324) := fw_mk hinj (⟨"NameNotes", "copyRow", "([I[I)V"⟩, prog_1_method_88_code, 3, (Option.none : Option Jvm.ClassFile.FieldType), 2, false, 4) rfl rfl nn_KI1_ok nn_KJ1_ok nn_PF1_ok nn_PS1_ok (by decide +kernel) rfl rfl (fun _ h => absurd h List.not_mem_nil) (fun as σ K h => by
  obtain ⟨rfl, h⟩ := h
  exact ⟨rfl, fun G hG => fs_cp_22_7_0 hG (cp_gen (a := 22) (b := 7) (n := 324) (f := fw_c) (K := K) (σ := σ) (G2 := fun i σ1 => G 2 [some (2, 22, 0), some (2, 7, 0), some (0, 0, i)] [] σ1) (by decide) (by decide) (fun a2 σ1 q => fs_cp_22_7_2 hG q) h)⟩)
theorem fm_cp_23_8 (hinj : nn_inj ad) : fw_H l cy ad wr cr D 50 0 (cp_k 23 8 6) := fw_mk hinj (⟨"NameNotes", "copyRow", "([I[I)V"⟩, prog_1_method_88_code, 3, (Option.none : Option Jvm.ClassFile.FieldType), 2, false, 4) rfl rfl nn_KI1_ok nn_KJ1_ok nn_PF1_ok nn_PS1_ok (by decide +kernel) rfl rfl (fun _ h => absurd h List.not_mem_nil) (fun as σ K h => by
  obtain ⟨rfl, h⟩ := h
  exact ⟨rfl, fun G hG => fs_cp_23_8_0 hG (cp_gen (a := 23) (b := 8) (n := 6) (f := fw_c) (K := K) (σ := σ) (G2 := fun i σ1 => G 2 [some (2, 23, 0), some (2, 8, 0), some (0, 0, i)] [] σ1) (by decide) (by decide) (fun a2 σ1 q => fs_cp_23_8_2 hG q) h)⟩)
theorem fm_cp_24_9 (hinj : nn_inj ad) : fw_H l cy ad wr cr D 50 0 (cp_k 24 9 45) := fw_mk hinj (⟨"NameNotes", "copyRow", "([I[I)V"⟩, prog_1_method_88_code, 3, (Option.none : Option Jvm.ClassFile.FieldType), 2, false, 4) rfl rfl nn_KI1_ok nn_KJ1_ok nn_PF1_ok nn_PS1_ok (by decide +kernel) rfl rfl (fun _ h => absurd h List.not_mem_nil) (fun as σ K h => by
  obtain ⟨rfl, h⟩ := h
  exact ⟨rfl, fun G hG => fs_cp_24_9_0 hG (cp_gen (a := 24) (b := 9) (n := 45) (f := fw_c) (K := K) (σ := σ) (G2 := fun i σ1 => G 2 [some (2, 24, 0), some (2, 9, 0), some (0, 0, i)] [] σ1) (by decide) (by decide) (fun a2 σ1 q => fs_cp_24_9_2 hG q) h)⟩)
theorem fm_cp_25_10 (hinj : nn_inj ad) : fw_H l cy ad wr cr D 50 0 (cp_k 25 10 5) := fw_mk hinj (⟨"NameNotes", "copyRow", "([I[I)V"⟩, prog_1_method_88_code, 3, (Option.none : Option Jvm.ClassFile.FieldType), 2, false, 4) rfl rfl nn_KI1_ok nn_KJ1_ok nn_PF1_ok nn_PS1_ok (by decide +kernel) rfl rfl (fun _ h => absurd h List.not_mem_nil) (fun as σ K h => by
  obtain ⟨rfl, h⟩ := h
  exact ⟨rfl, fun G hG => fs_cp_25_10_0 hG (cp_gen (a := 25) (b := 10) (n := 5) (f := fw_c) (K := K) (σ := σ) (G2 := fun i σ1 => G 2 [some (2, 25, 0), some (2, 10, 0), some (0, 0, i)] [] σ1) (by decide) (by decide) (fun a2 σ1 q => fs_cp_25_10_2 hG q) h)⟩)
theorem fm_cp_30_15 (hinj : nn_inj ad) : fw_H l cy ad wr cr D 50 0 (cp_k 30 15 64) := fw_mk hinj (⟨"NameNotes", "copyRow", "([I[I)V"⟩, prog_1_method_88_code, 3, (Option.none : Option Jvm.ClassFile.FieldType), 2, false, 4) rfl rfl nn_KI1_ok nn_KJ1_ok nn_PF1_ok nn_PS1_ok (by decide +kernel) rfl rfl (fun _ h => absurd h List.not_mem_nil) (fun as σ K h => by
  obtain ⟨rfl, h⟩ := h
  exact ⟨rfl, fun G hG => fs_cp_30_15_0 hG (cp_gen (a := 30) (b := 15) (n := 64) (f := fw_c) (K := K) (σ := σ) (G2 := fun i σ1 => G 2 [some (2, 30, 0), some (2, 15, 0), some (0, 0, i)] [] σ1) (by decide) (by decide) (fun a2 σ1 q => fs_cp_30_15_2 hG q) h)⟩)
theorem fm_cp_31_16 (hinj : nn_inj ad) : fw_H l cy ad wr cr D 50 0 (cp_k 31 16 64) := fw_mk hinj (⟨"NameNotes", "copyRow", "([I[I)V"⟩, prog_1_method_88_code, 3, (Option.none : Option Jvm.ClassFile.FieldType), 2, false, 4) rfl rfl nn_KI1_ok nn_KJ1_ok nn_PF1_ok nn_PS1_ok (by decide +kernel) rfl rfl (fun _ h => absurd h List.not_mem_nil) (fun as σ K h => by
  obtain ⟨rfl, h⟩ := h
  exact ⟨rfl, fun G hG => fs_cp_31_16_0 hG (cp_gen (a := 31) (b := 16) (n := 64) (f := fw_c) (K := K) (σ := σ) (G2 := fun i σ1 => G 2 [some (2, 31, 0), some (2, 16, 0), some (0, 0, i)] [] σ1) (by decide) (by decide) (fun a2 σ1 q => fs_cp_31_16_2 hG q) h)⟩)
theorem fm_cp_34_4 (hinj : nn_inj ad) : fw_H l cy ad wr cr D 50 0 (cp_k 34 4 81) := fw_mk hinj (⟨"NameNotes", "copyRow", "([I[I)V"⟩, prog_1_method_88_code, 3, (Option.none : Option Jvm.ClassFile.FieldType), 2, false, 4) rfl rfl nn_KI1_ok nn_KJ1_ok nn_PF1_ok nn_PS1_ok (by decide +kernel) rfl rfl (fun _ h => absurd h List.not_mem_nil) (fun as σ K h => by
  obtain ⟨rfl, h⟩ := h
  exact ⟨rfl, fun G hG => fs_cp_34_4_0 hG (cp_gen (a := 34) (b := 4) (n := 81) (f := fw_c) (K := K) (σ := σ) (G2 := fun i σ1 => G 2 [some (2, 34, 0), some (2, 4, 0), some (0, 0, i)] [] σ1) (by decide) (by decide) (fun a2 σ1 q => fs_cp_34_4_2 hG q) h)⟩)
theorem fm_cp_35_5 (hinj : nn_inj ad) : fw_H l cy ad wr cr D 50 0 (cp_k 35 5 81) := fw_mk hinj (⟨"NameNotes", "copyRow", "([I[I)V"⟩, prog_1_method_88_code, 3, (Option.none : Option Jvm.ClassFile.FieldType), 2, false, 4) rfl rfl nn_KI1_ok nn_KJ1_ok nn_PF1_ok nn_PS1_ok (by decide +kernel) rfl rfl (fun _ h => absurd h List.not_mem_nil) (fun as σ K h => by
  obtain ⟨rfl, h⟩ := h
  exact ⟨rfl, fun G hG => fs_cp_35_5_0 hG (cp_gen (a := 35) (b := 5) (n := 81) (f := fw_c) (K := K) (σ := σ) (G2 := fun i σ1 => G 2 [some (2, 35, 0), some (2, 5, 0), some (0, 0, i)] [] σ1) (by decide) (by decide) (fun a2 σ1 q => fs_cp_35_5_2 hG q) h)⟩)
theorem fm_cp_36_6 (hinj : nn_inj ad) : fw_H l cy ad wr cr D 50 0 (cp_k 36 6 9) := fw_mk hinj (⟨"NameNotes", "copyRow", "([I[I)V"⟩, prog_1_method_88_code, 3, (Option.none : Option Jvm.ClassFile.FieldType), 2, false, 4) rfl rfl nn_KI1_ok nn_KJ1_ok nn_PF1_ok nn_PS1_ok (by decide +kernel) rfl rfl (fun _ h => absurd h List.not_mem_nil) (fun as σ K h => by
  obtain ⟨rfl, h⟩ := h
  exact ⟨rfl, fun G hG => fs_cp_36_6_0 hG (cp_gen (a := 36) (b := 6) (n := 9) (f := fw_c) (K := K) (σ := σ) (G2 := fun i σ1 => G 2 [some (2, 36, 0), some (2, 6, 0), some (0, 0, i)] [] σ1) (by decide) (by decide) (fun a2 σ1 q => fs_cp_36_6_2 hG q) h)⟩)
theorem fm_cp_37_7 (hinj : nn_inj ad) : fw_H l cy ad wr cr D 50 0 (cp_k 37 7 324) := fw_mk hinj (⟨"NameNotes", "copyRow", "([I[I)V"⟩, prog_1_method_88_code, 3, (Option.none : Option Jvm.ClassFile.FieldType), 2, false, 4) rfl rfl nn_KI1_ok nn_KJ1_ok nn_PF1_ok nn_PS1_ok (by decide +kernel) rfl rfl (fun _ h => absurd h List.not_mem_nil) (fun as σ K h => by
  obtain ⟨rfl, h⟩ := h
  exact ⟨rfl, fun G hG => fs_cp_37_7_0 hG (cp_gen (a := 37) (b := 7) (n := 324) (f := fw_c) (K := K) (σ := σ) (G2 := fun i σ1 => G 2 [some (2, 37, 0), some (2, 7, 0), some (0, 0, i)] [] σ1) (by decide) (by decide) (fun a2 σ1 q => fs_cp_37_7_2 hG q) h)⟩)
theorem fm_cp_38_8 (hinj : nn_inj ad) : fw_H l cy ad wr cr D 50 0 (cp_k 38 8 6) := fw_mk hinj (⟨"NameNotes", "copyRow", "([I[I)V"⟩, prog_1_method_88_code, 3, (Option.none : Option Jvm.ClassFile.FieldType), 2, false, 4) rfl rfl nn_KI1_ok nn_KJ1_ok nn_PF1_ok nn_PS1_ok (by decide +kernel) rfl rfl (fun _ h => absurd h List.not_mem_nil) (fun as σ K h => by
  obtain ⟨rfl, h⟩ := h
  exact ⟨rfl, fun G hG => fs_cp_38_8_0 hG (cp_gen (a := 38) (b := 8) (n := 6) (f := fw_c) (K := K) (σ := σ) (G2 := fun i σ1 => G 2 [some (2, 38, 0), some (2, 8, 0), some (0, 0, i)] [] σ1) (by decide) (by decide) (fun a2 σ1 q => fs_cp_38_8_2 hG q) h)⟩)
theorem fm_cp_39_9 (hinj : nn_inj ad) : fw_H l cy ad wr cr D 50 0 (cp_k 39 9 45) := fw_mk hinj (⟨"NameNotes", "copyRow", "([I[I)V"⟩, prog_1_method_88_code, 3, (Option.none : Option Jvm.ClassFile.FieldType), 2, false, 4) rfl rfl nn_KI1_ok nn_KJ1_ok nn_PF1_ok nn_PS1_ok (by decide +kernel) rfl rfl (fun _ h => absurd h List.not_mem_nil) (fun as σ K h => by
  obtain ⟨rfl, h⟩ := h
  exact ⟨rfl, fun G hG => fs_cp_39_9_0 hG (cp_gen (a := 39) (b := 9) (n := 45) (f := fw_c) (K := K) (σ := σ) (G2 := fun i σ1 => G 2 [some (2, 39, 0), some (2, 9, 0), some (0, 0, i)] [] σ1) (by decide) (by decide) (fun a2 σ1 q => fs_cp_39_9_2 hG q) h)⟩)
theorem fm_cp_40_10 (hinj : nn_inj ad) : fw_H l cy ad wr cr D 50 0 (cp_k 40 10 5) := fw_mk hinj (⟨"NameNotes", "copyRow", "([I[I)V"⟩, prog_1_method_88_code, 3, (Option.none : Option Jvm.ClassFile.FieldType), 2, false, 4) rfl rfl nn_KI1_ok nn_KJ1_ok nn_PF1_ok nn_PS1_ok (by decide +kernel) rfl rfl (fun _ h => absurd h List.not_mem_nil) (fun as σ K h => by
  obtain ⟨rfl, h⟩ := h
  exact ⟨rfl, fun G hG => fs_cp_40_10_0 hG (cp_gen (a := 40) (b := 10) (n := 5) (f := fw_c) (K := K) (σ := σ) (G2 := fun i σ1 => G 2 [some (2, 40, 0), some (2, 10, 0), some (0, 0, i)] [] σ1) (by decide) (by decide) (fun a2 σ1 q => fs_cp_40_10_2 hG q) h)⟩)
theorem fm_cp_45_15 (hinj : nn_inj ad) : fw_H l cy ad wr cr D 50 0 (cp_k 45 15 64) := fw_mk hinj (⟨"NameNotes", "copyRow", "([I[I)V"⟩, prog_1_method_88_code, 3, (Option.none : Option Jvm.ClassFile.FieldType), 2, false, 4) rfl rfl nn_KI1_ok nn_KJ1_ok nn_PF1_ok nn_PS1_ok (by decide +kernel) rfl rfl (fun _ h => absurd h List.not_mem_nil) (fun as σ K h => by
  obtain ⟨rfl, h⟩ := h
  exact ⟨rfl, fun G hG => fs_cp_45_15_0 hG (cp_gen (a := 45) (b := 15) (n := 64) (f := fw_c) (K := K) (σ := σ) (G2 := fun i σ1 => G 2 [some (2, 45, 0), some (2, 15, 0), some (0, 0, i)] [] σ1) (by decide) (by decide) (fun a2 σ1 q => fs_cp_45_15_2 hG q) h)⟩)
theorem fm_cp_46_16 (hinj : nn_inj ad) : fw_H l cy ad wr cr D 50 0 (cp_k 46 16 64) := fw_mk hinj (⟨"NameNotes", "copyRow", "([I[I)V"⟩, prog_1_method_88_code, 3, (Option.none : Option Jvm.ClassFile.FieldType), 2, false, 4) rfl rfl nn_KI1_ok nn_KJ1_ok nn_PF1_ok nn_PS1_ok (by decide +kernel) rfl rfl (fun _ h => absurd h List.not_mem_nil) (fun as σ K h => by
  obtain ⟨rfl, h⟩ := h
  exact ⟨rfl, fun G hG => fs_cp_46_16_0 hG (cp_gen (a := 46) (b := 16) (n := 64) (f := fw_c) (K := K) (σ := σ) (G2 := fun i σ1 => G 2 [some (2, 46, 0), some (2, 16, 0), some (0, 0, i)] [] σ1) (by decide) (by decide) (fun a2 σ1 q => fs_cp_46_16_2 hG q) h)⟩)
theorem fm_cp (hinj : nn_inj ad) : fw_H l cy ad wr cr D 50 0 sp_cp := fw_H_o3 (List.forall_mem_cons.mpr ⟨fm_cp_50_4 hinj, (List.forall_mem_cons.mpr ⟨fm_cp_51_5 hinj, (List.forall_mem_cons.mpr ⟨fm_cp_52_6 hinj, (List.forall_mem_cons.mpr ⟨fm_cp_53_7 hinj, (List.forall_mem_cons.mpr ⟨fm_cp_54_8 hinj, (List.forall_mem_cons.mpr ⟨fm_cp_55_9 hinj, (List.forall_mem_cons.mpr ⟨fm_cp_56_10 hinj, (List.forall_mem_cons.mpr ⟨fm_cp_61_15 hinj, (List.forall_mem_cons.mpr ⟨fm_cp_62_16 hinj, (List.forall_mem_cons.mpr ⟨fm_cp_4_19 hinj, (List.forall_mem_cons.mpr ⟨fm_cp_5_20 hinj, (List.forall_mem_cons.mpr ⟨fm_cp_6_21 hinj, (List.forall_mem_cons.mpr ⟨fm_cp_7_22 hinj, (List.forall_mem_cons.mpr ⟨fm_cp_8_23 hinj, (List.forall_mem_cons.mpr ⟨fm_cp_9_24 hinj, (List.forall_mem_cons.mpr ⟨fm_cp_10_25 hinj, (List.forall_mem_cons.mpr ⟨fm_cp_15_30 hinj, (List.forall_mem_cons.mpr ⟨fm_cp_16_31 hinj, (List.forall_mem_cons.mpr ⟨fm_cp_4_34 hinj, (List.forall_mem_cons.mpr ⟨fm_cp_5_35 hinj, (List.forall_mem_cons.mpr ⟨fm_cp_6_36 hinj, (List.forall_mem_cons.mpr ⟨fm_cp_7_37 hinj, (List.forall_mem_cons.mpr ⟨fm_cp_8_38 hinj, (List.forall_mem_cons.mpr ⟨fm_cp_9_39 hinj, (List.forall_mem_cons.mpr ⟨fm_cp_10_40 hinj, (List.forall_mem_cons.mpr ⟨fm_cp_15_45 hinj, (List.forall_mem_cons.mpr ⟨fm_cp_16_46 hinj, (List.forall_mem_cons.mpr ⟨fm_cp_19_4 hinj, (List.forall_mem_cons.mpr ⟨fm_cp_20_5 hinj, (List.forall_mem_cons.mpr ⟨fm_cp_21_6 hinj, (List.forall_mem_cons.mpr ⟨fm_cp_22_7 hinj, (List.forall_mem_cons.mpr ⟨fm_cp_23_8 hinj, (List.forall_mem_cons.mpr ⟨fm_cp_24_9 hinj, (List.forall_mem_cons.mpr ⟨fm_cp_25_10 hinj, (List.forall_mem_cons.mpr ⟨fm_cp_30_15 hinj, (List.forall_mem_cons.mpr ⟨fm_cp_31_16 hinj, (List.forall_mem_cons.mpr ⟨fm_cp_34_4 hinj, (List.forall_mem_cons.mpr ⟨fm_cp_35_5 hinj, (List.forall_mem_cons.mpr ⟨fm_cp_36_6 hinj, (List.forall_mem_cons.mpr ⟨fm_cp_37_7 hinj, (List.forall_mem_cons.mpr ⟨fm_cp_38_8 hinj, (List.forall_mem_cons.mpr ⟨fm_cp_39_9 hinj, (List.forall_mem_cons.mpr ⟨fm_cp_40_10 hinj, (List.forall_mem_cons.mpr ⟨fm_cp_45_15 hinj, (List.forall_mem_cons.mpr ⟨fm_cp_46_16 hinj, (fun _ h => absurd h List.not_mem_nil)⟩)⟩)⟩)⟩)⟩)⟩)⟩)⟩)⟩)⟩)⟩)⟩)⟩)⟩)⟩)⟩)⟩)⟩)⟩)⟩)⟩)⟩)⟩)⟩)⟩)⟩)⟩)⟩)⟩)⟩)⟩)⟩)⟩)⟩)⟩)⟩)⟩)⟩)⟩)⟩)⟩)⟩)⟩)⟩)⟩)
theorem fm_cl_57_11 (hinj : nn_inj ad) : fw_H l cy ad wr cr D 51 0 (cl_k 57 11 9) := fw_mk hinj (⟨"NameNotes", "copyRow", "([J[J)V"⟩, prog_1_method_89_code, 3, (Option.none : Option Jvm.ClassFile.FieldType), 2, false, 4) rfl rfl nn_KI1_ok nn_KJ1_ok nn_PF1_ok nn_PS1_ok (by decide +kernel) rfl rfl (fun _ h => absurd h List.not_mem_nil) (fun as σ K h => by
  obtain ⟨rfl, h⟩ := h
  exact ⟨rfl, fun G hG => fs_cl_57_11_0 hG (cp_gen (a := 57) (b := 11) (n := 9) (f := fw_d) (K := K) (σ := σ) (G2 := fun i σ1 => G 2 [some (2, 57, 0), some (2, 11, 0), some (0, 0, i)] [] σ1) (by decide) (by decide) (fun a2 σ1 q => fs_cl_57_11_2 hG q) h)⟩)
theorem fm_cl_58_12 (hinj : nn_inj ad) : fw_H l cy ad wr cr D 51 0 (cl_k 58 12 6) := fw_mk hinj (⟨"NameNotes", "copyRow", "([J[J)V"⟩, prog_1_method_89_code, 3, (Option.none : Option Jvm.ClassFile.FieldType), 2, false, 4) rfl rfl nn_KI1_ok nn_KJ1_ok nn_PF1_ok nn_PS1_ok (by decide +kernel) rfl rfl (fun _ h => absurd h List.not_mem_nil) (fun as σ K h => by
  obtain ⟨rfl, h⟩ := h
  exact ⟨rfl, fun G hG => fs_cl_58_12_0 hG (cp_gen (a := 58) (b := 12) (n := 6) (f := fw_d) (K := K) (σ := σ) (G2 := fun i σ1 => G 2 [some (2, 58, 0), some (2, 12, 0), some (0, 0, i)] [] σ1) (by decide) (by decide) (fun a2 σ1 q => fs_cl_58_12_2 hG q) h)⟩)
theorem fm_cl_59_13 (hinj : nn_inj ad) : fw_H l cy ad wr cr D 51 0 (cl_k 59 13 5) := fw_mk hinj (⟨"NameNotes", "copyRow", "([J[J)V"⟩, prog_1_method_89_code, 3, (Option.none : Option Jvm.ClassFile.FieldType), 2, false, 4) rfl rfl nn_KI1_ok nn_KJ1_ok nn_PF1_ok nn_PS1_ok (by decide +kernel) rfl rfl (fun _ h => absurd h List.not_mem_nil) (fun as σ K h => by
  obtain ⟨rfl, h⟩ := h
  exact ⟨rfl, fun G hG => fs_cl_59_13_0 hG (cp_gen (a := 59) (b := 13) (n := 5) (f := fw_d) (K := K) (σ := σ) (G2 := fun i σ1 => G 2 [some (2, 59, 0), some (2, 13, 0), some (0, 0, i)] [] σ1) (by decide) (by decide) (fun a2 σ1 q => fs_cl_59_13_2 hG q) h)⟩)
theorem fm_cl_11_26 (hinj : nn_inj ad) : fw_H l cy ad wr cr D 51 0 (cl_k 11 26 9) := fw_mk hinj (⟨"NameNotes", "copyRow", "([J[J)V"⟩, prog_1_method_89_code, 3, (Option.none : Option Jvm.ClassFile.FieldType), 2, false, 4) rfl rfl nn_KI1_ok nn_KJ1_ok nn_PF1_ok nn_PS1_ok (by decide +kernel) rfl rfl (fun _ h => absurd h List.not_mem_nil) (fun as σ K h => by
  obtain ⟨rfl, h⟩ := h
  exact ⟨rfl, fun G hG => fs_cl_11_26_0 hG (cp_gen (a := 11) (b := 26) (n := 9) (f := fw_d) (K := K) (σ := σ) (G2 := fun i σ1 => G 2 [some (2, 11, 0), some (2, 26, 0), some (0, 0, i)] [] σ1) (by decide) (by decide) (fun a2 σ1 q => fs_cl_11_26_2 hG q) h)⟩)
theorem fm_cl_12_27 (hinj : nn_inj ad) : fw_H l cy ad wr cr D 51 0 (cl_k 12 27 6) := fw_mk hinj (⟨"NameNotes", "copyRow", "([J[J)V"⟩, prog_1_method_89_code, 3, (Option.none : Option Jvm.ClassFile.FieldType), 2, false, 4) rfl rfl nn_KI1_ok nn_KJ1_ok nn_PF1_ok nn_PS1_ok (by decide +kernel) rfl rfl (fun _ h => absurd h List.not_mem_nil) (fun as σ K h => by
  obtain ⟨rfl, h⟩ := h
  exact ⟨rfl, fun G hG => fs_cl_12_27_0 hG (cp_gen (a := 12) (b := 27) (n := 6) (f := fw_d) (K := K) (σ := σ) (G2 := fun i σ1 => G 2 [some (2, 12, 0), some (2, 27, 0), some (0, 0, i)] [] σ1) (by decide) (by decide) (fun a2 σ1 q => fs_cl_12_27_2 hG q) h)⟩)
theorem fm_cl_13_28 (hinj : nn_inj ad) : fw_H l cy ad wr cr D 51 0 (cl_k 13 28 5) := fw_mk hinj (⟨"NameNotes", "copyRow", "([J[J)V"⟩, prog_1_method_89_code, 3, (Option.none : Option Jvm.ClassFile.FieldType), 2, false, 4) rfl rfl nn_KI1_ok nn_KJ1_ok nn_PF1_ok nn_PS1_ok (by decide +kernel) rfl rfl (fun _ h => absurd h List.not_mem_nil) (fun as σ K h => by
  obtain ⟨rfl, h⟩ := h
  exact ⟨rfl, fun G hG => fs_cl_13_28_0 hG (cp_gen (a := 13) (b := 28) (n := 5) (f := fw_d) (K := K) (σ := σ) (G2 := fun i σ1 => G 2 [some (2, 13, 0), some (2, 28, 0), some (0, 0, i)] [] σ1) (by decide) (by decide) (fun a2 σ1 q => fs_cl_13_28_2 hG q) h)⟩)
theorem fm_cl_11_41 (hinj : nn_inj ad) : fw_H l cy ad wr cr D 51 0 (cl_k 11 41 9) := fw_mk hinj (⟨"NameNotes", "copyRow", "([J[J)V"⟩, prog_1_method_89_code, 3, (Option.none : Option Jvm.ClassFile.FieldType), 2, false, 4) rfl rfl nn_KI1_ok nn_KJ1_ok nn_PF1_ok nn_PS1_ok (by decide +kernel) rfl rfl (fun _ h => absurd h List.not_mem_nil) (fun as σ K h => by
  obtain ⟨rfl, h⟩ := h
  exact ⟨rfl, fun G hG => fs_cl_11_41_0 hG (cp_gen (a := 11) (b := 41) (n := 9) (f := fw_d) (K := K) (σ := σ) (G2 := fun i σ1 => G 2 [some (2, 11, 0), some (2, 41, 0), some (0, 0, i)] [] σ1) (by decide) (by decide) (fun a2 σ1 q => fs_cl_11_41_2 hG q) h)⟩)
theorem fm_cl_12_42 (hinj : nn_inj ad) : fw_H l cy ad wr cr D 51 0 (cl_k 12 42 6) := fw_mk hinj (⟨"NameNotes", "copyRow", "([J[J)V"⟩, prog_1_method_89_code, 3, (Option.none : Option Jvm.ClassFile.FieldType), 2, false, 4) rfl rfl nn_KI1_ok nn_KJ1_ok nn_PF1_ok nn_PS1_ok (by decide +kernel) rfl rfl (fun _ h => absurd h List.not_mem_nil) (fun as σ K h => by
  obtain ⟨rfl, h⟩ := h
  exact ⟨rfl, fun G hG => fs_cl_12_42_0 hG (cp_gen (a := 12) (b := 42) (n := 6) (f := fw_d) (K := K) (σ := σ) (G2 := fun i σ1 => G 2 [some (2, 12, 0), some (2, 42, 0), some (0, 0, i)] [] σ1) (by decide) (by decide) (fun a2 σ1 q => fs_cl_12_42_2 hG q) h)⟩)
theorem fm_cl_13_43 (hinj : nn_inj ad) : fw_H l cy ad wr cr D 51 0 (cl_k 13 43 5) := fw_mk hinj (⟨"NameNotes", "copyRow", "([J[J)V"⟩, prog_1_method_89_code, 3, (Option.none : Option Jvm.ClassFile.FieldType), 2, false, 4) rfl rfl nn_KI1_ok nn_KJ1_ok nn_PF1_ok nn_PS1_ok (by decide +kernel) rfl rfl (fun _ h => absurd h List.not_mem_nil) (fun as σ K h => by
  obtain ⟨rfl, h⟩ := h
  exact ⟨rfl, fun G hG => fs_cl_13_43_0 hG (cp_gen (a := 13) (b := 43) (n := 5) (f := fw_d) (K := K) (σ := σ) (G2 := fun i σ1 => G 2 [some (2, 13, 0), some (2, 43, 0), some (0, 0, i)] [] σ1) (by decide) (by decide) (fun a2 σ1 q => fs_cl_13_43_2 hG q) h)⟩)
theorem fm_cl_26_11 (hinj : nn_inj ad) : fw_H l cy ad wr cr D 51 0 (cl_k 26 11 9) := fw_mk hinj (⟨"NameNotes", "copyRow", "([J[J)V"⟩, prog_1_method_89_code, 3, (Option.none : Option Jvm.ClassFile.FieldType), 2, false, 4) rfl rfl nn_KI1_ok nn_KJ1_ok nn_PF1_ok nn_PS1_ok (by decide +kernel) rfl rfl (fun _ h => absurd h List.not_mem_nil) (fun as σ K h => by
  obtain ⟨rfl, h⟩ := h
  exact ⟨rfl, fun G hG => fs_cl_26_11_0 hG (cp_gen (a := 26) (b := 11) (n := 9) (f := fw_d) (K := K) (σ := σ) (G2 := fun i σ1 => G 2 [some (2, 26, 0), some (2, 11, 0), some (0, 0, i)] [] σ1) (by decide) (by decide) (fun a2 σ1 q => fs_cl_26_11_2 hG q) h)⟩)
theorem fm_cl_27_12 (hinj : nn_inj ad) : fw_H l cy ad wr cr D 51 0 (cl_k 27 12 6) := fw_mk hinj (⟨"NameNotes", "copyRow", "([J[J)V"⟩, prog_1_method_89_code, 3, (Option.none : Option Jvm.ClassFile.FieldType), 2, false, 4) rfl rfl nn_KI1_ok nn_KJ1_ok nn_PF1_ok nn_PS1_ok (by decide +kernel) rfl rfl (fun _ h => absurd h List.not_mem_nil) (fun as σ K h => by
  obtain ⟨rfl, h⟩ := h
  exact ⟨rfl, fun G hG => fs_cl_27_12_0 hG (cp_gen (a := 27) (b := 12) (n := 6) (f := fw_d) (K := K) (σ := σ) (G2 := fun i σ1 => G 2 [some (2, 27, 0), some (2, 12, 0), some (0, 0, i)] [] σ1) (by decide) (by decide) (fun a2 σ1 q => fs_cl_27_12_2 hG q) h)⟩)
theorem fm_cl_28_13 (hinj : nn_inj ad) : fw_H l cy ad wr cr D 51 0 (cl_k 28 13 5) := fw_mk hinj (⟨"NameNotes", "copyRow", "([J[J)V"⟩, prog_1_method_89_code, 3, (Option.none : Option Jvm.ClassFile.FieldType), 2, false, 4) rfl rfl nn_KI1_ok nn_KJ1_ok nn_PF1_ok nn_PS1_ok (by decide +kernel) rfl rfl (fun _ h => absurd h List.not_mem_nil) (fun as σ K h => by
  obtain ⟨rfl, h⟩ := h
  exact ⟨rfl, fun G hG => fs_cl_28_13_0 hG (cp_gen (a := 28) (b := 13) (n := 5) (f := fw_d) (K := K) (σ := σ) (G2 := fun i σ1 => G 2 [some (2, 28, 0), some (2, 13, 0), some (0, 0, i)] [] σ1) (by decide) (by decide) (fun a2 σ1 q => fs_cl_28_13_2 hG q) h)⟩)
theorem fm_cl_41_11 (hinj : nn_inj ad) : fw_H l cy ad wr cr D 51 0 (cl_k 41 11 9) := fw_mk hinj (⟨"NameNotes", "copyRow", "([J[J)V"⟩, prog_1_method_89_code, 3, (Option.none : Option Jvm.ClassFile.FieldType), 2, false, 4) rfl rfl nn_KI1_ok nn_KJ1_ok nn_PF1_ok nn_PS1_ok (by decide +kernel) rfl rfl (fun _ h => absurd h List.not_mem_nil) (fun as σ K h => by
  obtain ⟨rfl, h⟩ := h
  exact ⟨rfl, fun G hG => fs_cl_41_11_0 hG (cp_gen (a := 41) (b := 11) (n := 9) (f := fw_d) (K := K) (σ := σ) (G2 := fun i σ1 => G 2 [some (2, 41, 0), some (2, 11, 0), some (0, 0, i)] [] σ1) (by decide) (by decide) (fun a2 σ1 q => fs_cl_41_11_2 hG q) h)⟩)
theorem fm_cl_42_12 (hinj : nn_inj ad) : fw_H l cy ad wr cr D 51 0 (cl_k 42 12 6) := fw_mk hinj (⟨"NameNotes", "copyRow", "([J[J)V"⟩, prog_1_method_89_code, 3, (Option.none : Option Jvm.ClassFile.FieldType), 2, false, 4) rfl rfl nn_KI1_ok nn_KJ1_ok nn_PF1_ok nn_PS1_ok (by decide +kernel) rfl rfl (fun _ h => absurd h List.not_mem_nil) (fun as σ K h => by
  obtain ⟨rfl, h⟩ := h
  exact ⟨rfl, fun G hG => fs_cl_42_12_0 hG (cp_gen (a := 42) (b := 12) (n := 6) (f := fw_d) (K := K) (σ := σ) (G2 := fun i σ1 => G 2 [some (2, 42, 0), some (2, 12, 0), some (0, 0, i)] [] σ1) (by decide) (by decide) (fun a2 σ1 q => fs_cl_42_12_2 hG q) h)⟩)
theorem fm_cl_43_13 (hinj : nn_inj ad) : fw_H l cy ad wr cr D 51 0 (cl_k 43 13 5) := fw_mk hinj (⟨"NameNotes", "copyRow", "([J[J)V"⟩, prog_1_method_89_code, 3, (Option.none : Option Jvm.ClassFile.FieldType), 2, false, 4) rfl rfl nn_KI1_ok nn_KJ1_ok nn_PF1_ok nn_PS1_ok (by decide +kernel) rfl rfl (fun _ h => absurd h List.not_mem_nil) (fun as σ K h => by
  obtain ⟨rfl, h⟩ := h
  exact ⟨rfl, fun G hG => fs_cl_43_13_0 hG (cp_gen (a := 43) (b := 13) (n := 5) (f := fw_d) (K := K) (σ := σ) (G2 := fun i σ1 => G 2 [some (2, 43, 0), some (2, 13, 0), some (0, 0, i)] [] σ1) (by decide) (by decide) (fun a2 σ1 q => fs_cl_43_13_2 hG q) h)⟩)
theorem fm_cl (hinj : nn_inj ad) : fw_H l cy ad wr cr D 51 0 sp_cl := fw_H_o3 (List.forall_mem_cons.mpr ⟨fm_cl_57_11 hinj, (List.forall_mem_cons.mpr ⟨fm_cl_58_12 hinj, (List.forall_mem_cons.mpr ⟨fm_cl_59_13 hinj, (List.forall_mem_cons.mpr ⟨fm_cl_11_26 hinj, (List.forall_mem_cons.mpr ⟨fm_cl_12_27 hinj, (List.forall_mem_cons.mpr ⟨fm_cl_13_28 hinj, (List.forall_mem_cons.mpr ⟨fm_cl_11_41 hinj, (List.forall_mem_cons.mpr ⟨fm_cl_12_42 hinj, (List.forall_mem_cons.mpr ⟨fm_cl_13_43 hinj, (List.forall_mem_cons.mpr ⟨fm_cl_26_11 hinj, (List.forall_mem_cons.mpr ⟨fm_cl_27_12 hinj, (List.forall_mem_cons.mpr ⟨fm_cl_28_13 hinj, (List.forall_mem_cons.mpr ⟨fm_cl_41_11 hinj, (List.forall_mem_cons.mpr ⟨fm_cl_42_12 hinj, (List.forall_mem_cons.mpr ⟨fm_cl_43_13 hinj, (fun _ h => absurd h List.not_mem_nil)⟩)⟩)⟩)⟩)⟩)⟩)⟩)⟩)⟩)⟩)⟩)⟩)⟩)⟩)⟩)
theorem fm_scopy_49_3 (hinj : nn_inj ad) : fw_H l cy ad wr cr D 52 1 (sc_k 49 3) := fw_mk hinj (⟨"NameNotes$Sentence", "copy", "(LNameNotes$Sentence;)V"⟩, prog_7_method_3_code, 2, (Option.none : Option Jvm.ClassFile.FieldType), 1, true, 4) rfl rfl nn_KI5_ok nn_KJ5_ok nn_PF5_ok nn_PS5_ok (by decide +kernel) rfl rfl (List.forall_mem_cons.mpr ⟨fw_row nn_PM5_ok (x := 28) (k := 2) (mn := 50) (np := 2) (ob := false) (ci := 0) (⟨"NameNotes", "copyRow", "([I[I)V"⟩, prog_1_method_88_code, 3, (Option.none : Option Jvm.ClassFile.FieldType), 2, false, 4) rfl (by decide +kernel) rfl rfl (by decide) (fun q => by cases q) (fm_cp hinj), (fun _ h => absurd h List.not_mem_nil)⟩) (fun as σ K h => by
  obtain ⟨rfl, h⟩ := h
  refine ⟨rfl, fun G hG => fs_scopy_49_3_0 hG ⟨(61, 15, 64), by decide, rfl, fun σ1 M1 c1 => fs_scopy_49_3_11 hG ⟨(62, 16, 64), by decide, rfl, fun σ2 M2 c2 => fs_scopy_49_3_22 hG ?_⟩⟩⟩
  have M1 : ab_okM [(15, 1000000)] σ σ1 := M1
  have M2 : ab_okM [(16, 1000000)] σ1 σ2 := M2
  have c1 : ∀ j : Nat, j < 64 → σ1 15 j = fw_c (σ 61 j) := c1
  have c2 : ∀ j : Nat, j < 64 → σ2 16 j = fw_c (σ1 62 j) := c2
  have N2 : ab_okM [(15, 1000000), (16, 1000000)] σ σ2 := fw_okM_tr (fw_okM_tr (fw_okM_refl _ _) M1 (by decide)) M2 (by decide)
  refine h _ (fw_okM_ups (fw_okM_ups (fw_okM_tr (fw_okM_refl _ _) N2 (by decide)) (by decide)) (by decide)) ⟨fun j hj => ?_, fun j hj => ?_, ?_, ?_⟩
  · show ab_ups (ab_ups σ2 14 3 (fw_c (σ2 60 3))) 14 4 (fw_c (σ2 60 4)) 15 j = fw_c (σ 61 j)
    rw [ab_ups_ne (fun z => absurd z.1 (by decide)), ab_ups_ne (fun z => absurd z.1 (by decide)), show σ2 15 = σ1 15 from fw_okM_c M2 (by decide)]; exact c1 j hj
  · show ab_ups (ab_ups σ2 14 3 (fw_c (σ2 60 3))) 14 4 (fw_c (σ2 60 4)) 16 j = fw_c (σ 62 j)
    rw [ab_ups_ne (fun z => absurd z.1 (by decide)), ab_ups_ne (fun z => absurd z.1 (by decide)), c2 j hj, show σ1 62 = σ 62 from fw_okM_c M1 (by decide)]
  · show ab_ups (ab_ups σ2 14 3 (fw_c (σ2 60 3))) 14 4 (fw_c (σ2 60 4)) 14 3 = fw_c (σ 60 3)
    rw [ab_ups_ne (by decide), ab_ups_eq, show σ2 60 = σ 60 from fw_okM_c N2 (by decide)]
  · show ab_ups (ab_ups σ2 14 3 (fw_c (σ2 60 3))) 14 4 (fw_c (σ2 60 4)) 14 4 = fw_c (σ 60 4)
    rw [ab_ups_eq, show σ2 60 = σ 60 from fw_okM_c N2 (by decide)])
theorem fm_scopy_3_18 (hinj : nn_inj ad) : fw_H l cy ad wr cr D 52 1 (sc_k 3 18) := fw_mk hinj (⟨"NameNotes$Sentence", "copy", "(LNameNotes$Sentence;)V"⟩, prog_7_method_3_code, 2, (Option.none : Option Jvm.ClassFile.FieldType), 1, true, 4) rfl rfl nn_KI5_ok nn_KJ5_ok nn_PF5_ok nn_PS5_ok (by decide +kernel) rfl rfl (List.forall_mem_cons.mpr ⟨fw_row nn_PM5_ok (x := 28) (k := 2) (mn := 50) (np := 2) (ob := false) (ci := 0) (⟨"NameNotes", "copyRow", "([I[I)V"⟩, prog_1_method_88_code, 3, (Option.none : Option Jvm.ClassFile.FieldType), 2, false, 4) rfl (by decide +kernel) rfl rfl (by decide) (fun q => by cases q) (fm_cp hinj), (fun _ h => absurd h List.not_mem_nil)⟩) (fun as σ K h => by
  obtain ⟨rfl, h⟩ := h
  refine ⟨rfl, fun G hG => fs_scopy_3_18_0 hG ⟨(15, 30, 64), by decide, rfl, fun σ1 M1 c1 => fs_scopy_3_18_11 hG ⟨(16, 31, 64), by decide, rfl, fun σ2 M2 c2 => fs_scopy_3_18_22 hG ?_⟩⟩⟩
  have M1 : ab_okM [(30, 1000000)] σ σ1 := M1
  have M2 : ab_okM [(31, 1000000)] σ1 σ2 := M2
  have c1 : ∀ j : Nat, j < 64 → σ1 30 j = fw_c (σ 15 j) := c1
  have c2 : ∀ j : Nat, j < 64 → σ2 31 j = fw_c (σ1 16 j) := c2
  have N2 : ab_okM [(30, 1000000), (31, 1000000)] σ σ2 := fw_okM_tr (fw_okM_tr (fw_okM_refl _ _) M1 (by decide)) M2 (by decide)
  refine h _ (fw_okM_ups (fw_okM_ups (fw_okM_tr (fw_okM_refl _ _) N2 (by decide)) (by decide)) (by decide)) ⟨fun j hj => ?_, fun j hj => ?_, ?_, ?_⟩
  · show ab_ups (ab_ups σ2 29 3 (fw_c (σ2 14 3))) 29 4 (fw_c (σ2 14 4)) 30 j = fw_c (σ 15 j)
    rw [ab_ups_ne (fun z => absurd z.1 (by decide)), ab_ups_ne (fun z => absurd z.1 (by decide)), show σ2 30 = σ1 30 from fw_okM_c M2 (by decide)]; exact c1 j hj
  · show ab_ups (ab_ups σ2 29 3 (fw_c (σ2 14 3))) 29 4 (fw_c (σ2 14 4)) 31 j = fw_c (σ 16 j)
    rw [ab_ups_ne (fun z => absurd z.1 (by decide)), ab_ups_ne (fun z => absurd z.1 (by decide)), c2 j hj, show σ1 16 = σ 16 from fw_okM_c M1 (by decide)]
  · show ab_ups (ab_ups σ2 29 3 (fw_c (σ2 14 3))) 29 4 (fw_c (σ2 14 4)) 29 3 = fw_c (σ 14 3)
    rw [ab_ups_ne (by decide), ab_ups_eq, show σ2 14 = σ 14 from fw_okM_c N2 (by decide)]
  · show ab_ups (ab_ups σ2 29 3 (fw_c (σ2 14 3))) 29 4 (fw_c (σ2 14 4)) 29 4 = fw_c (σ 14 4)
    rw [ab_ups_eq, show σ2 14 = σ 14 from fw_okM_c N2 (by decide)])
theorem fm_scopy_3_33 (hinj : nn_inj ad) : fw_H l cy ad wr cr D 52 1 (sc_k 3 33) := fw_mk hinj (⟨"NameNotes$Sentence", "copy", "(LNameNotes$Sentence;)V"⟩, prog_7_method_3_code, 2, (Option.none : Option Jvm.ClassFile.FieldType), 1, true, 4) rfl rfl nn_KI5_ok nn_KJ5_ok nn_PF5_ok nn_PS5_ok (by decide +kernel) rfl rfl (List.forall_mem_cons.mpr ⟨fw_row nn_PM5_ok (x := 28) (k := 2) (mn := 50) (np := 2) (ob := false) (ci := 0) (⟨"NameNotes", "copyRow", "([I[I)V"⟩, prog_1_method_88_code, 3, (Option.none : Option Jvm.ClassFile.FieldType), 2, false, 4) rfl (by decide +kernel) rfl rfl (by decide) (fun q => by cases q) (fm_cp hinj), (fun _ h => absurd h List.not_mem_nil)⟩) (fun as σ K h => by
  obtain ⟨rfl, h⟩ := h
  refine ⟨rfl, fun G hG => fs_scopy_3_33_0 hG ⟨(15, 45, 64), by decide, rfl, fun σ1 M1 c1 => fs_scopy_3_33_11 hG ⟨(16, 46, 64), by decide, rfl, fun σ2 M2 c2 => fs_scopy_3_33_22 hG ?_⟩⟩⟩
  have M1 : ab_okM [(45, 1000000)] σ σ1 := M1
  have M2 : ab_okM [(46, 1000000)] σ1 σ2 := M2
  have c1 : ∀ j : Nat, j < 64 → σ1 45 j = fw_c (σ 15 j) := c1
  have c2 : ∀ j : Nat, j < 64 → σ2 46 j = fw_c (σ1 16 j) := c2
  have N2 : ab_okM [(45, 1000000), (46, 1000000)] σ σ2 := fw_okM_tr (fw_okM_tr (fw_okM_refl _ _) M1 (by decide)) M2 (by decide)
  refine h _ (fw_okM_ups (fw_okM_ups (fw_okM_tr (fw_okM_refl _ _) N2 (by decide)) (by decide)) (by decide)) ⟨fun j hj => ?_, fun j hj => ?_, ?_, ?_⟩
  · show ab_ups (ab_ups σ2 44 3 (fw_c (σ2 14 3))) 44 4 (fw_c (σ2 14 4)) 45 j = fw_c (σ 15 j)
    rw [ab_ups_ne (fun z => absurd z.1 (by decide)), ab_ups_ne (fun z => absurd z.1 (by decide)), show σ2 45 = σ1 45 from fw_okM_c M2 (by decide)]; exact c1 j hj
  · show ab_ups (ab_ups σ2 44 3 (fw_c (σ2 14 3))) 44 4 (fw_c (σ2 14 4)) 46 j = fw_c (σ 16 j)
    rw [ab_ups_ne (fun z => absurd z.1 (by decide)), ab_ups_ne (fun z => absurd z.1 (by decide)), c2 j hj, show σ1 16 = σ 16 from fw_okM_c M1 (by decide)]
  · show ab_ups (ab_ups σ2 44 3 (fw_c (σ2 14 3))) 44 4 (fw_c (σ2 14 4)) 44 3 = fw_c (σ 14 3)
    rw [ab_ups_ne (by decide), ab_ups_eq, show σ2 14 = σ 14 from fw_okM_c N2 (by decide)]
  · show ab_ups (ab_ups σ2 44 3 (fw_c (σ2 14 3))) 44 4 (fw_c (σ2 14 4)) 44 4 = fw_c (σ 14 4)
    rw [ab_ups_eq, show σ2 14 = σ 14 from fw_okM_c N2 (by decide)])
theorem fm_scopy_18_3 (hinj : nn_inj ad) : fw_H l cy ad wr cr D 52 1 (sc_k 18 3) := fw_mk hinj (⟨"NameNotes$Sentence", "copy", "(LNameNotes$Sentence;)V"⟩, prog_7_method_3_code, 2, (Option.none : Option Jvm.ClassFile.FieldType), 1, true, 4) rfl rfl nn_KI5_ok nn_KJ5_ok nn_PF5_ok nn_PS5_ok (by decide +kernel) rfl rfl (List.forall_mem_cons.mpr ⟨fw_row nn_PM5_ok (x := 28) (k := 2) (mn := 50) (np := 2) (ob := false) (ci := 0) (⟨"NameNotes", "copyRow", "([I[I)V"⟩, prog_1_method_88_code, 3, (Option.none : Option Jvm.ClassFile.FieldType), 2, false, 4) rfl (by decide +kernel) rfl rfl (by decide) (fun q => by cases q) (fm_cp hinj), (fun _ h => absurd h List.not_mem_nil)⟩) (fun as σ K h => by
  obtain ⟨rfl, h⟩ := h
  refine ⟨rfl, fun G hG => fs_scopy_18_3_0 hG ⟨(30, 15, 64), by decide, rfl, fun σ1 M1 c1 => fs_scopy_18_3_11 hG ⟨(31, 16, 64), by decide, rfl, fun σ2 M2 c2 => fs_scopy_18_3_22 hG ?_⟩⟩⟩
  have M1 : ab_okM [(15, 1000000)] σ σ1 := M1
  have M2 : ab_okM [(16, 1000000)] σ1 σ2 := M2
  have c1 : ∀ j : Nat, j < 64 → σ1 15 j = fw_c (σ 30 j) := c1
  have c2 : ∀ j : Nat, j < 64 → σ2 16 j = fw_c (σ1 31 j) := c2
  have N2 : ab_okM [(15, 1000000), (16, 1000000)] σ σ2 := fw_okM_tr (fw_okM_tr (fw_okM_refl _ _) M1 (by decide)) M2 (by decide)
  refine h _ (fw_okM_ups (fw_okM_ups (fw_okM_tr (fw_okM_refl _ _) N2 (by decide)) (by decide)) (by decide)) ⟨fun j hj => ?_, fun j hj => ?_, ?_, ?_⟩
  · show ab_ups (ab_ups σ2 14 3 (fw_c (σ2 29 3))) 14 4 (fw_c (σ2 29 4)) 15 j = fw_c (σ 30 j)
    rw [ab_ups_ne (fun z => absurd z.1 (by decide)), ab_ups_ne (fun z => absurd z.1 (by decide)), show σ2 15 = σ1 15 from fw_okM_c M2 (by decide)]; exact c1 j hj
  · show ab_ups (ab_ups σ2 14 3 (fw_c (σ2 29 3))) 14 4 (fw_c (σ2 29 4)) 16 j = fw_c (σ 31 j)
    rw [ab_ups_ne (fun z => absurd z.1 (by decide)), ab_ups_ne (fun z => absurd z.1 (by decide)), c2 j hj, show σ1 31 = σ 31 from fw_okM_c M1 (by decide)]
  · show ab_ups (ab_ups σ2 14 3 (fw_c (σ2 29 3))) 14 4 (fw_c (σ2 29 4)) 14 3 = fw_c (σ 29 3)
    rw [ab_ups_ne (by decide), ab_ups_eq, show σ2 29 = σ 29 from fw_okM_c N2 (by decide)]
  · show ab_ups (ab_ups σ2 14 3 (fw_c (σ2 29 3))) 14 4 (fw_c (σ2 29 4)) 14 4 = fw_c (σ 29 4)
    rw [ab_ups_eq, show σ2 29 = σ 29 from fw_okM_c N2 (by decide)])
theorem fm_scopy_33_3 (hinj : nn_inj ad) : fw_H l cy ad wr cr D 52 1 (sc_k 33 3) := fw_mk hinj (⟨"NameNotes$Sentence", "copy", "(LNameNotes$Sentence;)V"⟩, prog_7_method_3_code, 2, (Option.none : Option Jvm.ClassFile.FieldType), 1, true, 4) rfl rfl nn_KI5_ok nn_KJ5_ok nn_PF5_ok nn_PS5_ok (by decide +kernel) rfl rfl (List.forall_mem_cons.mpr ⟨fw_row nn_PM5_ok (x := 28) (k := 2) (mn := 50) (np := 2) (ob := false) (ci := 0) (⟨"NameNotes", "copyRow", "([I[I)V"⟩, prog_1_method_88_code, 3, (Option.none : Option Jvm.ClassFile.FieldType), 2, false, 4) rfl (by decide +kernel) rfl rfl (by decide) (fun q => by cases q) (fm_cp hinj), (fun _ h => absurd h List.not_mem_nil)⟩) (fun as σ K h => by
  obtain ⟨rfl, h⟩ := h
  refine ⟨rfl, fun G hG => fs_scopy_33_3_0 hG ⟨(45, 15, 64), by decide, rfl, fun σ1 M1 c1 => fs_scopy_33_3_11 hG ⟨(46, 16, 64), by decide, rfl, fun σ2 M2 c2 => fs_scopy_33_3_22 hG ?_⟩⟩⟩
  have M1 : ab_okM [(15, 1000000)] σ σ1 := M1
  have M2 : ab_okM [(16, 1000000)] σ1 σ2 := M2
  have c1 : ∀ j : Nat, j < 64 → σ1 15 j = fw_c (σ 45 j) := c1
  have c2 : ∀ j : Nat, j < 64 → σ2 16 j = fw_c (σ1 46 j) := c2
  have N2 : ab_okM [(15, 1000000), (16, 1000000)] σ σ2 := fw_okM_tr (fw_okM_tr (fw_okM_refl _ _) M1 (by decide)) M2 (by decide)
  refine h _ (fw_okM_ups (fw_okM_ups (fw_okM_tr (fw_okM_refl _ _) N2 (by decide)) (by decide)) (by decide)) ⟨fun j hj => ?_, fun j hj => ?_, ?_, ?_⟩
  · show ab_ups (ab_ups σ2 14 3 (fw_c (σ2 44 3))) 14 4 (fw_c (σ2 44 4)) 15 j = fw_c (σ 45 j)
    rw [ab_ups_ne (fun z => absurd z.1 (by decide)), ab_ups_ne (fun z => absurd z.1 (by decide)), show σ2 15 = σ1 15 from fw_okM_c M2 (by decide)]; exact c1 j hj
  · show ab_ups (ab_ups σ2 14 3 (fw_c (σ2 44 3))) 14 4 (fw_c (σ2 44 4)) 16 j = fw_c (σ 46 j)
    rw [ab_ups_ne (fun z => absurd z.1 (by decide)), ab_ups_ne (fun z => absurd z.1 (by decide)), c2 j hj, show σ1 46 = σ 46 from fw_okM_c M1 (by decide)]
  · show ab_ups (ab_ups σ2 14 3 (fw_c (σ2 44 3))) 14 4 (fw_c (σ2 44 4)) 14 3 = fw_c (σ 44 3)
    rw [ab_ups_ne (by decide), ab_ups_eq, show σ2 44 = σ 44 from fw_okM_c N2 (by decide)]
  · show ab_ups (ab_ups σ2 14 3 (fw_c (σ2 44 3))) 14 4 (fw_c (σ2 44 4)) 14 4 = fw_c (σ 44 4)
    rw [ab_ups_eq, show σ2 44 = σ 44 from fw_okM_c N2 (by decide)])
theorem fm_scopy (hinj : nn_inj ad) : fw_H l cy ad wr cr D 52 1 sp_scopy := fw_H_of (List.forall_mem_cons.mpr ⟨fm_scopy_49_3 hinj, (List.forall_mem_cons.mpr ⟨fm_scopy_3_18 hinj, (List.forall_mem_cons.mpr ⟨fm_scopy_3_33 hinj, (List.forall_mem_cons.mpr ⟨fm_scopy_18_3 hinj, (List.forall_mem_cons.mpr ⟨fm_scopy_33_3 hinj, (fun _ h => absurd h List.not_mem_nil)⟩)⟩)⟩)⟩)⟩)
theorem fm_copy_49_3 (hinj : nn_inj ad) : fw_H l cy ad wr cr D 49 2 (cy_k 49 3) := fw_mk hinj (⟨"NameNotes$Studio", "copy", "(LNameNotes$Studio;)V"⟩, prog_8_method_3_code, 2, (Option.none : Option Jvm.ClassFile.FieldType), 1, true, 4) rfl rfl nn_KI6_ok nn_KJ6_ok nn_PF6_ok nn_PS6_ok (by decide +kernel) rfl rfl (List.forall_mem_cons.mpr ⟨fw_row nn_PM6_ok (x := 70) (k := 2) (mn := 50) (np := 2) (ob := false) (ci := 0) (⟨"NameNotes", "copyRow", "([I[I)V"⟩, prog_1_method_88_code, 3, (Option.none : Option Jvm.ClassFile.FieldType), 2, false, 4) rfl (by decide +kernel) rfl rfl (by decide) (fun q => by cases q) (fm_cp hinj), (List.forall_mem_cons.mpr ⟨fw_row nn_PM6_ok (x := 74) (k := 2) (mn := 51) (np := 2) (ob := false) (ci := 0) (⟨"NameNotes", "copyRow", "([J[J)V"⟩, prog_1_method_89_code, 3, (Option.none : Option Jvm.ClassFile.FieldType), 2, false, 4) rfl (by decide +kernel) rfl rfl (by decide) (fun q => by cases q) (fm_cl hinj), (List.forall_mem_cons.mpr ⟨fw_row nn_PM6_ok (x := 77) (k := 0) (mn := 52) (np := 1) (ob := true) (ci := 5) (⟨"NameNotes$Sentence", "copy", "(LNameNotes$Sentence;)V"⟩, prog_7_method_3_code, 2, (Option.none : Option Jvm.ClassFile.FieldType), 1, true, 4) rfl (by decide +kernel) rfl rfl (by decide) (fun _ => ⟨_, _, rfl⟩) (fm_scopy hinj), (fun _ h => absurd h List.not_mem_nil)⟩)⟩)⟩) (fun as σ0 K h => by
  obtain ⟨rfl, h⟩ := h
  refine ⟨rfl, fun G hG => fs_copy_49_3_0 hG ⟨(50, 4, 81), by decide, rfl, fun σ1 M1 c1 => fs_copy_49_3_11 hG ⟨(51, 5, 81), by decide, rfl, fun σ2 M2 c2 => fs_copy_49_3_22 hG ⟨(52, 6, 9), by decide, rfl, fun σ3 M3 c3 => fs_copy_49_3_33 hG ⟨(53, 7, 324), by decide, rfl, fun σ4 M4 c4 => fs_copy_49_3_44 hG ⟨(54, 8, 6), by decide, rfl, fun σ5 M5 c5 => fs_copy_49_3_55 hG ⟨(55, 9, 45), by decide, rfl, fun σ6 M6 c6 => fs_copy_49_3_66 hG ⟨(56, 10, 5), by decide, rfl, fun σ7 M7 c7 => fs_copy_49_3_77 hG ⟨(57, 11, 9), by decide, rfl, fun σ8 M8 c8 => fs_copy_49_3_88 hG ⟨(58, 12, 6), by decide, rfl, fun σ9 M9 c9 => fs_copy_49_3_99 hG ⟨(59, 13, 5), by decide, rfl, fun σ10 M10 c10 => fs_copy_49_3_110 hG ⟨(49, 3), by decide, rfl, fun σ11 M11 c11 => fs_copy_49_3_121 hG ?_⟩⟩⟩⟩⟩⟩⟩⟩⟩⟩⟩⟩
  have M1 : ab_okM [(4, 1000000)] σ0 σ1 := M1
  have c1 : ∀ j : Nat, j < 81 → σ1 4 j = fw_c (σ0 50 j) := c1
  have M2 : ab_okM [(5, 1000000)] σ1 σ2 := M2
  have c2 : ∀ j : Nat, j < 81 → σ2 5 j = fw_c (σ1 51 j) := c2
  have M3 : ab_okM [(6, 1000000)] σ2 σ3 := M3
  have c3 : ∀ j : Nat, j < 9 → σ3 6 j = fw_c (σ2 52 j) := c3
  have M4 : ab_okM [(7, 1000000)] σ3 σ4 := M4
  have c4 : ∀ j : Nat, j < 324 → σ4 7 j = fw_c (σ3 53 j) := c4
  have M5 : ab_okM [(8, 1000000)] σ4 σ5 := M5
  have c5 : ∀ j : Nat, j < 6 → σ5 8 j = fw_c (σ4 54 j) := c5
  have M6 : ab_okM [(9, 1000000)] σ5 σ6 := M6
  have c6 : ∀ j : Nat, j < 45 → σ6 9 j = fw_c (σ5 55 j) := c6
  have M7 : ab_okM [(10, 1000000)] σ6 σ7 := M7
  have c7 : ∀ j : Nat, j < 5 → σ7 10 j = fw_c (σ6 56 j) := c7
  have M8 : ab_okM [(11, 1000000)] σ7 σ8 := M8
  have c8 : ∀ j : Nat, j < 9 → σ8 11 j = fw_d (σ7 57 j) := c8
  have M9 : ab_okM [(12, 1000000)] σ8 σ9 := M9
  have c9 : ∀ j : Nat, j < 6 → σ9 12 j = fw_d (σ8 58 j) := c9
  have M10 : ab_okM [(13, 1000000)] σ9 σ10 := M10
  have c10 : ∀ j : Nat, j < 5 → σ10 13 j = fw_d (σ9 59 j) := c10
  have M11 : ab_okM (sc_M 3) σ10 σ11 := M11
  have c11 : sc_is σ10 σ11 49 3 := c11
  have N1 : ab_okM ((4, 1000000) :: []) σ0 σ1 := fw_okM_tr (fw_okM_refl _ _) M1 (by decide)
  have N2 : ab_okM ((4, 1000000) :: (5, 1000000) :: []) σ0 σ2 := fw_okM_tr (fw_okM_tr (fw_okM_refl _ _) N1 (by decide)) M2 (by decide)
  have N3 : ab_okM ((4, 1000000) :: (5, 1000000) :: (6, 1000000) :: []) σ0 σ3 := fw_okM_tr (fw_okM_tr (fw_okM_refl _ _) N2 (by decide)) M3 (by decide)
  have N4 : ab_okM ((4, 1000000) :: (5, 1000000) :: (6, 1000000) :: (7, 1000000) :: []) σ0 σ4 := fw_okM_tr (fw_okM_tr (fw_okM_refl _ _) N3 (by decide)) M4 (by decide)
  have N5 : ab_okM ((4, 1000000) :: (5, 1000000) :: (6, 1000000) :: (7, 1000000) :: (8, 1000000) :: []) σ0 σ5 := fw_okM_tr (fw_okM_tr (fw_okM_refl _ _) N4 (by decide)) M5 (by decide)
  have N6 : ab_okM ((4, 1000000) :: (5, 1000000) :: (6, 1000000) :: (7, 1000000) :: (8, 1000000) :: (9, 1000000) :: []) σ0 σ6 := fw_okM_tr (fw_okM_tr (fw_okM_refl _ _) N5 (by decide)) M6 (by decide)
  have N7 : ab_okM ((4, 1000000) :: (5, 1000000) :: (6, 1000000) :: (7, 1000000) :: (8, 1000000) :: (9, 1000000) :: (10, 1000000) :: []) σ0 σ7 := fw_okM_tr (fw_okM_tr (fw_okM_refl _ _) N6 (by decide)) M7 (by decide)
  have N8 : ab_okM ((4, 1000000) :: (5, 1000000) :: (6, 1000000) :: (7, 1000000) :: (8, 1000000) :: (9, 1000000) :: (10, 1000000) :: (11, 1000000) :: []) σ0 σ8 := fw_okM_tr (fw_okM_tr (fw_okM_refl _ _) N7 (by decide)) M8 (by decide)
  have N9 : ab_okM ((4, 1000000) :: (5, 1000000) :: (6, 1000000) :: (7, 1000000) :: (8, 1000000) :: (9, 1000000) :: (10, 1000000) :: (11, 1000000) :: (12, 1000000) :: []) σ0 σ9 := fw_okM_tr (fw_okM_tr (fw_okM_refl _ _) N8 (by decide)) M9 (by decide)
  have N10 : ab_okM ((4, 1000000) :: (5, 1000000) :: (6, 1000000) :: (7, 1000000) :: (8, 1000000) :: (9, 1000000) :: (10, 1000000) :: (11, 1000000) :: (12, 1000000) :: (13, 1000000) :: []) σ0 σ10 := fw_okM_tr (fw_okM_tr (fw_okM_refl _ _) N9 (by decide)) M10 (by decide)
  have N11 : ab_okM ((4, 1000000) :: (5, 1000000) :: (6, 1000000) :: (7, 1000000) :: (8, 1000000) :: (9, 1000000) :: (10, 1000000) :: (11, 1000000) :: (12, 1000000) :: (13, 1000000) :: sc_M 3) σ0 σ11 := fw_okM_tr (fw_okM_tr (fw_okM_refl _ _) N10 (by decide)) M11 (by decide)
  have Q11 : ab_okM ([]) σ11 σ11 := fw_okM_refl _ _
  have Q10 : ab_okM (sc_M 3) σ10 σ11 := fw_okM_tr (fw_okM_tr (fw_okM_refl _ _) M11 (by decide)) Q11 (by decide)
  have Q9 : ab_okM ((13, 1000000) :: sc_M 3) σ9 σ11 := fw_okM_tr (fw_okM_tr (fw_okM_refl _ _) M10 (by decide)) Q10 (by decide)
  have Q8 : ab_okM ((12, 1000000) :: (13, 1000000) :: sc_M 3) σ8 σ11 := fw_okM_tr (fw_okM_tr (fw_okM_refl _ _) M9 (by decide)) Q9 (by decide)
  have Q7 : ab_okM ((11, 1000000) :: (12, 1000000) :: (13, 1000000) :: sc_M 3) σ7 σ11 := fw_okM_tr (fw_okM_tr (fw_okM_refl _ _) M8 (by decide)) Q8 (by decide)
  have Q6 : ab_okM ((10, 1000000) :: (11, 1000000) :: (12, 1000000) :: (13, 1000000) :: sc_M 3) σ6 σ11 := fw_okM_tr (fw_okM_tr (fw_okM_refl _ _) M7 (by decide)) Q7 (by decide)
  have Q5 : ab_okM ((9, 1000000) :: (10, 1000000) :: (11, 1000000) :: (12, 1000000) :: (13, 1000000) :: sc_M 3) σ5 σ11 := fw_okM_tr (fw_okM_tr (fw_okM_refl _ _) M6 (by decide)) Q6 (by decide)
  have Q4 : ab_okM ((8, 1000000) :: (9, 1000000) :: (10, 1000000) :: (11, 1000000) :: (12, 1000000) :: (13, 1000000) :: sc_M 3) σ4 σ11 := fw_okM_tr (fw_okM_tr (fw_okM_refl _ _) M5 (by decide)) Q5 (by decide)
  have Q3 : ab_okM ((7, 1000000) :: (8, 1000000) :: (9, 1000000) :: (10, 1000000) :: (11, 1000000) :: (12, 1000000) :: (13, 1000000) :: sc_M 3) σ3 σ11 := fw_okM_tr (fw_okM_tr (fw_okM_refl _ _) M4 (by decide)) Q4 (by decide)
  have Q2 : ab_okM ((6, 1000000) :: (7, 1000000) :: (8, 1000000) :: (9, 1000000) :: (10, 1000000) :: (11, 1000000) :: (12, 1000000) :: (13, 1000000) :: sc_M 3) σ2 σ11 := fw_okM_tr (fw_okM_tr (fw_okM_refl _ _) M3 (by decide)) Q3 (by decide)
  have Q1 : ab_okM ((5, 1000000) :: (6, 1000000) :: (7, 1000000) :: (8, 1000000) :: (9, 1000000) :: (10, 1000000) :: (11, 1000000) :: (12, 1000000) :: (13, 1000000) :: sc_M 3) σ1 σ11 := fw_okM_tr (fw_okM_tr (fw_okM_refl _ _) M2 (by decide)) Q2 (by decide)
  have rr : ∀ k : Nat, k ≠ 3 → (ab_ups (ab_ups (ab_ups (ab_ups (ab_ups σ11 3 11 (fw_c (σ11 49 11))) 3 12 (fw_c (σ11 49 12))) 3 13 (fw_c (σ11 49 13))) 3 14 (fw_c (σ11 49 14))) 3 15 (fw_c (σ11 49 15))) k = σ11 k := fun k hk => by rw [ab_ups_row hk, ab_ups_row hk, ab_ups_row hk, ab_ups_row hk, ab_ups_row hk]
  have ff : ∀ j : Nat, j = 11 ∨ j = 12 ∨ j = 13 ∨ j = 14 ∨ j = 15 → (ab_ups (ab_ups (ab_ups (ab_ups (ab_ups σ11 3 11 (fw_c (σ11 49 11))) 3 12 (fw_c (σ11 49 12))) 3 13 (fw_c (σ11 49 13))) 3 14 (fw_c (σ11 49 14))) 3 15 (fw_c (σ11 49 15))) 3 j = fw_c (σ0 49 j) := fun j hj => by
    have e1 : σ11 49 = σ0 49 := fw_okM_c N11 (by decide)
    rw [e1]
    rcases hj with rfl | rfl | rfl | rfl | rfl
    · rw [ab_ups_ne (by decide), ab_ups_ne (by decide), ab_ups_ne (by decide), ab_ups_ne (by decide), ab_ups_eq]
    · rw [ab_ups_ne (by decide), ab_ups_ne (by decide), ab_ups_ne (by decide), ab_ups_eq]
    · rw [ab_ups_ne (by decide), ab_ups_ne (by decide), ab_ups_eq]
    · rw [ab_ups_ne (by decide), ab_ups_eq]
    · rw [ab_ups_eq]
  refine h _ (fw_okM_ups (fw_okM_ups (fw_okM_ups (fw_okM_ups (fw_okM_ups (fw_okM_tr (fw_okM_refl _ _) N11 (by decide)) (by decide)) (by decide)) (by decide)) (by decide)) (by decide)) ⟨fun j hj => ?_, fun j hj => ?_, fun j hj => ?_, fun j hj => ?_, fun j hj => ?_, fun j hj => ?_, fun j hj => ?_, fun j hj => ?_, fun j hj => ?_, fun j hj => ?_, ?_, ff 11 (by decide), ff 12 (by decide), ff 13 (by decide), ff 14 (by decide), ff 15 (by decide)⟩
  · show (ab_ups (ab_ups (ab_ups (ab_ups (ab_ups σ11 3 11 (fw_c (σ11 49 11))) 3 12 (fw_c (σ11 49 12))) 3 13 (fw_c (σ11 49 13))) 3 14 (fw_c (σ11 49 14))) 3 15 (fw_c (σ11 49 15))) 4 j = fw_c (σ0 50 j)
    rw [rr 4 (by decide), show σ11 4 = σ1 4 from fw_okM_c Q1 (by decide), c1 j hj]
  · show (ab_ups (ab_ups (ab_ups (ab_ups (ab_ups σ11 3 11 (fw_c (σ11 49 11))) 3 12 (fw_c (σ11 49 12))) 3 13 (fw_c (σ11 49 13))) 3 14 (fw_c (σ11 49 14))) 3 15 (fw_c (σ11 49 15))) 5 j = fw_c (σ0 51 j)
    rw [rr 5 (by decide), show σ11 5 = σ2 5 from fw_okM_c Q2 (by decide), c2 j hj, show σ1 51 = σ0 51 from fw_okM_c N1 (by decide)]
  · show (ab_ups (ab_ups (ab_ups (ab_ups (ab_ups σ11 3 11 (fw_c (σ11 49 11))) 3 12 (fw_c (σ11 49 12))) 3 13 (fw_c (σ11 49 13))) 3 14 (fw_c (σ11 49 14))) 3 15 (fw_c (σ11 49 15))) 6 j = fw_c (σ0 52 j)
    rw [rr 6 (by decide), show σ11 6 = σ3 6 from fw_okM_c Q3 (by decide), c3 j hj, show σ2 52 = σ0 52 from fw_okM_c N2 (by decide)]
  · show (ab_ups (ab_ups (ab_ups (ab_ups (ab_ups σ11 3 11 (fw_c (σ11 49 11))) 3 12 (fw_c (σ11 49 12))) 3 13 (fw_c (σ11 49 13))) 3 14 (fw_c (σ11 49 14))) 3 15 (fw_c (σ11 49 15))) 7 j = fw_c (σ0 53 j)
    rw [rr 7 (by decide), show σ11 7 = σ4 7 from fw_okM_c Q4 (by decide), c4 j hj, show σ3 53 = σ0 53 from fw_okM_c N3 (by decide)]
  · show (ab_ups (ab_ups (ab_ups (ab_ups (ab_ups σ11 3 11 (fw_c (σ11 49 11))) 3 12 (fw_c (σ11 49 12))) 3 13 (fw_c (σ11 49 13))) 3 14 (fw_c (σ11 49 14))) 3 15 (fw_c (σ11 49 15))) 8 j = fw_c (σ0 54 j)
    rw [rr 8 (by decide), show σ11 8 = σ5 8 from fw_okM_c Q5 (by decide), c5 j hj, show σ4 54 = σ0 54 from fw_okM_c N4 (by decide)]
  · show (ab_ups (ab_ups (ab_ups (ab_ups (ab_ups σ11 3 11 (fw_c (σ11 49 11))) 3 12 (fw_c (σ11 49 12))) 3 13 (fw_c (σ11 49 13))) 3 14 (fw_c (σ11 49 14))) 3 15 (fw_c (σ11 49 15))) 9 j = fw_c (σ0 55 j)
    rw [rr 9 (by decide), show σ11 9 = σ6 9 from fw_okM_c Q6 (by decide), c6 j hj, show σ5 55 = σ0 55 from fw_okM_c N5 (by decide)]
  · show (ab_ups (ab_ups (ab_ups (ab_ups (ab_ups σ11 3 11 (fw_c (σ11 49 11))) 3 12 (fw_c (σ11 49 12))) 3 13 (fw_c (σ11 49 13))) 3 14 (fw_c (σ11 49 14))) 3 15 (fw_c (σ11 49 15))) 10 j = fw_c (σ0 56 j)
    rw [rr 10 (by decide), show σ11 10 = σ7 10 from fw_okM_c Q7 (by decide), c7 j hj, show σ6 56 = σ0 56 from fw_okM_c N6 (by decide)]
  · show (ab_ups (ab_ups (ab_ups (ab_ups (ab_ups σ11 3 11 (fw_c (σ11 49 11))) 3 12 (fw_c (σ11 49 12))) 3 13 (fw_c (σ11 49 13))) 3 14 (fw_c (σ11 49 14))) 3 15 (fw_c (σ11 49 15))) 11 j = fw_d (σ0 57 j)
    rw [rr 11 (by decide), show σ11 11 = σ8 11 from fw_okM_c Q8 (by decide), c8 j hj, show σ7 57 = σ0 57 from fw_okM_c N7 (by decide)]
  · show (ab_ups (ab_ups (ab_ups (ab_ups (ab_ups σ11 3 11 (fw_c (σ11 49 11))) 3 12 (fw_c (σ11 49 12))) 3 13 (fw_c (σ11 49 13))) 3 14 (fw_c (σ11 49 14))) 3 15 (fw_c (σ11 49 15))) 12 j = fw_d (σ0 58 j)
    rw [rr 12 (by decide), show σ11 12 = σ9 12 from fw_okM_c Q9 (by decide), c9 j hj, show σ8 58 = σ0 58 from fw_okM_c N8 (by decide)]
  · show (ab_ups (ab_ups (ab_ups (ab_ups (ab_ups σ11 3 11 (fw_c (σ11 49 11))) 3 12 (fw_c (σ11 49 12))) 3 13 (fw_c (σ11 49 13))) 3 14 (fw_c (σ11 49 14))) 3 15 (fw_c (σ11 49 15))) 13 j = fw_d (σ0 59 j)
    rw [rr 13 (by decide), show σ11 13 = σ10 13 from fw_okM_c Q10 (by decide), c10 j hj, show σ9 59 = σ0 59 from fw_okM_c N9 (by decide)]
  · obtain ⟨s1, s2, s3, s4⟩ := c11
    refine ⟨fun j hj => ?_, fun j hj => ?_, ?_, ?_⟩
    · show (ab_ups (ab_ups (ab_ups (ab_ups (ab_ups σ11 3 11 (fw_c (σ11 49 11))) 3 12 (fw_c (σ11 49 12))) 3 13 (fw_c (σ11 49 13))) 3 14 (fw_c (σ11 49 14))) 3 15 (fw_c (σ11 49 15))) 15 j = fw_c (σ0 61 j)
      rw [rr 15 (by decide), show σ0 61 = σ10 61 from (fw_okM_c N10 (by decide)).symm]; exact s1 j hj
    · show (ab_ups (ab_ups (ab_ups (ab_ups (ab_ups σ11 3 11 (fw_c (σ11 49 11))) 3 12 (fw_c (σ11 49 12))) 3 13 (fw_c (σ11 49 13))) 3 14 (fw_c (σ11 49 14))) 3 15 (fw_c (σ11 49 15))) 16 j = fw_c (σ0 62 j)
      rw [rr 16 (by decide), show σ0 62 = σ10 62 from (fw_okM_c N10 (by decide)).symm]; exact s2 j hj
    · show (ab_ups (ab_ups (ab_ups (ab_ups (ab_ups σ11 3 11 (fw_c (σ11 49 11))) 3 12 (fw_c (σ11 49 12))) 3 13 (fw_c (σ11 49 13))) 3 14 (fw_c (σ11 49 14))) 3 15 (fw_c (σ11 49 15))) 14 3 = fw_c (σ0 60 3)
      rw [rr 14 (by decide), show σ0 60 = σ10 60 from (fw_okM_c N10 (by decide)).symm]; exact s3
    · show (ab_ups (ab_ups (ab_ups (ab_ups (ab_ups σ11 3 11 (fw_c (σ11 49 11))) 3 12 (fw_c (σ11 49 12))) 3 13 (fw_c (σ11 49 13))) 3 14 (fw_c (σ11 49 14))) 3 15 (fw_c (σ11 49 15))) 14 4 = fw_c (σ0 60 4)
      rw [rr 14 (by decide), show σ0 60 = σ10 60 from (fw_okM_c N10 (by decide)).symm]; exact s4)
theorem fm_copy_3_18 (hinj : nn_inj ad) : fw_H l cy ad wr cr D 49 2 (cy_k 3 18) := fw_mk hinj (⟨"NameNotes$Studio", "copy", "(LNameNotes$Studio;)V"⟩, prog_8_method_3_code, 2, (Option.none : Option Jvm.ClassFile.FieldType), 1, true, 4) rfl rfl nn_KI6_ok nn_KJ6_ok nn_PF6_ok nn_PS6_ok (by decide +kernel) rfl rfl (List.forall_mem_cons.mpr ⟨fw_row nn_PM6_ok (x := 70) (k := 2) (mn := 50) (np := 2) (ob := false) (ci := 0) (⟨"NameNotes", "copyRow", "([I[I)V"⟩, prog_1_method_88_code, 3, (Option.none : Option Jvm.ClassFile.FieldType), 2, false, 4) rfl (by decide +kernel) rfl rfl (by decide) (fun q => by cases q) (fm_cp hinj), (List.forall_mem_cons.mpr ⟨fw_row nn_PM6_ok (x := 74) (k := 2) (mn := 51) (np := 2) (ob := false) (ci := 0) (⟨"NameNotes", "copyRow", "([J[J)V"⟩, prog_1_method_89_code, 3, (Option.none : Option Jvm.ClassFile.FieldType), 2, false, 4) rfl (by decide +kernel) rfl rfl (by decide) (fun q => by cases q) (fm_cl hinj), (List.forall_mem_cons.mpr ⟨fw_row nn_PM6_ok (x := 77) (k := 0) (mn := 52) (np := 1) (ob := true) (ci := 5) (⟨"NameNotes$Sentence", "copy", "(LNameNotes$Sentence;)V"⟩, prog_7_method_3_code, 2, (Option.none : Option Jvm.ClassFile.FieldType), 1, true, 4) rfl (by decide +kernel) rfl rfl (by decide) (fun _ => ⟨_, _, rfl⟩) (fm_scopy hinj), (fun _ h => absurd h List.not_mem_nil)⟩)⟩)⟩) (fun as σ0 K h => by
  obtain ⟨rfl, h⟩ := h
  refine ⟨rfl, fun G hG => fs_copy_3_18_0 hG ⟨(4, 19, 81), by decide, rfl, fun σ1 M1 c1 => fs_copy_3_18_11 hG ⟨(5, 20, 81), by decide, rfl, fun σ2 M2 c2 => fs_copy_3_18_22 hG ⟨(6, 21, 9), by decide, rfl, fun σ3 M3 c3 => fs_copy_3_18_33 hG ⟨(7, 22, 324), by decide, rfl, fun σ4 M4 c4 => fs_copy_3_18_44 hG ⟨(8, 23, 6), by decide, rfl, fun σ5 M5 c5 => fs_copy_3_18_55 hG ⟨(9, 24, 45), by decide, rfl, fun σ6 M6 c6 => fs_copy_3_18_66 hG ⟨(10, 25, 5), by decide, rfl, fun σ7 M7 c7 => fs_copy_3_18_77 hG ⟨(11, 26, 9), by decide, rfl, fun σ8 M8 c8 => fs_copy_3_18_88 hG ⟨(12, 27, 6), by decide, rfl, fun σ9 M9 c9 => fs_copy_3_18_99 hG ⟨(13, 28, 5), by decide, rfl, fun σ10 M10 c10 => fs_copy_3_18_110 hG ⟨(3, 18), by decide, rfl, fun σ11 M11 c11 => fs_copy_3_18_121 hG ?_⟩⟩⟩⟩⟩⟩⟩⟩⟩⟩⟩⟩
  have M1 : ab_okM [(19, 1000000)] σ0 σ1 := M1
  have c1 : ∀ j : Nat, j < 81 → σ1 19 j = fw_c (σ0 4 j) := c1
  have M2 : ab_okM [(20, 1000000)] σ1 σ2 := M2
  have c2 : ∀ j : Nat, j < 81 → σ2 20 j = fw_c (σ1 5 j) := c2
  have M3 : ab_okM [(21, 1000000)] σ2 σ3 := M3
  have c3 : ∀ j : Nat, j < 9 → σ3 21 j = fw_c (σ2 6 j) := c3
  have M4 : ab_okM [(22, 1000000)] σ3 σ4 := M4
  have c4 : ∀ j : Nat, j < 324 → σ4 22 j = fw_c (σ3 7 j) := c4
  have M5 : ab_okM [(23, 1000000)] σ4 σ5 := M5
  have c5 : ∀ j : Nat, j < 6 → σ5 23 j = fw_c (σ4 8 j) := c5
  have M6 : ab_okM [(24, 1000000)] σ5 σ6 := M6
  have c6 : ∀ j : Nat, j < 45 → σ6 24 j = fw_c (σ5 9 j) := c6
  have M7 : ab_okM [(25, 1000000)] σ6 σ7 := M7
  have c7 : ∀ j : Nat, j < 5 → σ7 25 j = fw_c (σ6 10 j) := c7
  have M8 : ab_okM [(26, 1000000)] σ7 σ8 := M8
  have c8 : ∀ j : Nat, j < 9 → σ8 26 j = fw_d (σ7 11 j) := c8
  have M9 : ab_okM [(27, 1000000)] σ8 σ9 := M9
  have c9 : ∀ j : Nat, j < 6 → σ9 27 j = fw_d (σ8 12 j) := c9
  have M10 : ab_okM [(28, 1000000)] σ9 σ10 := M10
  have c10 : ∀ j : Nat, j < 5 → σ10 28 j = fw_d (σ9 13 j) := c10
  have M11 : ab_okM (sc_M 18) σ10 σ11 := M11
  have c11 : sc_is σ10 σ11 3 18 := c11
  have N1 : ab_okM ((19, 1000000) :: []) σ0 σ1 := fw_okM_tr (fw_okM_refl _ _) M1 (by decide)
  have N2 : ab_okM ((19, 1000000) :: (20, 1000000) :: []) σ0 σ2 := fw_okM_tr (fw_okM_tr (fw_okM_refl _ _) N1 (by decide)) M2 (by decide)
  have N3 : ab_okM ((19, 1000000) :: (20, 1000000) :: (21, 1000000) :: []) σ0 σ3 := fw_okM_tr (fw_okM_tr (fw_okM_refl _ _) N2 (by decide)) M3 (by decide)
  have N4 : ab_okM ((19, 1000000) :: (20, 1000000) :: (21, 1000000) :: (22, 1000000) :: []) σ0 σ4 := fw_okM_tr (fw_okM_tr (fw_okM_refl _ _) N3 (by decide)) M4 (by decide)
  have N5 : ab_okM ((19, 1000000) :: (20, 1000000) :: (21, 1000000) :: (22, 1000000) :: (23, 1000000) :: []) σ0 σ5 := fw_okM_tr (fw_okM_tr (fw_okM_refl _ _) N4 (by decide)) M5 (by decide)
  have N6 : ab_okM ((19, 1000000) :: (20, 1000000) :: (21, 1000000) :: (22, 1000000) :: (23, 1000000) :: (24, 1000000) :: []) σ0 σ6 := fw_okM_tr (fw_okM_tr (fw_okM_refl _ _) N5 (by decide)) M6 (by decide)
  have N7 : ab_okM ((19, 1000000) :: (20, 1000000) :: (21, 1000000) :: (22, 1000000) :: (23, 1000000) :: (24, 1000000) :: (25, 1000000) :: []) σ0 σ7 := fw_okM_tr (fw_okM_tr (fw_okM_refl _ _) N6 (by decide)) M7 (by decide)
  have N8 : ab_okM ((19, 1000000) :: (20, 1000000) :: (21, 1000000) :: (22, 1000000) :: (23, 1000000) :: (24, 1000000) :: (25, 1000000) :: (26, 1000000) :: []) σ0 σ8 := fw_okM_tr (fw_okM_tr (fw_okM_refl _ _) N7 (by decide)) M8 (by decide)
  have N9 : ab_okM ((19, 1000000) :: (20, 1000000) :: (21, 1000000) :: (22, 1000000) :: (23, 1000000) :: (24, 1000000) :: (25, 1000000) :: (26, 1000000) :: (27, 1000000) :: []) σ0 σ9 := fw_okM_tr (fw_okM_tr (fw_okM_refl _ _) N8 (by decide)) M9 (by decide)
  have N10 : ab_okM ((19, 1000000) :: (20, 1000000) :: (21, 1000000) :: (22, 1000000) :: (23, 1000000) :: (24, 1000000) :: (25, 1000000) :: (26, 1000000) :: (27, 1000000) :: (28, 1000000) :: []) σ0 σ10 := fw_okM_tr (fw_okM_tr (fw_okM_refl _ _) N9 (by decide)) M10 (by decide)
  have N11 : ab_okM ((19, 1000000) :: (20, 1000000) :: (21, 1000000) :: (22, 1000000) :: (23, 1000000) :: (24, 1000000) :: (25, 1000000) :: (26, 1000000) :: (27, 1000000) :: (28, 1000000) :: sc_M 18) σ0 σ11 := fw_okM_tr (fw_okM_tr (fw_okM_refl _ _) N10 (by decide)) M11 (by decide)
  have Q11 : ab_okM ([]) σ11 σ11 := fw_okM_refl _ _
  have Q10 : ab_okM (sc_M 18) σ10 σ11 := fw_okM_tr (fw_okM_tr (fw_okM_refl _ _) M11 (by decide)) Q11 (by decide)
  have Q9 : ab_okM ((28, 1000000) :: sc_M 18) σ9 σ11 := fw_okM_tr (fw_okM_tr (fw_okM_refl _ _) M10 (by decide)) Q10 (by decide)
  have Q8 : ab_okM ((27, 1000000) :: (28, 1000000) :: sc_M 18) σ8 σ11 := fw_okM_tr (fw_okM_tr (fw_okM_refl _ _) M9 (by decide)) Q9 (by decide)
  have Q7 : ab_okM ((26, 1000000) :: (27, 1000000) :: (28, 1000000) :: sc_M 18) σ7 σ11 := fw_okM_tr (fw_okM_tr (fw_okM_refl _ _) M8 (by decide)) Q8 (by decide)
  have Q6 : ab_okM ((25, 1000000) :: (26, 1000000) :: (27, 1000000) :: (28, 1000000) :: sc_M 18) σ6 σ11 := fw_okM_tr (fw_okM_tr (fw_okM_refl _ _) M7 (by decide)) Q7 (by decide)
  have Q5 : ab_okM ((24, 1000000) :: (25, 1000000) :: (26, 1000000) :: (27, 1000000) :: (28, 1000000) :: sc_M 18) σ5 σ11 := fw_okM_tr (fw_okM_tr (fw_okM_refl _ _) M6 (by decide)) Q6 (by decide)
  have Q4 : ab_okM ((23, 1000000) :: (24, 1000000) :: (25, 1000000) :: (26, 1000000) :: (27, 1000000) :: (28, 1000000) :: sc_M 18) σ4 σ11 := fw_okM_tr (fw_okM_tr (fw_okM_refl _ _) M5 (by decide)) Q5 (by decide)
  have Q3 : ab_okM ((22, 1000000) :: (23, 1000000) :: (24, 1000000) :: (25, 1000000) :: (26, 1000000) :: (27, 1000000) :: (28, 1000000) :: sc_M 18) σ3 σ11 := fw_okM_tr (fw_okM_tr (fw_okM_refl _ _) M4 (by decide)) Q4 (by decide)
  have Q2 : ab_okM ((21, 1000000) :: (22, 1000000) :: (23, 1000000) :: (24, 1000000) :: (25, 1000000) :: (26, 1000000) :: (27, 1000000) :: (28, 1000000) :: sc_M 18) σ2 σ11 := fw_okM_tr (fw_okM_tr (fw_okM_refl _ _) M3 (by decide)) Q3 (by decide)
  have Q1 : ab_okM ((20, 1000000) :: (21, 1000000) :: (22, 1000000) :: (23, 1000000) :: (24, 1000000) :: (25, 1000000) :: (26, 1000000) :: (27, 1000000) :: (28, 1000000) :: sc_M 18) σ1 σ11 := fw_okM_tr (fw_okM_tr (fw_okM_refl _ _) M2 (by decide)) Q2 (by decide)
  have rr : ∀ k : Nat, k ≠ 18 → (ab_ups (ab_ups (ab_ups (ab_ups (ab_ups σ11 18 11 (fw_c (σ11 3 11))) 18 12 (fw_c (σ11 3 12))) 18 13 (fw_c (σ11 3 13))) 18 14 (fw_c (σ11 3 14))) 18 15 (fw_c (σ11 3 15))) k = σ11 k := fun k hk => by rw [ab_ups_row hk, ab_ups_row hk, ab_ups_row hk, ab_ups_row hk, ab_ups_row hk]
  have ff : ∀ j : Nat, j = 11 ∨ j = 12 ∨ j = 13 ∨ j = 14 ∨ j = 15 → (ab_ups (ab_ups (ab_ups (ab_ups (ab_ups σ11 18 11 (fw_c (σ11 3 11))) 18 12 (fw_c (σ11 3 12))) 18 13 (fw_c (σ11 3 13))) 18 14 (fw_c (σ11 3 14))) 18 15 (fw_c (σ11 3 15))) 18 j = fw_c (σ0 3 j) := fun j hj => by
    have e1 : σ11 3 = σ0 3 := fw_okM_c N11 (by decide)
    rw [e1]
    rcases hj with rfl | rfl | rfl | rfl | rfl
    · rw [ab_ups_ne (by decide), ab_ups_ne (by decide), ab_ups_ne (by decide), ab_ups_ne (by decide), ab_ups_eq]
    · rw [ab_ups_ne (by decide), ab_ups_ne (by decide), ab_ups_ne (by decide), ab_ups_eq]
    · rw [ab_ups_ne (by decide), ab_ups_ne (by decide), ab_ups_eq]
    · rw [ab_ups_ne (by decide), ab_ups_eq]
    · rw [ab_ups_eq]
  refine h _ (fw_okM_ups (fw_okM_ups (fw_okM_ups (fw_okM_ups (fw_okM_ups (fw_okM_tr (fw_okM_refl _ _) N11 (by decide)) (by decide)) (by decide)) (by decide)) (by decide)) (by decide)) ⟨fun j hj => ?_, fun j hj => ?_, fun j hj => ?_, fun j hj => ?_, fun j hj => ?_, fun j hj => ?_, fun j hj => ?_, fun j hj => ?_, fun j hj => ?_, fun j hj => ?_, ?_, ff 11 (by decide), ff 12 (by decide), ff 13 (by decide), ff 14 (by decide), ff 15 (by decide)⟩
  · show (ab_ups (ab_ups (ab_ups (ab_ups (ab_ups σ11 18 11 (fw_c (σ11 3 11))) 18 12 (fw_c (σ11 3 12))) 18 13 (fw_c (σ11 3 13))) 18 14 (fw_c (σ11 3 14))) 18 15 (fw_c (σ11 3 15))) 19 j = fw_c (σ0 4 j)
    rw [rr 19 (by decide), show σ11 19 = σ1 19 from fw_okM_c Q1 (by decide), c1 j hj]
  · show (ab_ups (ab_ups (ab_ups (ab_ups (ab_ups σ11 18 11 (fw_c (σ11 3 11))) 18 12 (fw_c (σ11 3 12))) 18 13 (fw_c (σ11 3 13))) 18 14 (fw_c (σ11 3 14))) 18 15 (fw_c (σ11 3 15))) 20 j = fw_c (σ0 5 j)
    rw [rr 20 (by decide), show σ11 20 = σ2 20 from fw_okM_c Q2 (by decide), c2 j hj, show σ1 5 = σ0 5 from fw_okM_c N1 (by decide)]
  · show (ab_ups (ab_ups (ab_ups (ab_ups (ab_ups σ11 18 11 (fw_c (σ11 3 11))) 18 12 (fw_c (σ11 3 12))) 18 13 (fw_c (σ11 3 13))) 18 14 (fw_c (σ11 3 14))) 18 15 (fw_c (σ11 3 15))) 21 j = fw_c (σ0 6 j)
    rw [rr 21 (by decide), show σ11 21 = σ3 21 from fw_okM_c Q3 (by decide), c3 j hj, show σ2 6 = σ0 6 from fw_okM_c N2 (by decide)]
  · show (ab_ups (ab_ups (ab_ups (ab_ups (ab_ups σ11 18 11 (fw_c (σ11 3 11))) 18 12 (fw_c (σ11 3 12))) 18 13 (fw_c (σ11 3 13))) 18 14 (fw_c (σ11 3 14))) 18 15 (fw_c (σ11 3 15))) 22 j = fw_c (σ0 7 j)
    rw [rr 22 (by decide), show σ11 22 = σ4 22 from fw_okM_c Q4 (by decide), c4 j hj, show σ3 7 = σ0 7 from fw_okM_c N3 (by decide)]
  · show (ab_ups (ab_ups (ab_ups (ab_ups (ab_ups σ11 18 11 (fw_c (σ11 3 11))) 18 12 (fw_c (σ11 3 12))) 18 13 (fw_c (σ11 3 13))) 18 14 (fw_c (σ11 3 14))) 18 15 (fw_c (σ11 3 15))) 23 j = fw_c (σ0 8 j)
    rw [rr 23 (by decide), show σ11 23 = σ5 23 from fw_okM_c Q5 (by decide), c5 j hj, show σ4 8 = σ0 8 from fw_okM_c N4 (by decide)]
  · show (ab_ups (ab_ups (ab_ups (ab_ups (ab_ups σ11 18 11 (fw_c (σ11 3 11))) 18 12 (fw_c (σ11 3 12))) 18 13 (fw_c (σ11 3 13))) 18 14 (fw_c (σ11 3 14))) 18 15 (fw_c (σ11 3 15))) 24 j = fw_c (σ0 9 j)
    rw [rr 24 (by decide), show σ11 24 = σ6 24 from fw_okM_c Q6 (by decide), c6 j hj, show σ5 9 = σ0 9 from fw_okM_c N5 (by decide)]
  · show (ab_ups (ab_ups (ab_ups (ab_ups (ab_ups σ11 18 11 (fw_c (σ11 3 11))) 18 12 (fw_c (σ11 3 12))) 18 13 (fw_c (σ11 3 13))) 18 14 (fw_c (σ11 3 14))) 18 15 (fw_c (σ11 3 15))) 25 j = fw_c (σ0 10 j)
    rw [rr 25 (by decide), show σ11 25 = σ7 25 from fw_okM_c Q7 (by decide), c7 j hj, show σ6 10 = σ0 10 from fw_okM_c N6 (by decide)]
  · show (ab_ups (ab_ups (ab_ups (ab_ups (ab_ups σ11 18 11 (fw_c (σ11 3 11))) 18 12 (fw_c (σ11 3 12))) 18 13 (fw_c (σ11 3 13))) 18 14 (fw_c (σ11 3 14))) 18 15 (fw_c (σ11 3 15))) 26 j = fw_d (σ0 11 j)
    rw [rr 26 (by decide), show σ11 26 = σ8 26 from fw_okM_c Q8 (by decide), c8 j hj, show σ7 11 = σ0 11 from fw_okM_c N7 (by decide)]
  · show (ab_ups (ab_ups (ab_ups (ab_ups (ab_ups σ11 18 11 (fw_c (σ11 3 11))) 18 12 (fw_c (σ11 3 12))) 18 13 (fw_c (σ11 3 13))) 18 14 (fw_c (σ11 3 14))) 18 15 (fw_c (σ11 3 15))) 27 j = fw_d (σ0 12 j)
    rw [rr 27 (by decide), show σ11 27 = σ9 27 from fw_okM_c Q9 (by decide), c9 j hj, show σ8 12 = σ0 12 from fw_okM_c N8 (by decide)]
  · show (ab_ups (ab_ups (ab_ups (ab_ups (ab_ups σ11 18 11 (fw_c (σ11 3 11))) 18 12 (fw_c (σ11 3 12))) 18 13 (fw_c (σ11 3 13))) 18 14 (fw_c (σ11 3 14))) 18 15 (fw_c (σ11 3 15))) 28 j = fw_d (σ0 13 j)
    rw [rr 28 (by decide), show σ11 28 = σ10 28 from fw_okM_c Q10 (by decide), c10 j hj, show σ9 13 = σ0 13 from fw_okM_c N9 (by decide)]
  · obtain ⟨s1, s2, s3, s4⟩ := c11
    refine ⟨fun j hj => ?_, fun j hj => ?_, ?_, ?_⟩
    · show (ab_ups (ab_ups (ab_ups (ab_ups (ab_ups σ11 18 11 (fw_c (σ11 3 11))) 18 12 (fw_c (σ11 3 12))) 18 13 (fw_c (σ11 3 13))) 18 14 (fw_c (σ11 3 14))) 18 15 (fw_c (σ11 3 15))) 30 j = fw_c (σ0 15 j)
      rw [rr 30 (by decide), show σ0 15 = σ10 15 from (fw_okM_c N10 (by decide)).symm]; exact s1 j hj
    · show (ab_ups (ab_ups (ab_ups (ab_ups (ab_ups σ11 18 11 (fw_c (σ11 3 11))) 18 12 (fw_c (σ11 3 12))) 18 13 (fw_c (σ11 3 13))) 18 14 (fw_c (σ11 3 14))) 18 15 (fw_c (σ11 3 15))) 31 j = fw_c (σ0 16 j)
      rw [rr 31 (by decide), show σ0 16 = σ10 16 from (fw_okM_c N10 (by decide)).symm]; exact s2 j hj
    · show (ab_ups (ab_ups (ab_ups (ab_ups (ab_ups σ11 18 11 (fw_c (σ11 3 11))) 18 12 (fw_c (σ11 3 12))) 18 13 (fw_c (σ11 3 13))) 18 14 (fw_c (σ11 3 14))) 18 15 (fw_c (σ11 3 15))) 29 3 = fw_c (σ0 14 3)
      rw [rr 29 (by decide), show σ0 14 = σ10 14 from (fw_okM_c N10 (by decide)).symm]; exact s3
    · show (ab_ups (ab_ups (ab_ups (ab_ups (ab_ups σ11 18 11 (fw_c (σ11 3 11))) 18 12 (fw_c (σ11 3 12))) 18 13 (fw_c (σ11 3 13))) 18 14 (fw_c (σ11 3 14))) 18 15 (fw_c (σ11 3 15))) 29 4 = fw_c (σ0 14 4)
      rw [rr 29 (by decide), show σ0 14 = σ10 14 from (fw_okM_c N10 (by decide)).symm]; exact s4)
theorem fm_copy_3_33 (hinj : nn_inj ad) : fw_H l cy ad wr cr D 49 2 (cy_k 3 33) := fw_mk hinj (⟨"NameNotes$Studio", "copy", "(LNameNotes$Studio;)V"⟩, prog_8_method_3_code, 2, (Option.none : Option Jvm.ClassFile.FieldType), 1, true, 4) rfl rfl nn_KI6_ok nn_KJ6_ok nn_PF6_ok nn_PS6_ok (by decide +kernel) rfl rfl (List.forall_mem_cons.mpr ⟨fw_row nn_PM6_ok (x := 70) (k := 2) (mn := 50) (np := 2) (ob := false) (ci := 0) (⟨"NameNotes", "copyRow", "([I[I)V"⟩, prog_1_method_88_code, 3, (Option.none : Option Jvm.ClassFile.FieldType), 2, false, 4) rfl (by decide +kernel) rfl rfl (by decide) (fun q => by cases q) (fm_cp hinj), (List.forall_mem_cons.mpr ⟨fw_row nn_PM6_ok (x := 74) (k := 2) (mn := 51) (np := 2) (ob := false) (ci := 0) (⟨"NameNotes", "copyRow", "([J[J)V"⟩, prog_1_method_89_code, 3, (Option.none : Option Jvm.ClassFile.FieldType), 2, false, 4) rfl (by decide +kernel) rfl rfl (by decide) (fun q => by cases q) (fm_cl hinj), (List.forall_mem_cons.mpr ⟨fw_row nn_PM6_ok (x := 77) (k := 0) (mn := 52) (np := 1) (ob := true) (ci := 5) (⟨"NameNotes$Sentence", "copy", "(LNameNotes$Sentence;)V"⟩, prog_7_method_3_code, 2, (Option.none : Option Jvm.ClassFile.FieldType), 1, true, 4) rfl (by decide +kernel) rfl rfl (by decide) (fun _ => ⟨_, _, rfl⟩) (fm_scopy hinj), (fun _ h => absurd h List.not_mem_nil)⟩)⟩)⟩) (fun as σ0 K h => by
  obtain ⟨rfl, h⟩ := h
  refine ⟨rfl, fun G hG => fs_copy_3_33_0 hG ⟨(4, 34, 81), by decide, rfl, fun σ1 M1 c1 => fs_copy_3_33_11 hG ⟨(5, 35, 81), by decide, rfl, fun σ2 M2 c2 => fs_copy_3_33_22 hG ⟨(6, 36, 9), by decide, rfl, fun σ3 M3 c3 => fs_copy_3_33_33 hG ⟨(7, 37, 324), by decide, rfl, fun σ4 M4 c4 => fs_copy_3_33_44 hG ⟨(8, 38, 6), by decide, rfl, fun σ5 M5 c5 => fs_copy_3_33_55 hG ⟨(9, 39, 45), by decide, rfl, fun σ6 M6 c6 => fs_copy_3_33_66 hG ⟨(10, 40, 5), by decide, rfl, fun σ7 M7 c7 => fs_copy_3_33_77 hG ⟨(11, 41, 9), by decide, rfl, fun σ8 M8 c8 => fs_copy_3_33_88 hG ⟨(12, 42, 6), by decide, rfl, fun σ9 M9 c9 => fs_copy_3_33_99 hG ⟨(13, 43, 5), by decide, rfl, fun σ10 M10 c10 => fs_copy_3_33_110 hG ⟨(3, 33), by decide, rfl, fun σ11 M11 c11 => fs_copy_3_33_121 hG ?_⟩⟩⟩⟩⟩⟩⟩⟩⟩⟩⟩⟩
  have M1 : ab_okM [(34, 1000000)] σ0 σ1 := M1
  have c1 : ∀ j : Nat, j < 81 → σ1 34 j = fw_c (σ0 4 j) := c1
  have M2 : ab_okM [(35, 1000000)] σ1 σ2 := M2
  have c2 : ∀ j : Nat, j < 81 → σ2 35 j = fw_c (σ1 5 j) := c2
  have M3 : ab_okM [(36, 1000000)] σ2 σ3 := M3
  have c3 : ∀ j : Nat, j < 9 → σ3 36 j = fw_c (σ2 6 j) := c3
  have M4 : ab_okM [(37, 1000000)] σ3 σ4 := M4
  have c4 : ∀ j : Nat, j < 324 → σ4 37 j = fw_c (σ3 7 j) := c4
  have M5 : ab_okM [(38, 1000000)] σ4 σ5 := M5
  have c5 : ∀ j : Nat, j < 6 → σ5 38 j = fw_c (σ4 8 j) := c5
  have M6 : ab_okM [(39, 1000000)] σ5 σ6 := M6
  have c6 : ∀ j : Nat, j < 45 → σ6 39 j = fw_c (σ5 9 j) := c6
  have M7 : ab_okM [(40, 1000000)] σ6 σ7 := M7
  have c7 : ∀ j : Nat, j < 5 → σ7 40 j = fw_c (σ6 10 j) := c7
  have M8 : ab_okM [(41, 1000000)] σ7 σ8 := M8
  have c8 : ∀ j : Nat, j < 9 → σ8 41 j = fw_d (σ7 11 j) := c8
  have M9 : ab_okM [(42, 1000000)] σ8 σ9 := M9
  have c9 : ∀ j : Nat, j < 6 → σ9 42 j = fw_d (σ8 12 j) := c9
  have M10 : ab_okM [(43, 1000000)] σ9 σ10 := M10
  have c10 : ∀ j : Nat, j < 5 → σ10 43 j = fw_d (σ9 13 j) := c10
  have M11 : ab_okM (sc_M 33) σ10 σ11 := M11
  have c11 : sc_is σ10 σ11 3 33 := c11
  have N1 : ab_okM ((34, 1000000) :: []) σ0 σ1 := fw_okM_tr (fw_okM_refl _ _) M1 (by decide)
  have N2 : ab_okM ((34, 1000000) :: (35, 1000000) :: []) σ0 σ2 := fw_okM_tr (fw_okM_tr (fw_okM_refl _ _) N1 (by decide)) M2 (by decide)
  have N3 : ab_okM ((34, 1000000) :: (35, 1000000) :: (36, 1000000) :: []) σ0 σ3 := fw_okM_tr (fw_okM_tr (fw_okM_refl _ _) N2 (by decide)) M3 (by decide)
  have N4 : ab_okM ((34, 1000000) :: (35, 1000000) :: (36, 1000000) :: (37, 1000000) :: []) σ0 σ4 := fw_okM_tr (fw_okM_tr (fw_okM_refl _ _) N3 (by decide)) M4 (by decide)
  have N5 : ab_okM ((34, 1000000) :: (35, 1000000) :: (36, 1000000) :: (37, 1000000) :: (38, 1000000) :: []) σ0 σ5 := fw_okM_tr (fw_okM_tr (fw_okM_refl _ _) N4 (by decide)) M5 (by decide)
  have N6 : ab_okM ((34, 1000000) :: (35, 1000000) :: (36, 1000000) :: (37, 1000000) :: (38, 1000000) :: (39, 1000000) :: []) σ0 σ6 := fw_okM_tr (fw_okM_tr (fw_okM_refl _ _) N5 (by decide)) M6 (by decide)
  have N7 : ab_okM ((34, 1000000) :: (35, 1000000) :: (36, 1000000) :: (37, 1000000) :: (38, 1000000) :: (39, 1000000) :: (40, 1000000) :: []) σ0 σ7 := fw_okM_tr (fw_okM_tr (fw_okM_refl _ _) N6 (by decide)) M7 (by decide)
  have N8 : ab_okM ((34, 1000000) :: (35, 1000000) :: (36, 1000000) :: (37, 1000000) :: (38, 1000000) :: (39, 1000000) :: (40, 1000000) :: (41, 1000000) :: []) σ0 σ8 := fw_okM_tr (fw_okM_tr (fw_okM_refl _ _) N7 (by decide)) M8 (by decide)
  have N9 : ab_okM ((34, 1000000) :: (35, 1000000) :: (36, 1000000) :: (37, 1000000) :: (38, 1000000) :: (39, 1000000) :: (40, 1000000) :: (41, 1000000) :: (42, 1000000) :: []) σ0 σ9 := fw_okM_tr (fw_okM_tr (fw_okM_refl _ _) N8 (by decide)) M9 (by decide)
  have N10 : ab_okM ((34, 1000000) :: (35, 1000000) :: (36, 1000000) :: (37, 1000000) :: (38, 1000000) :: (39, 1000000) :: (40, 1000000) :: (41, 1000000) :: (42, 1000000) :: (43, 1000000) :: []) σ0 σ10 := fw_okM_tr (fw_okM_tr (fw_okM_refl _ _) N9 (by decide)) M10 (by decide)
  have N11 : ab_okM ((34, 1000000) :: (35, 1000000) :: (36, 1000000) :: (37, 1000000) :: (38, 1000000) :: (39, 1000000) :: (40, 1000000) :: (41, 1000000) :: (42, 1000000) :: (43, 1000000) :: sc_M 33) σ0 σ11 := fw_okM_tr (fw_okM_tr (fw_okM_refl _ _) N10 (by decide)) M11 (by decide)
  have Q11 : ab_okM ([]) σ11 σ11 := fw_okM_refl _ _
  have Q10 : ab_okM (sc_M 33) σ10 σ11 := fw_okM_tr (fw_okM_tr (fw_okM_refl _ _) M11 (by decide)) Q11 (by decide)
  have Q9 : ab_okM ((43, 1000000) :: sc_M 33) σ9 σ11 := fw_okM_tr (fw_okM_tr (fw_okM_refl _ _) M10 (by decide)) Q10 (by decide)
  have Q8 : ab_okM ((42, 1000000) :: (43, 1000000) :: sc_M 33) σ8 σ11 := fw_okM_tr (fw_okM_tr (fw_okM_refl _ _) M9 (by decide)) Q9 (by decide)
  have Q7 : ab_okM ((41, 1000000) :: (42, 1000000) :: (43, 1000000) :: sc_M 33) σ7 σ11 := fw_okM_tr (fw_okM_tr (fw_okM_refl _ _) M8 (by decide)) Q8 (by decide)
  have Q6 : ab_okM ((40, 1000000) :: (41, 1000000) :: (42, 1000000) :: (43, 1000000) :: sc_M 33) σ6 σ11 := fw_okM_tr (fw_okM_tr (fw_okM_refl _ _) M7 (by decide)) Q7 (by decide)
  have Q5 : ab_okM ((39, 1000000) :: (40, 1000000) :: (41, 1000000) :: (42, 1000000) :: (43, 1000000) :: sc_M 33) σ5 σ11 := fw_okM_tr (fw_okM_tr (fw_okM_refl _ _) M6 (by decide)) Q6 (by decide)
  have Q4 : ab_okM ((38, 1000000) :: (39, 1000000) :: (40, 1000000) :: (41, 1000000) :: (42, 1000000) :: (43, 1000000) :: sc_M 33) σ4 σ11 := fw_okM_tr (fw_okM_tr (fw_okM_refl _ _) M5 (by decide)) Q5 (by decide)
  have Q3 : ab_okM ((37, 1000000) :: (38, 1000000) :: (39, 1000000) :: (40, 1000000) :: (41, 1000000) :: (42, 1000000) :: (43, 1000000) :: sc_M 33) σ3 σ11 := fw_okM_tr (fw_okM_tr (fw_okM_refl _ _) M4 (by decide)) Q4 (by decide)
  have Q2 : ab_okM ((36, 1000000) :: (37, 1000000) :: (38, 1000000) :: (39, 1000000) :: (40, 1000000) :: (41, 1000000) :: (42, 1000000) :: (43, 1000000) :: sc_M 33) σ2 σ11 := fw_okM_tr (fw_okM_tr (fw_okM_refl _ _) M3 (by decide)) Q3 (by decide)
  have Q1 : ab_okM ((35, 1000000) :: (36, 1000000) :: (37, 1000000) :: (38, 1000000) :: (39, 1000000) :: (40, 1000000) :: (41, 1000000) :: (42, 1000000) :: (43, 1000000) :: sc_M 33) σ1 σ11 := fw_okM_tr (fw_okM_tr (fw_okM_refl _ _) M2 (by decide)) Q2 (by decide)
  have rr : ∀ k : Nat, k ≠ 33 → (ab_ups (ab_ups (ab_ups (ab_ups (ab_ups σ11 33 11 (fw_c (σ11 3 11))) 33 12 (fw_c (σ11 3 12))) 33 13 (fw_c (σ11 3 13))) 33 14 (fw_c (σ11 3 14))) 33 15 (fw_c (σ11 3 15))) k = σ11 k := fun k hk => by rw [ab_ups_row hk, ab_ups_row hk, ab_ups_row hk, ab_ups_row hk, ab_ups_row hk]
  have ff : ∀ j : Nat, j = 11 ∨ j = 12 ∨ j = 13 ∨ j = 14 ∨ j = 15 → (ab_ups (ab_ups (ab_ups (ab_ups (ab_ups σ11 33 11 (fw_c (σ11 3 11))) 33 12 (fw_c (σ11 3 12))) 33 13 (fw_c (σ11 3 13))) 33 14 (fw_c (σ11 3 14))) 33 15 (fw_c (σ11 3 15))) 33 j = fw_c (σ0 3 j) := fun j hj => by
    have e1 : σ11 3 = σ0 3 := fw_okM_c N11 (by decide)
    rw [e1]
    rcases hj with rfl | rfl | rfl | rfl | rfl
    · rw [ab_ups_ne (by decide), ab_ups_ne (by decide), ab_ups_ne (by decide), ab_ups_ne (by decide), ab_ups_eq]
    · rw [ab_ups_ne (by decide), ab_ups_ne (by decide), ab_ups_ne (by decide), ab_ups_eq]
    · rw [ab_ups_ne (by decide), ab_ups_ne (by decide), ab_ups_eq]
    · rw [ab_ups_ne (by decide), ab_ups_eq]
    · rw [ab_ups_eq]
  refine h _ (fw_okM_ups (fw_okM_ups (fw_okM_ups (fw_okM_ups (fw_okM_ups (fw_okM_tr (fw_okM_refl _ _) N11 (by decide)) (by decide)) (by decide)) (by decide)) (by decide)) (by decide)) ⟨fun j hj => ?_, fun j hj => ?_, fun j hj => ?_, fun j hj => ?_, fun j hj => ?_, fun j hj => ?_, fun j hj => ?_, fun j hj => ?_, fun j hj => ?_, fun j hj => ?_, ?_, ff 11 (by decide), ff 12 (by decide), ff 13 (by decide), ff 14 (by decide), ff 15 (by decide)⟩
  · show (ab_ups (ab_ups (ab_ups (ab_ups (ab_ups σ11 33 11 (fw_c (σ11 3 11))) 33 12 (fw_c (σ11 3 12))) 33 13 (fw_c (σ11 3 13))) 33 14 (fw_c (σ11 3 14))) 33 15 (fw_c (σ11 3 15))) 34 j = fw_c (σ0 4 j)
    rw [rr 34 (by decide), show σ11 34 = σ1 34 from fw_okM_c Q1 (by decide), c1 j hj]
  · show (ab_ups (ab_ups (ab_ups (ab_ups (ab_ups σ11 33 11 (fw_c (σ11 3 11))) 33 12 (fw_c (σ11 3 12))) 33 13 (fw_c (σ11 3 13))) 33 14 (fw_c (σ11 3 14))) 33 15 (fw_c (σ11 3 15))) 35 j = fw_c (σ0 5 j)
    rw [rr 35 (by decide), show σ11 35 = σ2 35 from fw_okM_c Q2 (by decide), c2 j hj, show σ1 5 = σ0 5 from fw_okM_c N1 (by decide)]
  · show (ab_ups (ab_ups (ab_ups (ab_ups (ab_ups σ11 33 11 (fw_c (σ11 3 11))) 33 12 (fw_c (σ11 3 12))) 33 13 (fw_c (σ11 3 13))) 33 14 (fw_c (σ11 3 14))) 33 15 (fw_c (σ11 3 15))) 36 j = fw_c (σ0 6 j)
    rw [rr 36 (by decide), show σ11 36 = σ3 36 from fw_okM_c Q3 (by decide), c3 j hj, show σ2 6 = σ0 6 from fw_okM_c N2 (by decide)]
  · show (ab_ups (ab_ups (ab_ups (ab_ups (ab_ups σ11 33 11 (fw_c (σ11 3 11))) 33 12 (fw_c (σ11 3 12))) 33 13 (fw_c (σ11 3 13))) 33 14 (fw_c (σ11 3 14))) 33 15 (fw_c (σ11 3 15))) 37 j = fw_c (σ0 7 j)
    rw [rr 37 (by decide), show σ11 37 = σ4 37 from fw_okM_c Q4 (by decide), c4 j hj, show σ3 7 = σ0 7 from fw_okM_c N3 (by decide)]
  · show (ab_ups (ab_ups (ab_ups (ab_ups (ab_ups σ11 33 11 (fw_c (σ11 3 11))) 33 12 (fw_c (σ11 3 12))) 33 13 (fw_c (σ11 3 13))) 33 14 (fw_c (σ11 3 14))) 33 15 (fw_c (σ11 3 15))) 38 j = fw_c (σ0 8 j)
    rw [rr 38 (by decide), show σ11 38 = σ5 38 from fw_okM_c Q5 (by decide), c5 j hj, show σ4 8 = σ0 8 from fw_okM_c N4 (by decide)]
  · show (ab_ups (ab_ups (ab_ups (ab_ups (ab_ups σ11 33 11 (fw_c (σ11 3 11))) 33 12 (fw_c (σ11 3 12))) 33 13 (fw_c (σ11 3 13))) 33 14 (fw_c (σ11 3 14))) 33 15 (fw_c (σ11 3 15))) 39 j = fw_c (σ0 9 j)
    rw [rr 39 (by decide), show σ11 39 = σ6 39 from fw_okM_c Q6 (by decide), c6 j hj, show σ5 9 = σ0 9 from fw_okM_c N5 (by decide)]
  · show (ab_ups (ab_ups (ab_ups (ab_ups (ab_ups σ11 33 11 (fw_c (σ11 3 11))) 33 12 (fw_c (σ11 3 12))) 33 13 (fw_c (σ11 3 13))) 33 14 (fw_c (σ11 3 14))) 33 15 (fw_c (σ11 3 15))) 40 j = fw_c (σ0 10 j)
    rw [rr 40 (by decide), show σ11 40 = σ7 40 from fw_okM_c Q7 (by decide), c7 j hj, show σ6 10 = σ0 10 from fw_okM_c N6 (by decide)]
  · show (ab_ups (ab_ups (ab_ups (ab_ups (ab_ups σ11 33 11 (fw_c (σ11 3 11))) 33 12 (fw_c (σ11 3 12))) 33 13 (fw_c (σ11 3 13))) 33 14 (fw_c (σ11 3 14))) 33 15 (fw_c (σ11 3 15))) 41 j = fw_d (σ0 11 j)
    rw [rr 41 (by decide), show σ11 41 = σ8 41 from fw_okM_c Q8 (by decide), c8 j hj, show σ7 11 = σ0 11 from fw_okM_c N7 (by decide)]
  · show (ab_ups (ab_ups (ab_ups (ab_ups (ab_ups σ11 33 11 (fw_c (σ11 3 11))) 33 12 (fw_c (σ11 3 12))) 33 13 (fw_c (σ11 3 13))) 33 14 (fw_c (σ11 3 14))) 33 15 (fw_c (σ11 3 15))) 42 j = fw_d (σ0 12 j)
    rw [rr 42 (by decide), show σ11 42 = σ9 42 from fw_okM_c Q9 (by decide), c9 j hj, show σ8 12 = σ0 12 from fw_okM_c N8 (by decide)]
  · show (ab_ups (ab_ups (ab_ups (ab_ups (ab_ups σ11 33 11 (fw_c (σ11 3 11))) 33 12 (fw_c (σ11 3 12))) 33 13 (fw_c (σ11 3 13))) 33 14 (fw_c (σ11 3 14))) 33 15 (fw_c (σ11 3 15))) 43 j = fw_d (σ0 13 j)
    rw [rr 43 (by decide), show σ11 43 = σ10 43 from fw_okM_c Q10 (by decide), c10 j hj, show σ9 13 = σ0 13 from fw_okM_c N9 (by decide)]
  · obtain ⟨s1, s2, s3, s4⟩ := c11
    refine ⟨fun j hj => ?_, fun j hj => ?_, ?_, ?_⟩
    · show (ab_ups (ab_ups (ab_ups (ab_ups (ab_ups σ11 33 11 (fw_c (σ11 3 11))) 33 12 (fw_c (σ11 3 12))) 33 13 (fw_c (σ11 3 13))) 33 14 (fw_c (σ11 3 14))) 33 15 (fw_c (σ11 3 15))) 45 j = fw_c (σ0 15 j)
      rw [rr 45 (by decide), show σ0 15 = σ10 15 from (fw_okM_c N10 (by decide)).symm]; exact s1 j hj
    · show (ab_ups (ab_ups (ab_ups (ab_ups (ab_ups σ11 33 11 (fw_c (σ11 3 11))) 33 12 (fw_c (σ11 3 12))) 33 13 (fw_c (σ11 3 13))) 33 14 (fw_c (σ11 3 14))) 33 15 (fw_c (σ11 3 15))) 46 j = fw_c (σ0 16 j)
      rw [rr 46 (by decide), show σ0 16 = σ10 16 from (fw_okM_c N10 (by decide)).symm]; exact s2 j hj
    · show (ab_ups (ab_ups (ab_ups (ab_ups (ab_ups σ11 33 11 (fw_c (σ11 3 11))) 33 12 (fw_c (σ11 3 12))) 33 13 (fw_c (σ11 3 13))) 33 14 (fw_c (σ11 3 14))) 33 15 (fw_c (σ11 3 15))) 44 3 = fw_c (σ0 14 3)
      rw [rr 44 (by decide), show σ0 14 = σ10 14 from (fw_okM_c N10 (by decide)).symm]; exact s3
    · show (ab_ups (ab_ups (ab_ups (ab_ups (ab_ups σ11 33 11 (fw_c (σ11 3 11))) 33 12 (fw_c (σ11 3 12))) 33 13 (fw_c (σ11 3 13))) 33 14 (fw_c (σ11 3 14))) 33 15 (fw_c (σ11 3 15))) 44 4 = fw_c (σ0 14 4)
      rw [rr 44 (by decide), show σ0 14 = σ10 14 from (fw_okM_c N10 (by decide)).symm]; exact s4)
theorem fm_copy_18_3 (hinj : nn_inj ad) : fw_H l cy ad wr cr D 49 2 (cy_k 18 3) := fw_mk hinj (⟨"NameNotes$Studio", "copy", "(LNameNotes$Studio;)V"⟩, prog_8_method_3_code, 2, (Option.none : Option Jvm.ClassFile.FieldType), 1, true, 4) rfl rfl nn_KI6_ok nn_KJ6_ok nn_PF6_ok nn_PS6_ok (by decide +kernel) rfl rfl (List.forall_mem_cons.mpr ⟨fw_row nn_PM6_ok (x := 70) (k := 2) (mn := 50) (np := 2) (ob := false) (ci := 0) (⟨"NameNotes", "copyRow", "([I[I)V"⟩, prog_1_method_88_code, 3, (Option.none : Option Jvm.ClassFile.FieldType), 2, false, 4) rfl (by decide +kernel) rfl rfl (by decide) (fun q => by cases q) (fm_cp hinj), (List.forall_mem_cons.mpr ⟨fw_row nn_PM6_ok (x := 74) (k := 2) (mn := 51) (np := 2) (ob := false) (ci := 0) (⟨"NameNotes", "copyRow", "([J[J)V"⟩, prog_1_method_89_code, 3, (Option.none : Option Jvm.ClassFile.FieldType), 2, false, 4) rfl (by decide +kernel) rfl rfl (by decide) (fun q => by cases q) (fm_cl hinj), (List.forall_mem_cons.mpr ⟨fw_row nn_PM6_ok (x := 77) (k := 0) (mn := 52) (np := 1) (ob := true) (ci := 5) (⟨"NameNotes$Sentence", "copy", "(LNameNotes$Sentence;)V"⟩, prog_7_method_3_code, 2, (Option.none : Option Jvm.ClassFile.FieldType), 1, true, 4) rfl (by decide +kernel) rfl rfl (by decide) (fun _ => ⟨_, _, rfl⟩) (fm_scopy hinj), (fun _ h => absurd h List.not_mem_nil)⟩)⟩)⟩) (fun as σ0 K h => by
  obtain ⟨rfl, h⟩ := h
  refine ⟨rfl, fun G hG => fs_copy_18_3_0 hG ⟨(19, 4, 81), by decide, rfl, fun σ1 M1 c1 => fs_copy_18_3_11 hG ⟨(20, 5, 81), by decide, rfl, fun σ2 M2 c2 => fs_copy_18_3_22 hG ⟨(21, 6, 9), by decide, rfl, fun σ3 M3 c3 => fs_copy_18_3_33 hG ⟨(22, 7, 324), by decide, rfl, fun σ4 M4 c4 => fs_copy_18_3_44 hG ⟨(23, 8, 6), by decide, rfl, fun σ5 M5 c5 => fs_copy_18_3_55 hG ⟨(24, 9, 45), by decide, rfl, fun σ6 M6 c6 => fs_copy_18_3_66 hG ⟨(25, 10, 5), by decide, rfl, fun σ7 M7 c7 => fs_copy_18_3_77 hG ⟨(26, 11, 9), by decide, rfl, fun σ8 M8 c8 => fs_copy_18_3_88 hG ⟨(27, 12, 6), by decide, rfl, fun σ9 M9 c9 => fs_copy_18_3_99 hG ⟨(28, 13, 5), by decide, rfl, fun σ10 M10 c10 => fs_copy_18_3_110 hG ⟨(18, 3), by decide, rfl, fun σ11 M11 c11 => fs_copy_18_3_121 hG ?_⟩⟩⟩⟩⟩⟩⟩⟩⟩⟩⟩⟩
  have M1 : ab_okM [(4, 1000000)] σ0 σ1 := M1
  have c1 : ∀ j : Nat, j < 81 → σ1 4 j = fw_c (σ0 19 j) := c1
  have M2 : ab_okM [(5, 1000000)] σ1 σ2 := M2
  have c2 : ∀ j : Nat, j < 81 → σ2 5 j = fw_c (σ1 20 j) := c2
  have M3 : ab_okM [(6, 1000000)] σ2 σ3 := M3
  have c3 : ∀ j : Nat, j < 9 → σ3 6 j = fw_c (σ2 21 j) := c3
  have M4 : ab_okM [(7, 1000000)] σ3 σ4 := M4
  have c4 : ∀ j : Nat, j < 324 → σ4 7 j = fw_c (σ3 22 j) := c4
  have M5 : ab_okM [(8, 1000000)] σ4 σ5 := M5
  have c5 : ∀ j : Nat, j < 6 → σ5 8 j = fw_c (σ4 23 j) := c5
  have M6 : ab_okM [(9, 1000000)] σ5 σ6 := M6
  have c6 : ∀ j : Nat, j < 45 → σ6 9 j = fw_c (σ5 24 j) := c6
  have M7 : ab_okM [(10, 1000000)] σ6 σ7 := M7
  have c7 : ∀ j : Nat, j < 5 → σ7 10 j = fw_c (σ6 25 j) := c7
  have M8 : ab_okM [(11, 1000000)] σ7 σ8 := M8
  have c8 : ∀ j : Nat, j < 9 → σ8 11 j = fw_d (σ7 26 j) := c8
  have M9 : ab_okM [(12, 1000000)] σ8 σ9 := M9
  have c9 : ∀ j : Nat, j < 6 → σ9 12 j = fw_d (σ8 27 j) := c9
  have M10 : ab_okM [(13, 1000000)] σ9 σ10 := M10
  have c10 : ∀ j : Nat, j < 5 → σ10 13 j = fw_d (σ9 28 j) := c10
  have M11 : ab_okM (sc_M 3) σ10 σ11 := M11
  have c11 : sc_is σ10 σ11 18 3 := c11
  have N1 : ab_okM ((4, 1000000) :: []) σ0 σ1 := fw_okM_tr (fw_okM_refl _ _) M1 (by decide)
  have N2 : ab_okM ((4, 1000000) :: (5, 1000000) :: []) σ0 σ2 := fw_okM_tr (fw_okM_tr (fw_okM_refl _ _) N1 (by decide)) M2 (by decide)
  have N3 : ab_okM ((4, 1000000) :: (5, 1000000) :: (6, 1000000) :: []) σ0 σ3 := fw_okM_tr (fw_okM_tr (fw_okM_refl _ _) N2 (by decide)) M3 (by decide)
  have N4 : ab_okM ((4, 1000000) :: (5, 1000000) :: (6, 1000000) :: (7, 1000000) :: []) σ0 σ4 := fw_okM_tr (fw_okM_tr (fw_okM_refl _ _) N3 (by decide)) M4 (by decide)
  have N5 : ab_okM ((4, 1000000) :: (5, 1000000) :: (6, 1000000) :: (7, 1000000) :: (8, 1000000) :: []) σ0 σ5 := fw_okM_tr (fw_okM_tr (fw_okM_refl _ _) N4 (by decide)) M5 (by decide)
  have N6 : ab_okM ((4, 1000000) :: (5, 1000000) :: (6, 1000000) :: (7, 1000000) :: (8, 1000000) :: (9, 1000000) :: []) σ0 σ6 := fw_okM_tr (fw_okM_tr (fw_okM_refl _ _) N5 (by decide)) M6 (by decide)
  have N7 : ab_okM ((4, 1000000) :: (5, 1000000) :: (6, 1000000) :: (7, 1000000) :: (8, 1000000) :: (9, 1000000) :: (10, 1000000) :: []) σ0 σ7 := fw_okM_tr (fw_okM_tr (fw_okM_refl _ _) N6 (by decide)) M7 (by decide)
  have N8 : ab_okM ((4, 1000000) :: (5, 1000000) :: (6, 1000000) :: (7, 1000000) :: (8, 1000000) :: (9, 1000000) :: (10, 1000000) :: (11, 1000000) :: []) σ0 σ8 := fw_okM_tr (fw_okM_tr (fw_okM_refl _ _) N7 (by decide)) M8 (by decide)
  have N9 : ab_okM ((4, 1000000) :: (5, 1000000) :: (6, 1000000) :: (7, 1000000) :: (8, 1000000) :: (9, 1000000) :: (10, 1000000) :: (11, 1000000) :: (12, 1000000) :: []) σ0 σ9 := fw_okM_tr (fw_okM_tr (fw_okM_refl _ _) N8 (by decide)) M9 (by decide)
  have N10 : ab_okM ((4, 1000000) :: (5, 1000000) :: (6, 1000000) :: (7, 1000000) :: (8, 1000000) :: (9, 1000000) :: (10, 1000000) :: (11, 1000000) :: (12, 1000000) :: (13, 1000000) :: []) σ0 σ10 := fw_okM_tr (fw_okM_tr (fw_okM_refl _ _) N9 (by decide)) M10 (by decide)
  have N11 : ab_okM ((4, 1000000) :: (5, 1000000) :: (6, 1000000) :: (7, 1000000) :: (8, 1000000) :: (9, 1000000) :: (10, 1000000) :: (11, 1000000) :: (12, 1000000) :: (13, 1000000) :: sc_M 3) σ0 σ11 := fw_okM_tr (fw_okM_tr (fw_okM_refl _ _) N10 (by decide)) M11 (by decide)
  have Q11 : ab_okM ([]) σ11 σ11 := fw_okM_refl _ _
  have Q10 : ab_okM (sc_M 3) σ10 σ11 := fw_okM_tr (fw_okM_tr (fw_okM_refl _ _) M11 (by decide)) Q11 (by decide)
  have Q9 : ab_okM ((13, 1000000) :: sc_M 3) σ9 σ11 := fw_okM_tr (fw_okM_tr (fw_okM_refl _ _) M10 (by decide)) Q10 (by decide)
  have Q8 : ab_okM ((12, 1000000) :: (13, 1000000) :: sc_M 3) σ8 σ11 := fw_okM_tr (fw_okM_tr (fw_okM_refl _ _) M9 (by decide)) Q9 (by decide)
  have Q7 : ab_okM ((11, 1000000) :: (12, 1000000) :: (13, 1000000) :: sc_M 3) σ7 σ11 := fw_okM_tr (fw_okM_tr (fw_okM_refl _ _) M8 (by decide)) Q8 (by decide)
  have Q6 : ab_okM ((10, 1000000) :: (11, 1000000) :: (12, 1000000) :: (13, 1000000) :: sc_M 3) σ6 σ11 := fw_okM_tr (fw_okM_tr (fw_okM_refl _ _) M7 (by decide)) Q7 (by decide)
  have Q5 : ab_okM ((9, 1000000) :: (10, 1000000) :: (11, 1000000) :: (12, 1000000) :: (13, 1000000) :: sc_M 3) σ5 σ11 := fw_okM_tr (fw_okM_tr (fw_okM_refl _ _) M6 (by decide)) Q6 (by decide)
  have Q4 : ab_okM ((8, 1000000) :: (9, 1000000) :: (10, 1000000) :: (11, 1000000) :: (12, 1000000) :: (13, 1000000) :: sc_M 3) σ4 σ11 := fw_okM_tr (fw_okM_tr (fw_okM_refl _ _) M5 (by decide)) Q5 (by decide)
  have Q3 : ab_okM ((7, 1000000) :: (8, 1000000) :: (9, 1000000) :: (10, 1000000) :: (11, 1000000) :: (12, 1000000) :: (13, 1000000) :: sc_M 3) σ3 σ11 := fw_okM_tr (fw_okM_tr (fw_okM_refl _ _) M4 (by decide)) Q4 (by decide)
  have Q2 : ab_okM ((6, 1000000) :: (7, 1000000) :: (8, 1000000) :: (9, 1000000) :: (10, 1000000) :: (11, 1000000) :: (12, 1000000) :: (13, 1000000) :: sc_M 3) σ2 σ11 := fw_okM_tr (fw_okM_tr (fw_okM_refl _ _) M3 (by decide)) Q3 (by decide)
  have Q1 : ab_okM ((5, 1000000) :: (6, 1000000) :: (7, 1000000) :: (8, 1000000) :: (9, 1000000) :: (10, 1000000) :: (11, 1000000) :: (12, 1000000) :: (13, 1000000) :: sc_M 3) σ1 σ11 := fw_okM_tr (fw_okM_tr (fw_okM_refl _ _) M2 (by decide)) Q2 (by decide)
  have rr : ∀ k : Nat, k ≠ 3 → (ab_ups (ab_ups (ab_ups (ab_ups (ab_ups σ11 3 11 (fw_c (σ11 18 11))) 3 12 (fw_c (σ11 18 12))) 3 13 (fw_c (σ11 18 13))) 3 14 (fw_c (σ11 18 14))) 3 15 (fw_c (σ11 18 15))) k = σ11 k := fun k hk => by rw [ab_ups_row hk, ab_ups_row hk, ab_ups_row hk, ab_ups_row hk, ab_ups_row hk]
  have ff : ∀ j : Nat, j = 11 ∨ j = 12 ∨ j = 13 ∨ j = 14 ∨ j = 15 → (ab_ups (ab_ups (ab_ups (ab_ups (ab_ups σ11 3 11 (fw_c (σ11 18 11))) 3 12 (fw_c (σ11 18 12))) 3 13 (fw_c (σ11 18 13))) 3 14 (fw_c (σ11 18 14))) 3 15 (fw_c (σ11 18 15))) 3 j = fw_c (σ0 18 j) := fun j hj => by
    have e1 : σ11 18 = σ0 18 := fw_okM_c N11 (by decide)
    rw [e1]
    rcases hj with rfl | rfl | rfl | rfl | rfl
    · rw [ab_ups_ne (by decide), ab_ups_ne (by decide), ab_ups_ne (by decide), ab_ups_ne (by decide), ab_ups_eq]
    · rw [ab_ups_ne (by decide), ab_ups_ne (by decide), ab_ups_ne (by decide), ab_ups_eq]
    · rw [ab_ups_ne (by decide), ab_ups_ne (by decide), ab_ups_eq]
    · rw [ab_ups_ne (by decide), ab_ups_eq]
    · rw [ab_ups_eq]
  refine h _ (fw_okM_ups (fw_okM_ups (fw_okM_ups (fw_okM_ups (fw_okM_ups (fw_okM_tr (fw_okM_refl _ _) N11 (by decide)) (by decide)) (by decide)) (by decide)) (by decide)) (by decide)) ⟨fun j hj => ?_, fun j hj => ?_, fun j hj => ?_, fun j hj => ?_, fun j hj => ?_, fun j hj => ?_, fun j hj => ?_, fun j hj => ?_, fun j hj => ?_, fun j hj => ?_, ?_, ff 11 (by decide), ff 12 (by decide), ff 13 (by decide), ff 14 (by decide), ff 15 (by decide)⟩
  · show (ab_ups (ab_ups (ab_ups (ab_ups (ab_ups σ11 3 11 (fw_c (σ11 18 11))) 3 12 (fw_c (σ11 18 12))) 3 13 (fw_c (σ11 18 13))) 3 14 (fw_c (σ11 18 14))) 3 15 (fw_c (σ11 18 15))) 4 j = fw_c (σ0 19 j)
    rw [rr 4 (by decide), show σ11 4 = σ1 4 from fw_okM_c Q1 (by decide), c1 j hj]
  · show (ab_ups (ab_ups (ab_ups (ab_ups (ab_ups σ11 3 11 (fw_c (σ11 18 11))) 3 12 (fw_c (σ11 18 12))) 3 13 (fw_c (σ11 18 13))) 3 14 (fw_c (σ11 18 14))) 3 15 (fw_c (σ11 18 15))) 5 j = fw_c (σ0 20 j)
    rw [rr 5 (by decide), show σ11 5 = σ2 5 from fw_okM_c Q2 (by decide), c2 j hj, show σ1 20 = σ0 20 from fw_okM_c N1 (by decide)]
  · show (ab_ups (ab_ups (ab_ups (ab_ups (ab_ups σ11 3 11 (fw_c (σ11 18 11))) 3 12 (fw_c (σ11 18 12))) 3 13 (fw_c (σ11 18 13))) 3 14 (fw_c (σ11 18 14))) 3 15 (fw_c (σ11 18 15))) 6 j = fw_c (σ0 21 j)
    rw [rr 6 (by decide), show σ11 6 = σ3 6 from fw_okM_c Q3 (by decide), c3 j hj, show σ2 21 = σ0 21 from fw_okM_c N2 (by decide)]
  · show (ab_ups (ab_ups (ab_ups (ab_ups (ab_ups σ11 3 11 (fw_c (σ11 18 11))) 3 12 (fw_c (σ11 18 12))) 3 13 (fw_c (σ11 18 13))) 3 14 (fw_c (σ11 18 14))) 3 15 (fw_c (σ11 18 15))) 7 j = fw_c (σ0 22 j)
    rw [rr 7 (by decide), show σ11 7 = σ4 7 from fw_okM_c Q4 (by decide), c4 j hj, show σ3 22 = σ0 22 from fw_okM_c N3 (by decide)]
  · show (ab_ups (ab_ups (ab_ups (ab_ups (ab_ups σ11 3 11 (fw_c (σ11 18 11))) 3 12 (fw_c (σ11 18 12))) 3 13 (fw_c (σ11 18 13))) 3 14 (fw_c (σ11 18 14))) 3 15 (fw_c (σ11 18 15))) 8 j = fw_c (σ0 23 j)
    rw [rr 8 (by decide), show σ11 8 = σ5 8 from fw_okM_c Q5 (by decide), c5 j hj, show σ4 23 = σ0 23 from fw_okM_c N4 (by decide)]
  · show (ab_ups (ab_ups (ab_ups (ab_ups (ab_ups σ11 3 11 (fw_c (σ11 18 11))) 3 12 (fw_c (σ11 18 12))) 3 13 (fw_c (σ11 18 13))) 3 14 (fw_c (σ11 18 14))) 3 15 (fw_c (σ11 18 15))) 9 j = fw_c (σ0 24 j)
    rw [rr 9 (by decide), show σ11 9 = σ6 9 from fw_okM_c Q6 (by decide), c6 j hj, show σ5 24 = σ0 24 from fw_okM_c N5 (by decide)]
  · show (ab_ups (ab_ups (ab_ups (ab_ups (ab_ups σ11 3 11 (fw_c (σ11 18 11))) 3 12 (fw_c (σ11 18 12))) 3 13 (fw_c (σ11 18 13))) 3 14 (fw_c (σ11 18 14))) 3 15 (fw_c (σ11 18 15))) 10 j = fw_c (σ0 25 j)
    rw [rr 10 (by decide), show σ11 10 = σ7 10 from fw_okM_c Q7 (by decide), c7 j hj, show σ6 25 = σ0 25 from fw_okM_c N6 (by decide)]
  · show (ab_ups (ab_ups (ab_ups (ab_ups (ab_ups σ11 3 11 (fw_c (σ11 18 11))) 3 12 (fw_c (σ11 18 12))) 3 13 (fw_c (σ11 18 13))) 3 14 (fw_c (σ11 18 14))) 3 15 (fw_c (σ11 18 15))) 11 j = fw_d (σ0 26 j)
    rw [rr 11 (by decide), show σ11 11 = σ8 11 from fw_okM_c Q8 (by decide), c8 j hj, show σ7 26 = σ0 26 from fw_okM_c N7 (by decide)]
  · show (ab_ups (ab_ups (ab_ups (ab_ups (ab_ups σ11 3 11 (fw_c (σ11 18 11))) 3 12 (fw_c (σ11 18 12))) 3 13 (fw_c (σ11 18 13))) 3 14 (fw_c (σ11 18 14))) 3 15 (fw_c (σ11 18 15))) 12 j = fw_d (σ0 27 j)
    rw [rr 12 (by decide), show σ11 12 = σ9 12 from fw_okM_c Q9 (by decide), c9 j hj, show σ8 27 = σ0 27 from fw_okM_c N8 (by decide)]
  · show (ab_ups (ab_ups (ab_ups (ab_ups (ab_ups σ11 3 11 (fw_c (σ11 18 11))) 3 12 (fw_c (σ11 18 12))) 3 13 (fw_c (σ11 18 13))) 3 14 (fw_c (σ11 18 14))) 3 15 (fw_c (σ11 18 15))) 13 j = fw_d (σ0 28 j)
    rw [rr 13 (by decide), show σ11 13 = σ10 13 from fw_okM_c Q10 (by decide), c10 j hj, show σ9 28 = σ0 28 from fw_okM_c N9 (by decide)]
  · obtain ⟨s1, s2, s3, s4⟩ := c11
    refine ⟨fun j hj => ?_, fun j hj => ?_, ?_, ?_⟩
    · show (ab_ups (ab_ups (ab_ups (ab_ups (ab_ups σ11 3 11 (fw_c (σ11 18 11))) 3 12 (fw_c (σ11 18 12))) 3 13 (fw_c (σ11 18 13))) 3 14 (fw_c (σ11 18 14))) 3 15 (fw_c (σ11 18 15))) 15 j = fw_c (σ0 30 j)
      rw [rr 15 (by decide), show σ0 30 = σ10 30 from (fw_okM_c N10 (by decide)).symm]; exact s1 j hj
    · show (ab_ups (ab_ups (ab_ups (ab_ups (ab_ups σ11 3 11 (fw_c (σ11 18 11))) 3 12 (fw_c (σ11 18 12))) 3 13 (fw_c (σ11 18 13))) 3 14 (fw_c (σ11 18 14))) 3 15 (fw_c (σ11 18 15))) 16 j = fw_c (σ0 31 j)
      rw [rr 16 (by decide), show σ0 31 = σ10 31 from (fw_okM_c N10 (by decide)).symm]; exact s2 j hj
    · show (ab_ups (ab_ups (ab_ups (ab_ups (ab_ups σ11 3 11 (fw_c (σ11 18 11))) 3 12 (fw_c (σ11 18 12))) 3 13 (fw_c (σ11 18 13))) 3 14 (fw_c (σ11 18 14))) 3 15 (fw_c (σ11 18 15))) 14 3 = fw_c (σ0 29 3)
      rw [rr 14 (by decide), show σ0 29 = σ10 29 from (fw_okM_c N10 (by decide)).symm]; exact s3
    · show (ab_ups (ab_ups (ab_ups (ab_ups (ab_ups σ11 3 11 (fw_c (σ11 18 11))) 3 12 (fw_c (σ11 18 12))) 3 13 (fw_c (σ11 18 13))) 3 14 (fw_c (σ11 18 14))) 3 15 (fw_c (σ11 18 15))) 14 4 = fw_c (σ0 29 4)
      rw [rr 14 (by decide), show σ0 29 = σ10 29 from (fw_okM_c N10 (by decide)).symm]; exact s4)
theorem fm_copy_33_3 (hinj : nn_inj ad) : fw_H l cy ad wr cr D 49 2 (cy_k 33 3) := fw_mk hinj (⟨"NameNotes$Studio", "copy", "(LNameNotes$Studio;)V"⟩, prog_8_method_3_code, 2, (Option.none : Option Jvm.ClassFile.FieldType), 1, true, 4) rfl rfl nn_KI6_ok nn_KJ6_ok nn_PF6_ok nn_PS6_ok (by decide +kernel) rfl rfl (List.forall_mem_cons.mpr ⟨fw_row nn_PM6_ok (x := 70) (k := 2) (mn := 50) (np := 2) (ob := false) (ci := 0) (⟨"NameNotes", "copyRow", "([I[I)V"⟩, prog_1_method_88_code, 3, (Option.none : Option Jvm.ClassFile.FieldType), 2, false, 4) rfl (by decide +kernel) rfl rfl (by decide) (fun q => by cases q) (fm_cp hinj), (List.forall_mem_cons.mpr ⟨fw_row nn_PM6_ok (x := 74) (k := 2) (mn := 51) (np := 2) (ob := false) (ci := 0) (⟨"NameNotes", "copyRow", "([J[J)V"⟩, prog_1_method_89_code, 3, (Option.none : Option Jvm.ClassFile.FieldType), 2, false, 4) rfl (by decide +kernel) rfl rfl (by decide) (fun q => by cases q) (fm_cl hinj), (List.forall_mem_cons.mpr ⟨fw_row nn_PM6_ok (x := 77) (k := 0) (mn := 52) (np := 1) (ob := true) (ci := 5) (⟨"NameNotes$Sentence", "copy", "(LNameNotes$Sentence;)V"⟩, prog_7_method_3_code, 2, (Option.none : Option Jvm.ClassFile.FieldType), 1, true, 4) rfl (by decide +kernel) rfl rfl (by decide) (fun _ => ⟨_, _, rfl⟩) (fm_scopy hinj), (fun _ h => absurd h List.not_mem_nil)⟩)⟩)⟩) (fun as σ0 K h => by
  obtain ⟨rfl, h⟩ := h
  refine ⟨rfl, fun G hG => fs_copy_33_3_0 hG ⟨(34, 4, 81), by decide, rfl, fun σ1 M1 c1 => fs_copy_33_3_11 hG ⟨(35, 5, 81), by decide, rfl, fun σ2 M2 c2 => fs_copy_33_3_22 hG ⟨(36, 6, 9), by decide, rfl, fun σ3 M3 c3 => fs_copy_33_3_33 hG ⟨(37, 7, 324), by decide, rfl, fun σ4 M4 c4 => fs_copy_33_3_44 hG ⟨(38, 8, 6), by decide, rfl, fun σ5 M5 c5 => fs_copy_33_3_55 hG ⟨(39, 9, 45), by decide, rfl, fun σ6 M6 c6 => fs_copy_33_3_66 hG ⟨(40, 10, 5), by decide, rfl, fun σ7 M7 c7 => fs_copy_33_3_77 hG ⟨(41, 11, 9), by decide, rfl, fun σ8 M8 c8 => fs_copy_33_3_88 hG ⟨(42, 12, 6), by decide, rfl, fun σ9 M9 c9 => fs_copy_33_3_99 hG ⟨(43, 13, 5), by decide, rfl, fun σ10 M10 c10 => fs_copy_33_3_110 hG ⟨(33, 3), by decide, rfl, fun σ11 M11 c11 => fs_copy_33_3_121 hG ?_⟩⟩⟩⟩⟩⟩⟩⟩⟩⟩⟩⟩
  have M1 : ab_okM [(4, 1000000)] σ0 σ1 := M1
  have c1 : ∀ j : Nat, j < 81 → σ1 4 j = fw_c (σ0 34 j) := c1
  have M2 : ab_okM [(5, 1000000)] σ1 σ2 := M2
  have c2 : ∀ j : Nat, j < 81 → σ2 5 j = fw_c (σ1 35 j) := c2
  have M3 : ab_okM [(6, 1000000)] σ2 σ3 := M3
  have c3 : ∀ j : Nat, j < 9 → σ3 6 j = fw_c (σ2 36 j) := c3
  have M4 : ab_okM [(7, 1000000)] σ3 σ4 := M4
  have c4 : ∀ j : Nat, j < 324 → σ4 7 j = fw_c (σ3 37 j) := c4
  have M5 : ab_okM [(8, 1000000)] σ4 σ5 := M5
  have c5 : ∀ j : Nat, j < 6 → σ5 8 j = fw_c (σ4 38 j) := c5
  have M6 : ab_okM [(9, 1000000)] σ5 σ6 := M6
  have c6 : ∀ j : Nat, j < 45 → σ6 9 j = fw_c (σ5 39 j) := c6
  have M7 : ab_okM [(10, 1000000)] σ6 σ7 := M7
  have c7 : ∀ j : Nat, j < 5 → σ7 10 j = fw_c (σ6 40 j) := c7
  have M8 : ab_okM [(11, 1000000)] σ7 σ8 := M8
  have c8 : ∀ j : Nat, j < 9 → σ8 11 j = fw_d (σ7 41 j) := c8
  have M9 : ab_okM [(12, 1000000)] σ8 σ9 := M9
  have c9 : ∀ j : Nat, j < 6 → σ9 12 j = fw_d (σ8 42 j) := c9
  have M10 : ab_okM [(13, 1000000)] σ9 σ10 := M10
  have c10 : ∀ j : Nat, j < 5 → σ10 13 j = fw_d (σ9 43 j) := c10
  have M11 : ab_okM (sc_M 3) σ10 σ11 := M11
  have c11 : sc_is σ10 σ11 33 3 := c11
  have N1 : ab_okM ((4, 1000000) :: []) σ0 σ1 := fw_okM_tr (fw_okM_refl _ _) M1 (by decide)
  have N2 : ab_okM ((4, 1000000) :: (5, 1000000) :: []) σ0 σ2 := fw_okM_tr (fw_okM_tr (fw_okM_refl _ _) N1 (by decide)) M2 (by decide)
  have N3 : ab_okM ((4, 1000000) :: (5, 1000000) :: (6, 1000000) :: []) σ0 σ3 := fw_okM_tr (fw_okM_tr (fw_okM_refl _ _) N2 (by decide)) M3 (by decide)
  have N4 : ab_okM ((4, 1000000) :: (5, 1000000) :: (6, 1000000) :: (7, 1000000) :: []) σ0 σ4 := fw_okM_tr (fw_okM_tr (fw_okM_refl _ _) N3 (by decide)) M4 (by decide)
  have N5 : ab_okM ((4, 1000000) :: (5, 1000000) :: (6, 1000000) :: (7, 1000000) :: (8, 1000000) :: []) σ0 σ5 := fw_okM_tr (fw_okM_tr (fw_okM_refl _ _) N4 (by decide)) M5 (by decide)
  have N6 : ab_okM ((4, 1000000) :: (5, 1000000) :: (6, 1000000) :: (7, 1000000) :: (8, 1000000) :: (9, 1000000) :: []) σ0 σ6 := fw_okM_tr (fw_okM_tr (fw_okM_refl _ _) N5 (by decide)) M6 (by decide)
  have N7 : ab_okM ((4, 1000000) :: (5, 1000000) :: (6, 1000000) :: (7, 1000000) :: (8, 1000000) :: (9, 1000000) :: (10, 1000000) :: []) σ0 σ7 := fw_okM_tr (fw_okM_tr (fw_okM_refl _ _) N6 (by decide)) M7 (by decide)
  have N8 : ab_okM ((4, 1000000) :: (5, 1000000) :: (6, 1000000) :: (7, 1000000) :: (8, 1000000) :: (9, 1000000) :: (10, 1000000) :: (11, 1000000) :: []) σ0 σ8 := fw_okM_tr (fw_okM_tr (fw_okM_refl _ _) N7 (by decide)) M8 (by decide)
  have N9 : ab_okM ((4, 1000000) :: (5, 1000000) :: (6, 1000000) :: (7, 1000000) :: (8, 1000000) :: (9, 1000000) :: (10, 1000000) :: (11, 1000000) :: (12, 1000000) :: []) σ0 σ9 := fw_okM_tr (fw_okM_tr (fw_okM_refl _ _) N8 (by decide)) M9 (by decide)
  have N10 : ab_okM ((4, 1000000) :: (5, 1000000) :: (6, 1000000) :: (7, 1000000) :: (8, 1000000) :: (9, 1000000) :: (10, 1000000) :: (11, 1000000) :: (12, 1000000) :: (13, 1000000) :: []) σ0 σ10 := fw_okM_tr (fw_okM_tr (fw_okM_refl _ _) N9 (by decide)) M10 (by decide)
  have N11 : ab_okM ((4, 1000000) :: (5, 1000000) :: (6, 1000000) :: (7, 1000000) :: (8, 1000000) :: (9, 1000000) :: (10, 1000000) :: (11, 1000000) :: (12, 1000000) :: (13, 1000000) :: sc_M 3) σ0 σ11 := fw_okM_tr (fw_okM_tr (fw_okM_refl _ _) N10 (by decide)) M11 (by decide)
  have Q11 : ab_okM ([]) σ11 σ11 := fw_okM_refl _ _
  have Q10 : ab_okM (sc_M 3) σ10 σ11 := fw_okM_tr (fw_okM_tr (fw_okM_refl _ _) M11 (by decide)) Q11 (by decide)
  have Q9 : ab_okM ((13, 1000000) :: sc_M 3) σ9 σ11 := fw_okM_tr (fw_okM_tr (fw_okM_refl _ _) M10 (by decide)) Q10 (by decide)
  have Q8 : ab_okM ((12, 1000000) :: (13, 1000000) :: sc_M 3) σ8 σ11 := fw_okM_tr (fw_okM_tr (fw_okM_refl _ _) M9 (by decide)) Q9 (by decide)
  have Q7 : ab_okM ((11, 1000000) :: (12, 1000000) :: (13, 1000000) :: sc_M 3) σ7 σ11 := fw_okM_tr (fw_okM_tr (fw_okM_refl _ _) M8 (by decide)) Q8 (by decide)
  have Q6 : ab_okM ((10, 1000000) :: (11, 1000000) :: (12, 1000000) :: (13, 1000000) :: sc_M 3) σ6 σ11 := fw_okM_tr (fw_okM_tr (fw_okM_refl _ _) M7 (by decide)) Q7 (by decide)
  have Q5 : ab_okM ((9, 1000000) :: (10, 1000000) :: (11, 1000000) :: (12, 1000000) :: (13, 1000000) :: sc_M 3) σ5 σ11 := fw_okM_tr (fw_okM_tr (fw_okM_refl _ _) M6 (by decide)) Q6 (by decide)
  have Q4 : ab_okM ((8, 1000000) :: (9, 1000000) :: (10, 1000000) :: (11, 1000000) :: (12, 1000000) :: (13, 1000000) :: sc_M 3) σ4 σ11 := fw_okM_tr (fw_okM_tr (fw_okM_refl _ _) M5 (by decide)) Q5 (by decide)
  have Q3 : ab_okM ((7, 1000000) :: (8, 1000000) :: (9, 1000000) :: (10, 1000000) :: (11, 1000000) :: (12, 1000000) :: (13, 1000000) :: sc_M 3) σ3 σ11 := fw_okM_tr (fw_okM_tr (fw_okM_refl _ _) M4 (by decide)) Q4 (by decide)
  have Q2 : ab_okM ((6, 1000000) :: (7, 1000000) :: (8, 1000000) :: (9, 1000000) :: (10, 1000000) :: (11, 1000000) :: (12, 1000000) :: (13, 1000000) :: sc_M 3) σ2 σ11 := fw_okM_tr (fw_okM_tr (fw_okM_refl _ _) M3 (by decide)) Q3 (by decide)
  have Q1 : ab_okM ((5, 1000000) :: (6, 1000000) :: (7, 1000000) :: (8, 1000000) :: (9, 1000000) :: (10, 1000000) :: (11, 1000000) :: (12, 1000000) :: (13, 1000000) :: sc_M 3) σ1 σ11 := fw_okM_tr (fw_okM_tr (fw_okM_refl _ _) M2 (by decide)) Q2 (by decide)
  have rr : ∀ k : Nat, k ≠ 3 → (ab_ups (ab_ups (ab_ups (ab_ups (ab_ups σ11 3 11 (fw_c (σ11 33 11))) 3 12 (fw_c (σ11 33 12))) 3 13 (fw_c (σ11 33 13))) 3 14 (fw_c (σ11 33 14))) 3 15 (fw_c (σ11 33 15))) k = σ11 k := fun k hk => by rw [ab_ups_row hk, ab_ups_row hk, ab_ups_row hk, ab_ups_row hk, ab_ups_row hk]
  have ff : ∀ j : Nat, j = 11 ∨ j = 12 ∨ j = 13 ∨ j = 14 ∨ j = 15 → (ab_ups (ab_ups (ab_ups (ab_ups (ab_ups σ11 3 11 (fw_c (σ11 33 11))) 3 12 (fw_c (σ11 33 12))) 3 13 (fw_c (σ11 33 13))) 3 14 (fw_c (σ11 33 14))) 3 15 (fw_c (σ11 33 15))) 3 j = fw_c (σ0 33 j) := fun j hj => by
    have e1 : σ11 33 = σ0 33 := fw_okM_c N11 (by decide)
    rw [e1]
    rcases hj with rfl | rfl | rfl | rfl | rfl
    · rw [ab_ups_ne (by decide), ab_ups_ne (by decide), ab_ups_ne (by decide), ab_ups_ne (by decide), ab_ups_eq]
    · rw [ab_ups_ne (by decide), ab_ups_ne (by decide), ab_ups_ne (by decide), ab_ups_eq]
    · rw [ab_ups_ne (by decide), ab_ups_ne (by decide), ab_ups_eq]
    · rw [ab_ups_ne (by decide), ab_ups_eq]
    · rw [ab_ups_eq]
  refine h _ (fw_okM_ups (fw_okM_ups (fw_okM_ups (fw_okM_ups (fw_okM_ups (fw_okM_tr (fw_okM_refl _ _) N11 (by decide)) (by decide)) (by decide)) (by decide)) (by decide)) (by decide)) ⟨fun j hj => ?_, fun j hj => ?_, fun j hj => ?_, fun j hj => ?_, fun j hj => ?_, fun j hj => ?_, fun j hj => ?_, fun j hj => ?_, fun j hj => ?_, fun j hj => ?_, ?_, ff 11 (by decide), ff 12 (by decide), ff 13 (by decide), ff 14 (by decide), ff 15 (by decide)⟩
  · show (ab_ups (ab_ups (ab_ups (ab_ups (ab_ups σ11 3 11 (fw_c (σ11 33 11))) 3 12 (fw_c (σ11 33 12))) 3 13 (fw_c (σ11 33 13))) 3 14 (fw_c (σ11 33 14))) 3 15 (fw_c (σ11 33 15))) 4 j = fw_c (σ0 34 j)
    rw [rr 4 (by decide), show σ11 4 = σ1 4 from fw_okM_c Q1 (by decide), c1 j hj]
  · show (ab_ups (ab_ups (ab_ups (ab_ups (ab_ups σ11 3 11 (fw_c (σ11 33 11))) 3 12 (fw_c (σ11 33 12))) 3 13 (fw_c (σ11 33 13))) 3 14 (fw_c (σ11 33 14))) 3 15 (fw_c (σ11 33 15))) 5 j = fw_c (σ0 35 j)
    rw [rr 5 (by decide), show σ11 5 = σ2 5 from fw_okM_c Q2 (by decide), c2 j hj, show σ1 35 = σ0 35 from fw_okM_c N1 (by decide)]
  · show (ab_ups (ab_ups (ab_ups (ab_ups (ab_ups σ11 3 11 (fw_c (σ11 33 11))) 3 12 (fw_c (σ11 33 12))) 3 13 (fw_c (σ11 33 13))) 3 14 (fw_c (σ11 33 14))) 3 15 (fw_c (σ11 33 15))) 6 j = fw_c (σ0 36 j)
    rw [rr 6 (by decide), show σ11 6 = σ3 6 from fw_okM_c Q3 (by decide), c3 j hj, show σ2 36 = σ0 36 from fw_okM_c N2 (by decide)]
  · show (ab_ups (ab_ups (ab_ups (ab_ups (ab_ups σ11 3 11 (fw_c (σ11 33 11))) 3 12 (fw_c (σ11 33 12))) 3 13 (fw_c (σ11 33 13))) 3 14 (fw_c (σ11 33 14))) 3 15 (fw_c (σ11 33 15))) 7 j = fw_c (σ0 37 j)
    rw [rr 7 (by decide), show σ11 7 = σ4 7 from fw_okM_c Q4 (by decide), c4 j hj, show σ3 37 = σ0 37 from fw_okM_c N3 (by decide)]
  · show (ab_ups (ab_ups (ab_ups (ab_ups (ab_ups σ11 3 11 (fw_c (σ11 33 11))) 3 12 (fw_c (σ11 33 12))) 3 13 (fw_c (σ11 33 13))) 3 14 (fw_c (σ11 33 14))) 3 15 (fw_c (σ11 33 15))) 8 j = fw_c (σ0 38 j)
    rw [rr 8 (by decide), show σ11 8 = σ5 8 from fw_okM_c Q5 (by decide), c5 j hj, show σ4 38 = σ0 38 from fw_okM_c N4 (by decide)]
  · show (ab_ups (ab_ups (ab_ups (ab_ups (ab_ups σ11 3 11 (fw_c (σ11 33 11))) 3 12 (fw_c (σ11 33 12))) 3 13 (fw_c (σ11 33 13))) 3 14 (fw_c (σ11 33 14))) 3 15 (fw_c (σ11 33 15))) 9 j = fw_c (σ0 39 j)
    rw [rr 9 (by decide), show σ11 9 = σ6 9 from fw_okM_c Q6 (by decide), c6 j hj, show σ5 39 = σ0 39 from fw_okM_c N5 (by decide)]
  · show (ab_ups (ab_ups (ab_ups (ab_ups (ab_ups σ11 3 11 (fw_c (σ11 33 11))) 3 12 (fw_c (σ11 33 12))) 3 13 (fw_c (σ11 33 13))) 3 14 (fw_c (σ11 33 14))) 3 15 (fw_c (σ11 33 15))) 10 j = fw_c (σ0 40 j)
    rw [rr 10 (by decide), show σ11 10 = σ7 10 from fw_okM_c Q7 (by decide), c7 j hj, show σ6 40 = σ0 40 from fw_okM_c N6 (by decide)]
  · show (ab_ups (ab_ups (ab_ups (ab_ups (ab_ups σ11 3 11 (fw_c (σ11 33 11))) 3 12 (fw_c (σ11 33 12))) 3 13 (fw_c (σ11 33 13))) 3 14 (fw_c (σ11 33 14))) 3 15 (fw_c (σ11 33 15))) 11 j = fw_d (σ0 41 j)
    rw [rr 11 (by decide), show σ11 11 = σ8 11 from fw_okM_c Q8 (by decide), c8 j hj, show σ7 41 = σ0 41 from fw_okM_c N7 (by decide)]
  · show (ab_ups (ab_ups (ab_ups (ab_ups (ab_ups σ11 3 11 (fw_c (σ11 33 11))) 3 12 (fw_c (σ11 33 12))) 3 13 (fw_c (σ11 33 13))) 3 14 (fw_c (σ11 33 14))) 3 15 (fw_c (σ11 33 15))) 12 j = fw_d (σ0 42 j)
    rw [rr 12 (by decide), show σ11 12 = σ9 12 from fw_okM_c Q9 (by decide), c9 j hj, show σ8 42 = σ0 42 from fw_okM_c N8 (by decide)]
  · show (ab_ups (ab_ups (ab_ups (ab_ups (ab_ups σ11 3 11 (fw_c (σ11 33 11))) 3 12 (fw_c (σ11 33 12))) 3 13 (fw_c (σ11 33 13))) 3 14 (fw_c (σ11 33 14))) 3 15 (fw_c (σ11 33 15))) 13 j = fw_d (σ0 43 j)
    rw [rr 13 (by decide), show σ11 13 = σ10 13 from fw_okM_c Q10 (by decide), c10 j hj, show σ9 43 = σ0 43 from fw_okM_c N9 (by decide)]
  · obtain ⟨s1, s2, s3, s4⟩ := c11
    refine ⟨fun j hj => ?_, fun j hj => ?_, ?_, ?_⟩
    · show (ab_ups (ab_ups (ab_ups (ab_ups (ab_ups σ11 3 11 (fw_c (σ11 33 11))) 3 12 (fw_c (σ11 33 12))) 3 13 (fw_c (σ11 33 13))) 3 14 (fw_c (σ11 33 14))) 3 15 (fw_c (σ11 33 15))) 15 j = fw_c (σ0 45 j)
      rw [rr 15 (by decide), show σ0 45 = σ10 45 from (fw_okM_c N10 (by decide)).symm]; exact s1 j hj
    · show (ab_ups (ab_ups (ab_ups (ab_ups (ab_ups σ11 3 11 (fw_c (σ11 33 11))) 3 12 (fw_c (σ11 33 12))) 3 13 (fw_c (σ11 33 13))) 3 14 (fw_c (σ11 33 14))) 3 15 (fw_c (σ11 33 15))) 16 j = fw_c (σ0 46 j)
      rw [rr 16 (by decide), show σ0 46 = σ10 46 from (fw_okM_c N10 (by decide)).symm]; exact s2 j hj
    · show (ab_ups (ab_ups (ab_ups (ab_ups (ab_ups σ11 3 11 (fw_c (σ11 33 11))) 3 12 (fw_c (σ11 33 12))) 3 13 (fw_c (σ11 33 13))) 3 14 (fw_c (σ11 33 14))) 3 15 (fw_c (σ11 33 15))) 14 3 = fw_c (σ0 44 3)
      rw [rr 14 (by decide), show σ0 44 = σ10 44 from (fw_okM_c N10 (by decide)).symm]; exact s3
    · show (ab_ups (ab_ups (ab_ups (ab_ups (ab_ups σ11 3 11 (fw_c (σ11 33 11))) 3 12 (fw_c (σ11 33 12))) 3 13 (fw_c (σ11 33 13))) 3 14 (fw_c (σ11 33 14))) 3 15 (fw_c (σ11 33 15))) 14 4 = fw_c (σ0 44 4)
      rw [rr 14 (by decide), show σ0 44 = σ10 44 from (fw_okM_c N10 (by decide)).symm]; exact s4)
theorem fm_copy (hinj : nn_inj ad) : fw_H l cy ad wr cr D 49 2 sp_copy := fw_H_of (List.forall_mem_cons.mpr ⟨fm_copy_49_3 hinj, (List.forall_mem_cons.mpr ⟨fm_copy_3_18 hinj, (List.forall_mem_cons.mpr ⟨fm_copy_3_33 hinj, (List.forall_mem_cons.mpr ⟨fm_copy_18_3 hinj, (List.forall_mem_cons.mpr ⟨fm_copy_33_3 hinj, (fun _ h => absurd h List.not_mem_nil)⟩)⟩)⟩)⟩)⟩)
end
end
section
/-! a studio told, kept, taken back: both sides -/
def cn_is (σ : ab_SG) (b : Nat) (A : ab_SG) : Prop := σ b 11 = A 49 11 ∧ σ b 12 = A 49 12 ∧ σ b 13 = A 49 13 ∧ σ b 14 = A 49 14 ∧
  (∀ x : Nat, (x : Int) < A 49 11 → σ (b + 3) x = A 52 x ∧ σ (b + 8) x = A 57 x ∧ ∀ i : Nat, (i : Int) < A 52 x → σ (b + 1) (x * 9 + i) = A 50 (x * 9 + i) ∧ σ (b + 2) (x * 9 + i) = A 51 (x * 9 + i)) ∧
  (∀ c : Nat, (c : Int) < A 49 12 → σ (b + 5) c = A 54 c ∧ σ (b + 9) c = A 58 c) ∧ (∀ j : Nat, j < 45 → σ (b + 6) j = A 55 j) ∧ (∀ j : Nat, j < 5 → σ (b + 7) j = A 56 j) ∧ (∀ p : Nat, (p : Int) < A 49 13 → σ (b + 10) p = A 59 p) ∧
  (∀ w x y : Nat, w < 4 → (x : Int) < A 49 11 → (y : Int) < A 49 11 → σ (b + 4) ((w * 9 + x) * 9 + y) = pr_cs A x y w 9 0)
theorem cn_copy {σ σ' A : ab_SG} {a b : Nat} (hi : RI A) (hn : nb_is A) (h : cn_is σ a A) (hc : cy_is σ σ' a b) : cn_is σ' b A := by
  have c : ∀ v : Int, 0 ≤ v → v ≤ 1000 → fw_c v = v := fun v h1 h2 => fw_c_id (by omega) (by omega)
  have i1 := hi.1
  have i2 := hi.2.1
  have i3 := hi.2.2.1
  obtain ⟨r1, r2, r3, r4, r5, r6, r7, r8, r9, r10⟩ := h
  obtain ⟨d1, d2, d3, d4, d5, d6, d7, d8, d9, d10, -, e1, e2, e3, e4, -⟩ := hc
  refine ⟨?_, ?_, ?_, ?_, fun x hx => ⟨?_, ?_, fun i hi2 => ⟨?_, ?_⟩⟩, fun q hq => ⟨?_, ?_⟩, fun j hj => ?_, fun j hj => ?_, fun p hp => ?_, fun w x y hw hx hy => ?_⟩
  · rw [e1, r1]; exact c _ (by omega) (by omega)
  · rw [e2, r2]; exact c _ (by omega) (by omega)
  · rw [e3, r3]; exact c _ (by omega) (by omega)
  · have := hn.2.2.2.2
    rw [e4, r4]; exact c _ (by omega) (by omega)
  · have := hi.2.2.2.2.2.2.1 x (by omega)
    rw [d3 x (by omega), (r5 x hx).1]; exact c _ (by omega) (by omega)
  · rw [d8 x (by omega), (r5 x hx).2.1]; exact hi.2.2.2.1 x (by omega)
  · have hs := hi.2.2.2.2.2.2.1 x (by omega)
    have := (hn.1 x hx).2 i hi2
    rw [d1 _ (by omega), ((r5 x hx).2.2 i hi2).1]; exact c _ (by omega) (by omega)
  · have hs := hi.2.2.2.2.2.2.1 x (by omega)
    have := (hn.1 x hx).2 i hi2
    rw [d2 _ (by omega), ((r5 x hx).2.2 i hi2).2]; exact c _ (by omega) (by omega)
  · have h1 := hn.2.1 q hq
    have h2 := p2_mono (n := 9) (m := A 49 11) (by omega) (by omega) (by omega)
    have h3 : p2_n 9 = 512 := by decide
    rw [d5 q (by omega), (r6 q hq).1]; exact c _ (by omega) (by omega)
  · rw [d9 q (by omega), (r6 q hq).2]; exact hi.2.2.2.2.1 q (by omega)
  · have := hn.2.2.1 j hj
    rw [d6 j hj, r7 j hj]; exact c _ (by omega) (by omega)
  · have := hn.2.2.2.1 j hj
    rw [d7 j hj, r8 j hj]; exact c _ (by omega) (by omega)
  · rw [d10 p (by omega), r9 p hp]; exact hi.2.2.2.2.2.1 p (by omega)
  · have h1 := pr_cs_in (A := A) (x := (x : Int)) (y := (y : Int)) (w := (w : Int)) 9 0
    rw [d4 _ (by omega), r10 w x y hw hx hy]; exact c _ (by omega) (by omega)
theorem pr_cs_cg {A B : ab_SG} (h11 : A 49 11 = B 49 11) (h50 : ∀ j : Nat, A 50 j = B 50 j) (h51 : ∀ j : Nat, A 51 j = B 51 j) (h52 : ∀ j : Nat, A 52 j = B 52 j) {x y w : Int} : ∀ f i : Nat, pr_cs A x y w f i = pr_cs B x y w f i := by
  intro f
  induction f with
  | zero => intro i; rfl
  | succ f ih =>
    intro i
    unfold pr_cs
    have e : pr_sn A x y i w ↔ pr_sn B x y i w := by
      unfold pr_sn
      simp only [h11, h50, h51, h52]
    by_cases q : pr_sn A x y i w
    · rw [if_pos q, if_pos (e.mp q), ih]
    · rw [if_neg q, if_neg (fun z => q (e.mpr z))]
theorem cn_agr {σ A : ab_SG} (h : agr σ A) (hs : ∀ w x y : Nat, w < 4 → (x : Int) < σ 49 11 → (y : Int) < σ 49 11 → σ 53 ((w * 9 + x) * 9 + y) = pr_cs σ x y w 9 0) : cn_is σ 49 A := by
  have e11 := h 49 11 rfl
  refine ⟨e11, h 49 12 rfl, h 49 13 rfl, h 49 14 rfl, fun x _ => ⟨h 52 x rfl, h 57 x rfl, fun i _ => ⟨h 50 _ rfl, h 51 _ rfl⟩⟩, fun c _ => ⟨h 54 c rfl, h 58 c rfl⟩, fun j _ => h 55 j rfl, fun j _ => h 56 j rfl, fun p _ => h 59 p rfl, fun w x y hw hx hy => ?_⟩
  rw [← e11] at hx hy
  exact (hs w x y hw hx hy).trans (pr_cs_cg e11 (fun j => h 50 j rfl) (fun j => h 51 j rfl) (fun j => h 52 j rfl) 9 0)
theorem cn_row {σ σ' A : ab_SG} {b : Nat} (h : cn_is σ b A) (h0 : ∀ j : Nat, j = 11 ∨ j = 12 ∨ j = 13 ∨ j = 14 → σ' b j = σ b j) (hk : ∀ k : Nat, 1 ≤ k → k ≤ 10 → σ' (b + k) = σ (b + k)) : cn_is σ' b A := by
  unfold cn_is
  rw [h0 11 (by omega), h0 12 (by omega), h0 13 (by omega), h0 14 (by omega), hk 1 (by omega) (by omega), hk 2 (by omega) (by omega), hk 3 (by omega) (by omega), hk 4 (by omega) (by omega), hk 5 (by omega) (by omega), hk 6 (by omega) (by omega), hk 7 (by omega) (by omega), hk 8 (by omega) (by omega), hk 9 (by omega) (by omega), hk 10 (by omega) (by omega)]
  exact h
theorem cy_ups {σ σ' : ab_SG} {a b : Nat} {v : Int} (h : cy_is σ σ' a b) : cy_is σ (ab_ups σ' b 16 v) a b := by
  have r : ∀ k : Nat, 1 ≤ k → ab_ups σ' b 16 v (b + k) = σ' (b + k) := fun k hk => ab_ups_row (by omega)
  have s : ∀ j : Nat, j < 16 → ab_ups σ' b 16 v b j = σ' b j := fun j hj => ab_ups_ne (fun z => by omega)
  unfold cy_is sc_is at h ⊢
  rw [r 1 (by omega), r 2 (by omega), r 3 (by omega), r 4 (by omega), r 5 (by omega), r 6 (by omega), r 7 (by omega), r 8 (by omega), r 9 (by omega), r 10 (by omega), r 11 (by omega), r 12 (by omega), r 13 (by omega), s 11 (by omega), s 12 (by omega), s 13 (by omega), s 14 (by omega), s 15 (by omega)]
  exact h
def sf_M : ab_ML := (1, 1) :: rl_M
def ss_M : ab_ML := (0, 17) :: (85, 1) :: (3, 11) :: (3, 12) :: (3, 13) :: (3, 14) :: (3, 15) :: (4, 1000000) :: (5, 1000000) :: (6, 1000000) :: (7, 1000000) :: (8, 1000000) :: (9, 1000000) :: (10, 1000000) :: (11, 1000000) :: (12, 1000000) :: (13, 1000000) :: (15, 1000000) :: (16, 1000000) :: (14, 3) :: (14, 4) :: sf_M
def cs_ok (σ σ' A : ab_SG) : Prop := ab_okM ss_M σ σ' ∧ σ' 1 1 = 0 ∧ σ' 1 9 = 0 ∧ RI A ∧ nb_is A ∧ cn_is σ' 3 A ∧ σ' 0 17 = fw_c (σ 0 17 + 1) ∧ σ' 3 15 = fw_c (σ 0 17 + 1) ∧ σ' 85 1 = 0 ∧ σ' 14 3 = 0 ∧ σ' 14 4 = 0
def sp_studio : fw_SP := fun as σ K => as = [(2, 0, 0)] ∧ (0 ≤ σ 1 1 ∧ σ 1 1 ≤ 940) ∧ rl_ok σ ∧ ∀ A : ab_SG, rl_is A → rl_ok A →
  ((pr_read A (tp_t σ) (σ 1 1).toNat).1.1 ≠ 0 → ∀ (v : Int) (σ' : ab_SG), ab_okM sf_M σ σ' → σ' 1 1 = 0 → σ' 1 9 = (pr_read A (tp_t σ) (σ 1 1).toNat).1.1 → K (some (0, 0, v)) σ') ∧
  ((pr_read A (tp_t σ) (σ 1 1).toNat).1.1 = 0 → ∀ σ' : ab_SG, cs_ok σ σ' (pr_read A (tp_t σ) (σ 1 1).toNat).1.2.1 → K (some (0, 0, (pr_read A (tp_t σ) (σ 1 1).toNat).2)) σ')
def sp_imageAt : fw_SP := fun as σ K => ∃ k : Int, as = [(2, 0, 0), (0, 0, k)] ∧ fw_c k = k ∧ (k = 0 → K (some (2, 18, 0)) σ) ∧ (k = 1 → K (some (2, 33, 0)) σ) ∧ (k ≠ 0 → k ≠ 1 → K (some (3, 0, 0)) σ)
def im_M (b : Nat) : ab_ML := (b, 16) :: cy_M b
def sp_image : fw_SP := fun as σ K => ∃ k : Int, as = [(2, 0, 0), (0, 0, k)] ∧ fw_c k = k ∧ (k ≠ 0 → k ≠ 1 → K (some (0, 0, 0)) σ) ∧ (k = 0 → ∀ σ' : ab_SG, ab_okM (im_M 18) σ σ' → cy_is σ σ' 3 18 → σ' 18 16 = 1 → K (some (0, 0, 1)) σ') ∧ (k = 1 → ∀ σ' : ab_SG, ab_okM (im_M 33) σ σ' → cy_is σ σ' 3 33 → σ' 33 16 = 1 → K (some (0, 0, 1)) σ')
def re_M : ab_ML := (85, 1) :: cy_M 3
def sp_restore : fw_SP := fun as σ K => ∃ k : Int, as = [(2, 0, 0), (0, 0, k)] ∧ fw_c k = k ∧ (σ 18 16 = 0 ∨ σ 18 16 = 1) ∧ (σ 33 16 = 0 ∨ σ 33 16 = 1) ∧ (k ≠ 0 → k ≠ 1 → K (some (0, 0, 0)) σ) ∧ (k = 0 → σ 18 16 = 0 → K (some (0, 0, 0)) σ) ∧ (k = 1 → σ 33 16 = 0 → K (some (0, 0, 0)) σ) ∧
  (k = 0 → σ 18 16 = 1 → ∀ σ' : ab_SG, ab_okM re_M σ σ' → cy_is σ σ' 18 3 → σ' 85 1 = 0 → K (some (0, 0, 1)) σ') ∧ (k = 1 → σ 33 16 = 1 → ∀ σ' : ab_SG, ab_okM re_M σ σ' → cy_is σ σ' 33 3 → σ' 85 1 = 0 → K (some (0, 0, 1)) σ')
def kp_is (σ σ' : ab_SG) (q : Nat) : Prop := ab_okM [(97, 1000000), (101, 1000000), (102, 1000000)] σ σ' ∧ (∀ j : Nat, j < 474 → σ' 97 (474 * q + j) = fw_c (σ 95 j)) ∧ (∀ j : Nat, j < 20 → σ' 101 (20 * q + j) = fw_d (σ 99 j)) ∧
  (∀ j : Nat, (j < 474 * q ∨ 474 * q + 474 ≤ j) → σ' 97 j = σ 97 j) ∧ (∀ j : Nat, (j < 20 * q ∨ 20 * q + 20 ≤ j) → σ' 101 j = σ 101 j) ∧ σ' 102 q = 1 ∧ ∀ r : Nat, r ≠ q → σ' 102 r = σ 102 r
def lm_M : ab_ML := [(93, 0), (93, 22), (95, 3)]
def sp_m_image : fw_SP := fun as σ K => ∃ k : Int, as = [(2, 93, 0), (0, 0, k)] ∧ fw_c k = k ∧ ly_ok σ ∧ (k ≠ 0 → k ≠ 1 → ∀ σ' : ab_SG, ab_okM lm_M σ σ' → ly_is σ σ' → K (some (0, 0, 0)) σ') ∧ (∀ q : Nat, q < 2 → k = (q : Int) → ∀ σ1 σ' : ab_SG, ab_okM lm_M σ σ1 → ly_is σ σ1 → kp_is σ1 σ' q → K (some (0, 0, 1)) σ')
def tb_is (σ σ' : ab_SG) (q : Nat) : Prop := ab_okM [(93, 0), (93, 24), (95, 1000000), (99, 1000000)] σ σ' ∧ (∀ j : Nat, j < 474 → σ' 95 j = fw_c (σ 97 (474 * q + j))) ∧ (∀ j : Nat, j < 20 → σ' 99 j = fw_d (σ 101 (20 * q + j))) ∧ σ' 93 24 = 0
def sp_m_restore : fw_SP := fun as σ K => ∃ k : Int, as = [(2, 93, 0), (0, 0, k)] ∧ fw_c k = k ∧ (∀ r : Nat, r < 2 → σ 102 r = 0 ∨ σ 102 r = 1) ∧ (k ≠ 0 → k ≠ 1 → K (some (0, 0, 0)) (ab_ups σ 93 0 0)) ∧ (∀ q : Nat, q < 2 → k = (q : Int) → σ 102 q = 0 → K (some (0, 0, 0)) (ab_ups σ 93 0 0)) ∧ (∀ q : Nat, q < 2 → k = (q : Int) → σ 102 q = 1 → ∀ σ' : ab_SG, tb_is σ σ' q → K (some (0, 0, 1)) σ')
abbrev fk_studio : List fw_CR := [(119, 0, true, 7, 7, sp_read), (128, 1, true, 6, 2, sp_copy)]
abbrev st_studio : fw_K → fw_KR → fw_K := fw_st vwCl nn_sh nn_kd fw_kv fw_wc (nn_KI1.map (fun x => x.1)) (nn_KJ1.map (fun x => x.1)) (nn_PF1.map (fun x => x.1)) (nn_PS1.map (fun x => x.1)) fk_studio 8 nn_dt4 2 0
theorem fs_studio_0 {G : fw_K} {R : fw_KR} (hG : fw_cls st_studio R G) {σ : ab_SG} (h : sp_read [(2, 48, 0)] σ (fun rv σ2 => G 7 [some (2, 0, 0), none] (rv.toList ++ []) σ2)) : G 0 [some (2, 0, 0), none] [] σ := fw_on hG [7, 54] 200 h
theorem fs_studio_7 {G : fw_K} {R : fw_KR} (hG : fw_cls st_studio R G) {b0 : Int} {σ : ab_SG} (h : (fw_c b0 ≠ 0 → sp_copy [(2, 3, 0), (2, 49, 0)] (ab_ups (ab_ups σ 1 1 (fw_c 0)) 0 17 (fw_c ((σ 0 17) + 1))) (fun rv σ2 => G 54 [some (2, 0, 0), some (0, 0, b0)] (rv.toList ++ []) σ2)) ∧ (fw_c b0 = 0 → R (some (0, 0, (-1) - (σ 1 10))) (ab_ups σ 1 1 (fw_c 0)))) : G 7 [some (2, 0, 0), none] [(0, 0, b0)] σ := fw_on hG [7, 54] 200 h
theorem fs_studio_54 {G : fw_K} {R : fw_KR} (hG : fw_cls st_studio R G) {a1 : Int} {σ : ab_SG} (h : R (some (0, 0, σ 48 5)) (ab_ups (ab_ups σ 3 15 (fw_c (σ 0 17))) 85 1 (fw_c 0))) : G 54 [some (2, 0, 0), some (0, 0, a1)] [] σ := fw_on hG [7, 54] 200 h
abbrev fk_imageAt : List fw_CR := []
abbrev st_imageAt : fw_K → fw_KR → fw_K := fw_st vwCl nn_sh nn_kd fw_kv fw_wc (nn_KI1.map (fun x => x.1)) (nn_KJ1.map (fun x => x.1)) (nn_PF1.map (fun x => x.1)) (nn_PS1.map (fun x => x.1)) fk_imageAt 0 nn_dt185 2 3
theorem fs_imageAt_0 {G : fw_K} {R : fw_KR} (hG : fw_cls st_imageAt R G) {k : Int} {σ : ab_SG} (h : (fw_c k ≠ 0 → (fw_c k ≠ fw_c 1 → R (some (3, 0, 0)) σ) ∧ (fw_c k = fw_c 1 → R (some (2, 33, 0)) σ)) ∧ (fw_c k = 0 → R (some (2, 18, 0)) σ)) : G 0 [some (2, 0, 0), some (0, 0, k)] [] σ := fw_on hG [] 200 h
abbrev fk_image : List fw_CR := [(128, 1, true, 6, 2, sp_copy), (449, 1, true, 10, 0, sp_imageAt)]
abbrev st_image : fw_K → fw_KR → fw_K := fw_st vwCl nn_sh nn_kd fw_kv fw_wc (nn_KI1.map (fun x => x.1)) (nn_KJ1.map (fun x => x.1)) (nn_PF1.map (fun x => x.1)) (nn_PS1.map (fun x => x.1)) fk_image 3 nn_dt184 3 1
theorem fs_image_0 {G : fw_K} {R : fw_KR} (hG : fw_cls st_image R G) {k : Int} {σ : ab_SG} (h : sp_imageAt [(2, 0, 0), (0, 0, k)] σ (fun rv σ2 => G 5 [some (2, 0, 0), some (0, 0, k), none] (rv.toList ++ []) σ2)) : G 0 [some (2, 0, 0), some (0, 0, k), none] [] σ := fw_on hG [5, 20] 200 h
theorem fs_image_5 {G : fw_K} {R : fw_KR} (hG : fw_cls st_image R G) {a1 : Int} {σ : ab_SG} (h : sp_copy [(2, 18, 0), (2, 3, 0)] σ (fun rv σ2 => G 20 [some (2, 0, 0), some (0, 0, a1), some (2, 18, 0)] (rv.toList ++ []) σ2)) : G 5 [some (2, 0, 0), some (0, 0, a1), none] [(2, 18, 0)] σ := fw_on hG [5, 20] 200 h
theorem fs_image_5a {G : fw_K} {R : fw_KR} (hG : fw_cls st_image R G) {a1 : Int} {σ : ab_SG} (h : sp_copy [(2, 33, 0), (2, 3, 0)] σ (fun rv σ2 => G 20 [some (2, 0, 0), some (0, 0, a1), some (2, 33, 0)] (rv.toList ++ []) σ2)) : G 5 [some (2, 0, 0), some (0, 0, a1), none] [(2, 33, 0)] σ := fw_on hG [5, 20] 200 h
theorem fs_image_5b {G : fw_K} {R : fw_KR} (hG : fw_cls st_image R G) {a1 : Int} {σ : ab_SG} (h : (0 ≤ fw_c 0 ∧ fw_c 0 ≤ 1) ∧ R (some (0, 0, 0)) σ) : G 5 [some (2, 0, 0), some (0, 0, a1), none] [(3, 0, 0)] σ := fw_on hG [5, 20] 200 h
theorem fs_image_20 {G : fw_K} {R : fw_KR} (hG : fw_cls st_image R G) {a1 : Int} {σ : ab_SG} (h : (0 ≤ fw_c 1 ∧ fw_c 1 ≤ 1) ∧ ((0 ≤ fw_c 1 ∧ fw_c 1 ≤ 1) ∧ R (some (0, 0, 1)) (ab_ups σ 18 16 (fw_c 1)))) : G 20 [some (2, 0, 0), some (0, 0, a1), some (2, 18, 0)] [] σ := fw_on hG [5, 20] 200 h
theorem fs_image_20a {G : fw_K} {R : fw_KR} (hG : fw_cls st_image R G) {a1 : Int} {σ : ab_SG} (h : (0 ≤ fw_c 1 ∧ fw_c 1 ≤ 1) ∧ ((0 ≤ fw_c 1 ∧ fw_c 1 ≤ 1) ∧ R (some (0, 0, 1)) (ab_ups σ 33 16 (fw_c 1)))) : G 20 [some (2, 0, 0), some (0, 0, a1), some (2, 33, 0)] [] σ := fw_on hG [5, 20] 200 h
abbrev fk_restore : List fw_CR := [(128, 1, true, 6, 2, sp_copy), (449, 1, true, 10, 0, sp_imageAt)]
abbrev st_restore : fw_K → fw_KR → fw_K := fw_st vwCl nn_sh nn_kd fw_kv fw_wc (nn_KI1.map (fun x => x.1)) (nn_KJ1.map (fun x => x.1)) (nn_PF1.map (fun x => x.1)) (nn_PS1.map (fun x => x.1)) fk_restore 3 nn_dt186 3 1
theorem fs_restore_0 {G : fw_K} {R : fw_KR} (hG : fw_cls st_restore R G) {k : Int} {σ : ab_SG} (h : sp_imageAt [(2, 0, 0), (0, 0, k)] σ (fun rv σ2 => G 5 [some (2, 0, 0), some (0, 0, k), none] (rv.toList ++ []) σ2)) : G 0 [some (2, 0, 0), some (0, 0, k), none] [] σ := fw_on hG [5, 27] 200 h
theorem fs_restore_5 {G : fw_K} {R : fw_KR} (hG : fw_cls st_restore R G) {a1 : Int} {σ : ab_SG} (h : (fw_c (σ 18 16) ≠ 0 → sp_copy [(2, 3, 0), (2, 18, 0)] σ (fun rv σ2 => G 27 [some (2, 0, 0), some (0, 0, a1), some (2, 18, 0)] (rv.toList ++ []) σ2)) ∧ (fw_c (σ 18 16) = 0 → (0 ≤ fw_c 0 ∧ fw_c 0 ≤ 1) ∧ R (some (0, 0, 0)) σ)) : G 5 [some (2, 0, 0), some (0, 0, a1), none] [(2, 18, 0)] σ := fw_on hG [5, 27] 200 h
theorem fs_restore_5a {G : fw_K} {R : fw_KR} (hG : fw_cls st_restore R G) {a1 : Int} {σ : ab_SG} (h : (fw_c (σ 33 16) ≠ 0 → sp_copy [(2, 3, 0), (2, 33, 0)] σ (fun rv σ2 => G 27 [some (2, 0, 0), some (0, 0, a1), some (2, 33, 0)] (rv.toList ++ []) σ2)) ∧ (fw_c (σ 33 16) = 0 → (0 ≤ fw_c 0 ∧ fw_c 0 ≤ 1) ∧ R (some (0, 0, 0)) σ)) : G 5 [some (2, 0, 0), some (0, 0, a1), none] [(2, 33, 0)] σ := fw_on hG [5, 27] 200 h
theorem fs_restore_5b {G : fw_K} {R : fw_KR} (hG : fw_cls st_restore R G) {a1 : Int} {σ : ab_SG} (h : (0 ≤ fw_c 0 ∧ fw_c 0 ≤ 1) ∧ R (some (0, 0, 0)) σ) : G 5 [some (2, 0, 0), some (0, 0, a1), none] [(3, 0, 0)] σ := fw_on hG [5, 27] 200 h
theorem fs_restore_27 {G : fw_K} {R : fw_KR} (hG : fw_cls st_restore R G) {a1 : Int} {σ : ab_SG} (h : (0 ≤ fw_c 1 ∧ fw_c 1 ≤ 1) ∧ R (some (0, 0, 1)) (ab_ups σ 85 1 (fw_c 0))) : G 27 [some (2, 0, 0), some (0, 0, a1), some (2, 18, 0)] [] σ := fw_on hG [5, 27] 200 h
theorem fs_restore_27a {G : fw_K} {R : fw_KR} (hG : fw_cls st_restore R G) {a1 : Int} {σ : ab_SG} (h : (0 ≤ fw_c 1 ∧ fw_c 1 ≤ 1) ∧ R (some (0, 0, 1)) (ab_ups σ 85 1 (fw_c 0))) : G 27 [some (2, 0, 0), some (0, 0, a1), some (2, 33, 0)] [] σ := fw_on hG [5, 27] 200 h
abbrev fk_m_image : List fw_CR := [(171, 3, false, 0, 0, sp_m_isIn), (188, 0, true, 11, 0, sp_m_lay)]
abbrev st_m_image : fw_K → fw_KR → fw_K := fw_st vwCl nn_sh nn_kd fw_kv fw_wc (nn_KI20.map (fun x => x.1)) (nn_KJ20.map (fun x => x.1)) (nn_PF20.map (fun x => x.1)) (nn_PS20.map (fun x => x.1)) fk_m_image 1 nn_dt352 3 1
theorem fs_m_image_0 {G : fw_K} {R : fw_KR} (hG : fw_cls st_m_image R G) {k : Int} {σ : ab_SG} (h : sp_m_lay [(2, 93, 0)] (ab_ups σ 93 0 (fw_c 0)) (fun rv σ2 => G 9 [some (2, 93, 0), some (0, 0, k), none] (rv.toList ++ []) σ2)) : G 0 [some (2, 93, 0), some (0, 0, k), none] [] σ := fw_on hG [9, 15, 22, 55] 200 h
theorem fs_m_image_9 {G : fw_K} {R : fw_KR} (hG : fw_cls st_m_image R G) {a1 : Int} {σ : ab_SG} (h : sp_m_isIn [(0, 0, a1), (0, 0, 0), (0, 0, 1)] σ (fun rv σ2 => G 15 [some (2, 93, 0), some (0, 0, a1), none] (rv.toList ++ []) σ2)) : G 9 [some (2, 93, 0), some (0, 0, a1), none] [] σ := fw_on hG [9, 15, 22, 55] 200 h
theorem fs_m_image_15 {G : fw_K} {R : fw_KR} (hG : fw_cls st_m_image R G) {a1 b0 : Int} {σ : ab_SG} (h : (fw_c b0 ≠ 0 → G 22 [some (2, 93, 0), some (0, 0, a1), some (0, 0, 0)] [] σ) ∧ (fw_c b0 = 0 → (0 ≤ fw_c 0 ∧ fw_c 0 ≤ 1) ∧ R (some (0, 0, 0)) σ)) : G 15 [some (2, 93, 0), some (0, 0, a1), none] [(0, 0, b0)] σ := fw_on hG [9, 15, 22, 55] 200 h
theorem fs_m_image_22 {G : fw_K} {R : fw_KR} (hG : fw_cls st_m_image R G) {a1 a2 : Int} {σ : ab_SG} (h : (fw_c 474 ≤ fw_c a2 → G 55 [some (2, 93, 0), some (0, 0, a1), some (0, 0, 0)] [] σ) ∧ (fw_c a2 < fw_c 474 → (0 ≤ fw_c a2 ∧ fw_c a2 < ((474 : Nat) : Int)) ∧ ((0 ≤ fw_c ((474 * a1) + a2) ∧ fw_c ((474 * a1) + a2) < ((948 : Nat) : Int)) ∧ True ∧ (G 22 [some (2, 93, 0), some (0, 0, a1), some (0, 0, a2 + 1)] [] (ab_ups σ 97 (fw_c ((474 * a1) + a2)).toNat (fw_c (σ 95 (fw_c a2).toNat))))))) : G 22 [some (2, 93, 0), some (0, 0, a1), some (0, 0, a2)] [] σ := fw_on hG [9, 15, 22, 55] 200 h
theorem fs_m_image_55 {G : fw_K} {R : fw_KR} (hG : fw_cls st_m_image R G) {a1 a2 : Int} {σ : ab_SG} (h : (fw_c 20 ≤ fw_c a2 → (0 ≤ fw_c a1 ∧ fw_c a1 < ((2 : Nat) : Int)) ∧ (0 ≤ fw_c 1 ∧ fw_c 1 ≤ 1) ∧ ((0 ≤ fw_c 1 ∧ fw_c 1 ≤ 1) ∧ R (some (0, 0, 1)) (ab_ups σ 102 (fw_c a1).toNat (fw_c 1)))) ∧ (fw_c a2 < fw_c 20 → (0 ≤ fw_c a2 ∧ fw_c a2 < ((20 : Nat) : Int)) ∧ ((0 ≤ fw_c ((20 * a1) + a2) ∧ fw_c ((20 * a1) + a2) < ((40 : Nat) : Int)) ∧ True ∧ (G 55 [some (2, 93, 0), some (0, 0, a1), some (0, 0, a2 + 1)] [] (ab_ups σ 101 (fw_c ((20 * a1) + a2)).toNat (fw_d (σ 99 (fw_c a2).toNat))))))) : G 55 [some (2, 93, 0), some (0, 0, a1), some (0, 0, a2)] [] σ := fw_on hG [9, 15, 22, 55] 200 h
abbrev fk_m_restore : List fw_CR := [(171, 3, false, 0, 0, sp_m_isIn)]
abbrev st_m_restore : fw_K → fw_KR → fw_K := fw_st vwCl nn_sh nn_kd fw_kv fw_wc (nn_KI20.map (fun x => x.1)) (nn_KJ20.map (fun x => x.1)) (nn_PF20.map (fun x => x.1)) (nn_PS20.map (fun x => x.1)) fk_m_restore 1 nn_dt353 3 1
theorem fs_m_restore_0 {G : fw_K} {R : fw_KR} (hG : fw_cls st_m_restore R G) {k : Int} {σ : ab_SG} (h : sp_m_isIn [(0, 0, k), (0, 0, 0), (0, 0, 1)] (ab_ups σ 93 0 (fw_c 0)) (fun rv σ2 => G 11 [some (2, 93, 0), some (0, 0, k), none] (rv.toList ++ []) σ2)) : G 0 [some (2, 93, 0), some (0, 0, k), none] [] σ := fw_on hG [11, 27, 60] 200 h
theorem fs_m_restore_11 {G : fw_K} {R : fw_KR} (hG : fw_cls st_m_restore R G) {a1 b0 : Int} {σ : ab_SG} (h : (fw_c b0 = 0 → (0 ≤ fw_c 0 ∧ fw_c 0 ≤ 1) ∧ R (some (0, 0, 0)) σ) ∧ (fw_c b0 ≠ 0 → (0 ≤ fw_c a1 ∧ fw_c a1 < ((2 : Nat) : Int)) ∧ ((fw_c (σ 102 (fw_c a1).toNat) ≠ 0 → G 27 [some (2, 93, 0), some (0, 0, a1), some (0, 0, 0)] [] σ) ∧ (fw_c (σ 102 (fw_c a1).toNat) = 0 → (0 ≤ fw_c 0 ∧ fw_c 0 ≤ 1) ∧ R (some (0, 0, 0)) σ)))) : G 11 [some (2, 93, 0), some (0, 0, a1), none] [(0, 0, b0)] σ := fw_on hG [11, 27, 60] 200 h
theorem fs_m_restore_27 {G : fw_K} {R : fw_KR} (hG : fw_cls st_m_restore R G) {a1 a2 : Int} {σ : ab_SG} (h : (fw_c 474 ≤ fw_c a2 → G 60 [some (2, 93, 0), some (0, 0, a1), some (0, 0, 0)] [] σ) ∧ (fw_c a2 < fw_c 474 → (0 ≤ fw_c ((474 * a1) + a2) ∧ fw_c ((474 * a1) + a2) < ((948 : Nat) : Int)) ∧ ((0 ≤ fw_c a2 ∧ fw_c a2 < ((474 : Nat) : Int)) ∧ True ∧ (G 27 [some (2, 93, 0), some (0, 0, a1), some (0, 0, a2 + 1)] [] (ab_ups σ 95 (fw_c a2).toNat (fw_c (σ 97 (fw_c ((474 * a1) + a2)).toNat))))))) : G 27 [some (2, 93, 0), some (0, 0, a1), some (0, 0, a2)] [] σ := fw_on hG [11, 27, 60] 200 h
theorem fs_m_restore_60 {G : fw_K} {R : fw_KR} (hG : fw_cls st_m_restore R G) {a1 a2 : Int} {σ : ab_SG} (h : (fw_c 20 ≤ fw_c a2 → (0 ≤ fw_c 1 ∧ fw_c 1 ≤ 1) ∧ R (some (0, 0, 1)) (ab_ups σ 93 24 (fw_c 0))) ∧ (fw_c a2 < fw_c 20 → (0 ≤ fw_c ((20 * a1) + a2) ∧ fw_c ((20 * a1) + a2) < ((40 : Nat) : Int)) ∧ ((0 ≤ fw_c a2 ∧ fw_c a2 < ((20 : Nat) : Int)) ∧ True ∧ (G 60 [some (2, 93, 0), some (0, 0, a1), some (0, 0, a2 + 1)] [] (ab_ups σ 99 (fw_c a2).toNat (fw_d (σ 101 (fw_c ((20 * a1) + a2)).toNat))))))) : G 60 [some (2, 93, 0), some (0, 0, a1), some (0, 0, a2)] [] σ := fw_on hG [11, 27, 60] 200 h
section
variable {l : Launch} {cy : Nat → ClassId} {ad wr cr : Nat → Nat} {D : va_G}
theorem fm_studio (hinj : nn_inj ad) : fw_H l cy ad wr cr D 4 8 sp_studio := fw_mk hinj (⟨"NameNotes", "studio", "()I"⟩, prog_1_method_4_code, 2, (Option.some Jvm.ClassFile.FieldType.int), 0, true, 0) rfl rfl nn_KI1_ok nn_KJ1_ok nn_PF1_ok nn_PS1_ok (by decide +kernel) rfl rfl (List.forall_mem_cons.mpr ⟨fw_row nn_PM1_ok (x := 119) (k := 0) (mn := 5) (np := 0) (ob := true) (ci := 7) (⟨"NameNotes$StudioReader", "read", "()Z"⟩, prog_9_method_2_code, 2, (Option.some Jvm.ClassFile.FieldType.boolean), 0, true, 1) rfl (by decide +kernel) rfl rfl (by decide) (fun _ => ⟨_, _, rfl⟩) (fm_read hinj), (List.forall_mem_cons.mpr ⟨fw_row nn_PM1_ok (x := 128) (k := 0) (mn := 49) (np := 1) (ob := true) (ci := 6) (⟨"NameNotes$Studio", "copy", "(LNameNotes$Studio;)V"⟩, prog_8_method_3_code, 2, (Option.none : Option Jvm.ClassFile.FieldType), 1, true, 4) rfl (by decide +kernel) rfl rfl (by decide) (fun _ => ⟨_, _, rfl⟩) (fm_copy hinj), (fun _ h => absurd h List.not_mem_nil)⟩)⟩) (fun as σ K h => by
  obtain ⟨rfl, hb, hr, h⟩ := h
  refine ⟨rfl, fun G hG => fs_studio_0 hG ⟨rfl, hb, hr, fun A σ1 hA1 hA2 M1 hE => ?_⟩⟩
  have h := h A hA1 hA2
  refine ⟨fun q h9 => fs_studio_7 hG ⟨fun z => absurd fw_c0 z, fun _ => h.1 q _ _ (fw_okM_ups (fw_okM_tr (fw_okM_refl _ _) M1 (by decide)) (by decide)) (ab_ups_eq.trans fw_c0) ((ab_ups_ne (by decide)).trans h9)⟩, fun q h9 hag h5 h3 h4 hs hI hn => fs_studio_7 hG ⟨fun _ => ⟨(49, 3), by decide, rfl, fun σ2 M2 C2 => fs_studio_54 hG ?_⟩, fun z => absurd (fw_c1.symm.trans z) (by decide)⟩⟩
  have h := h.2 q
  have M2 : ab_okM (cy_M 3) (ab_ups (ab_ups σ1 1 1 (fw_c 0)) 0 17 (fw_c (σ1 0 17 + 1))) σ2 := M2
  have C2 : cy_is (ab_ups (ab_ups σ1 1 1 (fw_c 0)) 0 17 (fw_c (σ1 0 17 + 1))) σ2 49 3 := C2
  have T : ∀ k : Nat, k ≠ 0 → k ≠ 1 → ab_ups (ab_ups σ1 1 1 (fw_c 0)) 0 17 (fw_c (σ1 0 17 + 1)) k = σ1 k := fun k q0 q1 => by rw [ab_ups_row q0, ab_ups_row q1]
  have b17 : σ1 0 17 = σ 0 17 := M1 0 17 (by decide)
  have e5 : σ2 48 5 = (pr_read A (tp_t σ) (σ 1 1).toNat).2 := by rw [show σ2 48 = _ from fw_okM_c M2 (by decide), T 48 (by decide) (by decide)]; exact h5
  have e17 : σ2 0 17 = fw_c (σ 0 17 + 1) := by rw [show σ2 0 = _ from fw_okM_c M2 (by decide), ab_ups_eq, b17]
  have e11 : σ2 1 1 = 0 := by rw [show σ2 1 = _ from fw_okM_c M2 (by decide), ab_ups_ne (by decide), ab_ups_eq, fw_c0]
  have e19 : σ2 1 9 = 0 := by rw [show σ2 1 = _ from fw_okM_c M2 (by decide), ab_ups_ne (by decide), ab_ups_ne (by decide), h9]
  have N2 : ab_okM ss_M σ σ2 := fw_okM_tr (fw_okM_ups (fw_okM_ups (fw_okM_tr (fw_okM_refl _ _) M1 (by decide)) (by decide)) (by decide)) M2 (by decide)
  have cn1 : cn_is σ1 49 (pr_read A (tp_t σ) (σ 1 1).toNat).1.2.1 := cn_agr hag hs
  have cn2 : cn_is (ab_ups (ab_ups σ1 1 1 (fw_c 0)) 0 17 (fw_c (σ1 0 17 + 1))) 49 (pr_read A (tp_t σ) (σ 1 1).toNat).1.2.1 := cn_row cn1 (fun j _ => by rw [T 49 (by decide) (by decide)]) (fun k k1 k2 => T _ (by omega) (by omega))
  have cn3 := cn_copy hI hn cn2 C2
  have g3 : σ2 14 3 = 0 := by rw [show σ2 14 3 = fw_c (ab_ups (ab_ups σ1 1 1 (fw_c 0)) 0 17 (fw_c (σ1 0 17 + 1)) 60 3) from C2.2.2.2.2.2.2.2.2.2.2.1.2.2.1, T 60 (by decide) (by decide), h3, fw_c0]
  have g4 : σ2 14 4 = 0 := by rw [show σ2 14 4 = fw_c (ab_ups (ab_ups σ1 1 1 (fw_c 0)) 0 17 (fw_c (σ1 0 17 + 1)) 60 4) from C2.2.2.2.2.2.2.2.2.2.2.1.2.2.2, T 60 (by decide) (by decide), h4, fw_c0]
  rw [e5, e17, fw_c_c, fw_c0]
  refine h _ ⟨fw_okM_ups (fw_okM_ups N2 (by decide)) (by decide), ?_, ?_, hI, hn, ?_, ?_, ?_, ab_ups_eq, ?_, ?_⟩
  · rw [ab_ups_ne (by decide), ab_ups_ne (by decide)]; exact e11
  · rw [ab_ups_ne (by decide), ab_ups_ne (by decide)]; exact e19
  · refine cn_row cn3 (fun j hj => ?_) (fun k k1 k2 => ?_)
    · rw [ab_ups_ne (fun z => absurd z.1 (by decide)), ab_ups_ne (fun z => by omega)]
    · rw [ab_ups_row (by omega), ab_ups_row (by omega)]
  · rw [ab_ups_ne (by decide), ab_ups_ne (by decide)]; exact e17
  · rw [ab_ups_ne (by decide), ab_ups_eq]
  · rw [ab_ups_ne (by decide), ab_ups_ne (by decide)]; exact g3
  · rw [ab_ups_ne (by decide), ab_ups_ne (by decide)]; exact g4)
theorem fm_imageAt (hinj : nn_inj ad) : fw_H l cy ad wr cr D 185 0 sp_imageAt := fw_mk hinj (⟨"NameNotes", "imageAt", "(I)LNameNotes$Studio;"⟩, prog_1_method_60_code, 2, (Option.some (Jvm.ClassFile.FieldType.object "NameNotes$Studio")), 1, true, 3) rfl rfl nn_KI1_ok nn_KJ1_ok nn_PF1_ok nn_PS1_ok (by decide +kernel) rfl rfl (fun _ h => absurd h List.not_mem_nil) (fun as σ K h => by
  obtain ⟨k, rfl, hk, h0, h1, h2⟩ := h
  refine ⟨rfl, fun G hG => fs_imageAt_0 hG ?_⟩
  rw [hk, fw_c1]
  exact ⟨fun q => ⟨fun q1 => h2 q q1, fun q1 => h1 q1⟩, fun q => h0 q⟩)
theorem fm_image (hinj : nn_inj ad) : fw_H l cy ad wr cr D 184 3 sp_image := fw_mk hinj (⟨"NameNotes", "image", "(I)Z"⟩, prog_1_method_57_code, 3, (Option.some Jvm.ClassFile.FieldType.boolean), 1, true, 1) rfl rfl nn_KI1_ok nn_KJ1_ok nn_PF1_ok nn_PS1_ok (by decide +kernel) rfl rfl (List.forall_mem_cons.mpr ⟨fw_row nn_PM1_ok (x := 128) (k := 0) (mn := 49) (np := 1) (ob := true) (ci := 6) (⟨"NameNotes$Studio", "copy", "(LNameNotes$Studio;)V"⟩, prog_8_method_3_code, 2, (Option.none : Option Jvm.ClassFile.FieldType), 1, true, 4) rfl (by decide +kernel) rfl rfl (by decide) (fun _ => ⟨_, _, rfl⟩) (fm_copy hinj), (List.forall_mem_cons.mpr ⟨fw_row nn_PM1_ok (x := 449) (k := 0) (mn := 185) (np := 1) (ob := true) (ci := 10) (⟨"NameNotes", "imageAt", "(I)LNameNotes$Studio;"⟩, prog_1_method_60_code, 2, (Option.some (Jvm.ClassFile.FieldType.object "NameNotes$Studio")), 1, true, 3) rfl (by decide +kernel) rfl rfl (by decide) (fun _ => ⟨_, _, rfl⟩) (fm_imageAt hinj), (fun _ h => absurd h List.not_mem_nil)⟩)⟩) (fun as σ K h => by
  obtain ⟨k, rfl, hk, h2, h0, h1⟩ := h
  refine ⟨rfl, fun G hG => fs_image_0 hG ⟨k, rfl, hk, fun q => fs_image_5 hG ⟨(3, 18), by decide, rfl, fun σ2 M2 C2 => fs_image_20 hG ⟨fw_11, fw_11, ?_⟩⟩, fun q => fs_image_5a hG ⟨(3, 33), by decide, rfl, fun σ2 M2 C2 => fs_image_20a hG ⟨fw_11, fw_11, ?_⟩⟩, fun q q2 => fs_image_5b hG ⟨fw_01, h2 q q2⟩⟩⟩
  · have M2 : ab_okM (cy_M 18) σ σ2 := M2
    have C2 : cy_is σ σ2 3 18 := C2
    rw [fw_c1]
    exact h0 q _ (fw_okM_ups (fw_okM_tr (fw_okM_refl _ _) M2 (by decide)) (by decide)) (cy_ups C2) ab_ups_eq
  · have M2 : ab_okM (cy_M 33) σ σ2 := M2
    have C2 : cy_is σ σ2 3 33 := C2
    rw [fw_c1]
    exact h1 q _ (fw_okM_ups (fw_okM_tr (fw_okM_refl _ _) M2 (by decide)) (by decide)) (cy_ups C2) ab_ups_eq)
theorem cy_85 {σ σ' : ab_SG} {a : Nat} {v : Int} (h : cy_is σ σ' a 3) : cy_is σ (ab_ups σ' 85 1 v) a 3 := by
  have r : ∀ k : Nat, k ≤ 13 → ab_ups σ' 85 1 v (3 + k) = σ' (3 + k) := fun k hk => ab_ups_row (by omega)
  have s : ab_ups σ' 85 1 v 3 = σ' 3 := ab_ups_row (by decide)
  unfold cy_is sc_is at h ⊢
  rw [r 1 (by omega), r 2 (by omega), r 3 (by omega), r 4 (by omega), r 5 (by omega), r 6 (by omega), r 7 (by omega), r 8 (by omega), r 9 (by omega), r 10 (by omega), r 11 (by omega), r 12 (by omega), r 13 (by omega), s]
  exact h
theorem fm_restore (hinj : nn_inj ad) : fw_H l cy ad wr cr D 186 3 sp_restore := fw_mk hinj (⟨"NameNotes", "restore", "(I)Z"⟩, prog_1_method_58_code, 3, (Option.some Jvm.ClassFile.FieldType.boolean), 1, true, 1) rfl rfl nn_KI1_ok nn_KJ1_ok nn_PF1_ok nn_PS1_ok (by decide +kernel) rfl rfl (List.forall_mem_cons.mpr ⟨fw_row nn_PM1_ok (x := 128) (k := 0) (mn := 49) (np := 1) (ob := true) (ci := 6) (⟨"NameNotes$Studio", "copy", "(LNameNotes$Studio;)V"⟩, prog_8_method_3_code, 2, (Option.none : Option Jvm.ClassFile.FieldType), 1, true, 4) rfl (by decide +kernel) rfl rfl (by decide) (fun _ => ⟨_, _, rfl⟩) (fm_copy hinj), (List.forall_mem_cons.mpr ⟨fw_row nn_PM1_ok (x := 449) (k := 0) (mn := 185) (np := 1) (ob := true) (ci := 10) (⟨"NameNotes", "imageAt", "(I)LNameNotes$Studio;"⟩, prog_1_method_60_code, 2, (Option.some (Jvm.ClassFile.FieldType.object "NameNotes$Studio")), 1, true, 3) rfl (by decide +kernel) rfl rfl (by decide) (fun _ => ⟨_, _, rfl⟩) (fm_imageAt hinj), (fun _ h => absurd h List.not_mem_nil)⟩)⟩) (fun as σ K h => by
  obtain ⟨k, rfl, hk, b18, b33, h2, hz0, hz1, h0, h1⟩ := h
  have e18 : fw_c (σ 18 16) = σ 18 16 := fw_c_id (by omega) (by omega)
  have e33 : fw_c (σ 33 16) = σ 33 16 := fw_c_id (by omega) (by omega)
  refine ⟨rfl, fun G hG => fs_restore_0 hG ⟨k, rfl, hk, fun q => fs_restore_5 hG ?_, fun q => fs_restore_5a hG ?_, fun q q2 => fs_restore_5b hG ⟨fw_01, h2 q q2⟩⟩⟩
  · rw [e18]
    refine ⟨fun z => ⟨(18, 3), by decide, rfl, fun σ2 M2 C2 => fs_restore_27 hG ⟨fw_11, ?_⟩⟩, fun z => ⟨fw_01, hz0 q z⟩⟩
    have M2 : ab_okM (cy_M 3) σ σ2 := M2
    have C2 : cy_is σ σ2 18 3 := C2
    rw [fw_c0]
    exact h0 q (by omega) _ (fw_okM_ups (fw_okM_tr (fw_okM_refl _ _) M2 (by decide)) (by decide)) (cy_85 C2) ab_ups_eq
  · rw [e33]
    refine ⟨fun z => ⟨(33, 3), by decide, rfl, fun σ2 M2 C2 => fs_restore_27a hG ⟨fw_11, ?_⟩⟩, fun z => ⟨fw_01, hz1 q z⟩⟩
    have M2 : ab_okM (cy_M 3) σ σ2 := M2
    have C2 : cy_is σ σ2 33 3 := C2
    rw [fw_c0]
    exact h1 q (by omega) _ (fw_okM_ups (fw_okM_tr (fw_okM_refl _ _) M2 (by decide)) (by decide)) (cy_85 C2) ab_ups_eq)
theorem fm_m_image (hinj : nn_inj ad) : fw_H l cy ad wr cr D 352 1 sp_m_image := fw_mk hinj (⟨"NameNotesModel", "image", "(I)Z"⟩, prog_14_method_150_code, 3, (Option.some Jvm.ClassFile.FieldType.boolean), 1, true, 1) rfl rfl nn_KI20_ok nn_KJ20_ok nn_PF20_ok nn_PS20_ok (by decide +kernel) rfl rfl (List.forall_mem_cons.mpr ⟨fw_row nn_PM20_ok (x := 171) (k := 0) (mn := 226) (np := 3) (ob := false) (ci := 0) (⟨"NameNotesModel", "isIn", "(III)Z"⟩, prog_14_method_8_code, 3, (Option.some Jvm.ClassFile.FieldType.boolean), 3, false, 1) rfl (by decide +kernel) rfl rfl (by decide) (fun q => by cases q) (fm_m_isIn hinj), (List.forall_mem_cons.mpr ⟨fw_row nn_PM20_ok (x := 188) (k := 0) (mn := 210) (np := 0) (ob := true) (ci := 11) (⟨"NameNotesModel", "lay", "()V"⟩, prog_14_method_28_code, 1, (Option.none : Option Jvm.ClassFile.FieldType), 0, true, 4) rfl (by decide +kernel) rfl rfl (by decide) (fun _ => ⟨_, _, rfl⟩) (fm_m_lay hinj), (fun _ h => absurd h List.not_mem_nil)⟩)⟩) (fun as σ K h => by
  obtain ⟨k, rfl, hk, ho, h2, h1⟩ := h
  refine ⟨rfl, fun G hG => fs_m_image_0 hG ⟨rfl, ho, fun σ1 M1 L1 => fs_m_image_9 hG ⟨k, 0, 1, rfl, fs_m_image_15 hG ?_⟩⟩⟩
  have N1 : ab_okM lm_M σ σ1 := fw_okM_tr (fw_okM_ups (fw_okM_refl _ _) (by decide)) M1 (by decide)
  have L : ly_is σ σ1 := L1
  rw [hk, fw_c0, fw_c1]
  refine ⟨fun q => ?_, fun q => ⟨by decide, ?_⟩⟩
  · have q := fw_bo_ne q
    obtain ⟨n, rfl⟩ := Int.eq_ofNat_of_zero_le q.1
    have hn : n < 2 := by omega
    have e4 : fw_c 474 = 474 := fw_c_id (by decide) (by decide)
    have e2 : fw_c 20 = 20 := fw_c_id (by decide) (by decide)
    have en : fw_c (n : Int) = (n : Int) := fw_c_id (by omega) (by omega)
    have key2 : ∀ (f i : Nat) (σ2 : ab_SG), i + f = 20 → ab_okM [(97, 1000000), (101, 1000000)] σ1 σ2 → (∀ j : Nat, j < 474 → σ2 97 (474 * n + j) = fw_c (σ1 95 j)) → (∀ j : Nat, (j < 474 * n ∨ 474 * n + 474 ≤ j) → σ2 97 j = σ1 97 j) → (∀ j : Nat, j < i → σ2 101 (20 * n + j) = fw_d (σ1 99 j)) → (∀ j : Nat, (j < 20 * n ∨ 20 * n + i ≤ j) → σ2 101 j = σ1 101 j) → G 55 [some (2, 93, 0), some (0, 0, (n : Int)), some (0, 0, (i : Int))] [] σ2 := by
      intro f
      induction f with
      | zero =>
        intro i σ2 hi M2 a1 a2 a3 a4
        have ei : fw_c (i : Int) = i := fw_c_id (by omega) (by omega)
        have ei2 : i = 20 := by omega
        refine fs_m_image_55 hG ?_
        rw [ei, e2, en, fw_c1, Int.toNat_natCast]
        refine ⟨fun _ => ⟨⟨Int.natCast_nonneg _, by omega⟩, by decide, by decide, h1 n hn rfl σ1 _ N1 L ⟨fw_okM_upa (fw_okM_tr (fw_okM_refl _ _) M2 (by decide)) (by decide), fun j hj => ?_, fun j hj => ?_, fun j hj => ?_, fun j hj => ?_, ab_ups_eq, fun r hr => ?_⟩⟩, fun z => absurd z (by omega)⟩
        · rw [ab_ups_ne (fun z => absurd z.1 (by decide))]; exact a1 j hj
        · rw [ab_ups_ne (fun z => absurd z.1 (by decide))]; exact a3 j (by omega)
        · rw [ab_ups_ne (fun z => absurd z.1 (by decide))]; exact a2 j hj
        · rw [ab_ups_ne (fun z => absurd z.1 (by decide))]; exact a4 j (by omega)
        · rw [ab_ups_ne (fun z => hr z.2), show σ2 102 = σ1 102 from fw_okM_c M2 (by decide)]
      | succ f ih =>
        intro i σ2 hi M2 a1 a2 a3 a4
        have ei : fw_c (i : Int) = i := fw_c_id (by omega) (by omega)
        have ej : fw_c (20 * (n : Int) + (i : Int)) = ((20 * n + i : Nat) : Int) := by rw [fw_c_id (by omega) (by omega)]; omega
        refine fs_m_image_55 hG ?_
        rw [ei, ej, e2, Int.toNat_natCast, Int.toNat_natCast, show σ2 99 = σ1 99 from fw_okM_c M2 (by decide)]
        refine ⟨fun z => absurd z (by omega), fun _ => ⟨⟨Int.natCast_nonneg _, by omega⟩, ⟨Int.natCast_nonneg _, by omega⟩, trivial, ih (i + 1) _ (by omega) (fw_okM_upa M2 (by decide)) (fun j hj => ?_) (fun j hj => ?_) (fun j hj => ?_) (fun j hj => ?_)⟩⟩
        · rw [ab_ups_ne (fun z => absurd z.1 (by decide))]; exact a1 j hj
        · rw [ab_ups_ne (fun z => absurd z.1 (by decide))]; exact a2 j hj
        · by_cases c : j = i
          · rw [c, ab_ups_eq]
          · rw [ab_ups_ne (fun z => by omega)]; exact a3 j (by omega)
        · rw [ab_ups_ne (fun z => by omega)]; exact a4 j (by omega)
    have key1 : ∀ (f i : Nat) (σ2 : ab_SG), i + f = 474 → ab_okM [(97, 1000000)] σ1 σ2 → (∀ j : Nat, j < i → σ2 97 (474 * n + j) = fw_c (σ1 95 j)) → (∀ j : Nat, (j < 474 * n ∨ 474 * n + i ≤ j) → σ2 97 j = σ1 97 j) → G 22 [some (2, 93, 0), some (0, 0, (n : Int)), some (0, 0, (i : Int))] [] σ2 := by
      intro f
      induction f with
      | zero =>
        intro i σ2 hi M2 a1 a2
        have ei : fw_c (i : Int) = i := fw_c_id (by omega) (by omega)
        refine fs_m_image_22 hG ?_
        rw [ei, e4]
        exact ⟨fun _ => key2 20 0 σ2 rfl (fw_okM_tr (fw_okM_refl _ _) M2 (by decide)) (fun j hj => a1 j (by omega)) (fun j hj => a2 j (by omega)) (fun j hj => absurd hj (Nat.not_lt_zero _)) (fun j _ => by rw [show σ2 101 = σ1 101 from fw_okM_c M2 (by decide)]), fun z => absurd z (by omega)⟩
      | succ f ih =>
        intro i σ2 hi M2 a1 a2
        have ei : fw_c (i : Int) = i := fw_c_id (by omega) (by omega)
        have ej : fw_c (474 * (n : Int) + (i : Int)) = ((474 * n + i : Nat) : Int) := by rw [fw_c_id (by omega) (by omega)]; omega
        refine fs_m_image_22 hG ?_
        rw [ei, ej, e4, Int.toNat_natCast, Int.toNat_natCast, show σ2 95 = σ1 95 from fw_okM_c M2 (by decide)]
        refine ⟨fun z => absurd z (by omega), fun _ => ⟨⟨Int.natCast_nonneg _, by omega⟩, ⟨Int.natCast_nonneg _, by omega⟩, trivial, ih (i + 1) _ (by omega) (fw_okM_upa M2 (by decide)) (fun j hj => ?_) (fun j hj => ?_)⟩⟩
        · by_cases c : j = i
          · rw [c, ab_ups_eq]
          · rw [ab_ups_ne (fun z => by omega)]; exact a1 j (by omega)
        · rw [ab_ups_ne (fun z => by omega)]; exact a2 j (by omega)
    exact key1 474 0 σ1 rfl (fw_okM_refl _ _) (fun j hj => absurd hj (Nat.not_lt_zero _)) (fun _ _ => rfl)
  · have q := fw_bo_eq q
    exact h2 (fun z => q (by omega)) (fun z => q (by omega)) σ1 N1 L)
theorem fm_m_restore (hinj : nn_inj ad) : fw_H l cy ad wr cr D 353 1 sp_m_restore := fw_mk hinj (⟨"NameNotesModel", "restore", "(I)Z"⟩, prog_14_method_151_code, 3, (Option.some Jvm.ClassFile.FieldType.boolean), 1, true, 1) rfl rfl nn_KI20_ok nn_KJ20_ok nn_PF20_ok nn_PS20_ok (by decide +kernel) rfl rfl (List.forall_mem_cons.mpr ⟨fw_row nn_PM20_ok (x := 171) (k := 0) (mn := 226) (np := 3) (ob := false) (ci := 0) (⟨"NameNotesModel", "isIn", "(III)Z"⟩, prog_14_method_8_code, 3, (Option.some Jvm.ClassFile.FieldType.boolean), 3, false, 1) rfl (by decide +kernel) rfl rfl (by decide) (fun q => by cases q) (fm_m_isIn hinj), (fun _ h => absurd h List.not_mem_nil)⟩) (fun as σ K h => by
  obtain ⟨k, rfl, hk, hr, h2, h0, h1⟩ := h
  refine ⟨rfl, fun G hG => fs_m_restore_0 hG ⟨k, 0, 1, rfl, fs_m_restore_11 hG ?_⟩⟩
  rw [hk, fw_c0, fw_c1]
  refine ⟨fun q => ⟨by decide, ?_⟩, fun q => ?_⟩
  · have q := fw_bo_eq q
    exact h2 (fun z => q (by omega)) (fun z => q (by omega))
  · have q := fw_bo_ne q
    obtain ⟨n, rfl⟩ := Int.eq_ofNat_of_zero_le q.1
    have hn : n < 2 := by omega
    have e4 : fw_c 474 = 474 := fw_c_id (by decide) (by decide)
    have e2 : fw_c 20 = 20 := fw_c_id (by decide) (by decide)
    have b102 : ab_ups σ 93 0 0 102 n = σ 102 n := ab_ups_ne (fun z => absurd z.1 (by decide))
    have hr2 := hr n hn
    have e1 : fw_c (σ 102 n) = σ 102 n := fw_c_id (by omega) (by omega)
    rw [Int.toNat_natCast, b102, e1]
    refine ⟨⟨Int.natCast_nonneg _, by omega⟩, fun z => ?_, fun z => ⟨by decide, h0 n hn rfl z⟩⟩
    have h1 := h1 n hn rfl (by omega)
    have B0 : ab_okM [(93, 0), (95, 1000000)] σ (ab_ups σ 93 0 0) := fw_okM_ups (fw_okM_refl _ _) (by decide)
    have key2 : ∀ (f i : Nat) (σ2 : ab_SG), i + f = 20 → ab_okM [(93, 0), (95, 1000000), (99, 1000000)] σ σ2 → (∀ j : Nat, j < 474 → σ2 95 j = fw_c (σ 97 (474 * n + j))) → (∀ j : Nat, j < i → σ2 99 j = fw_d (σ 101 (20 * n + j))) → G 60 [some (2, 93, 0), some (0, 0, (n : Int)), some (0, 0, (i : Int))] [] σ2 := by
      intro f
      induction f with
      | zero =>
        intro i σ2 hi M2 a1 a3
        have ei : fw_c (i : Int) = i := fw_c_id (by omega) (by omega)
        refine fs_m_restore_60 hG ?_
        rw [ei, e2, fw_c0]
        refine ⟨fun _ => ⟨fw_11, h1 _ ⟨fw_okM_ups (fw_okM_tr (fw_okM_refl _ _) M2 (by decide)) (by decide), fun j hj => ?_, fun j hj => ?_, ab_ups_eq⟩⟩, fun z => absurd z (by omega)⟩
        · rw [ab_ups_ne (fun z => absurd z.1 (by decide))]; exact a1 j hj
        · rw [ab_ups_ne (fun z => absurd z.1 (by decide))]; exact a3 j (by omega)
      | succ f ih =>
        intro i σ2 hi M2 a1 a3
        have ei : fw_c (i : Int) = i := fw_c_id (by omega) (by omega)
        have ej : fw_c (20 * (n : Int) + (i : Int)) = ((20 * n + i : Nat) : Int) := by rw [fw_c_id (by omega) (by omega)]; omega
        refine fs_m_restore_60 hG ?_
        rw [ei, ej, e2, Int.toNat_natCast, Int.toNat_natCast, show σ2 101 = σ 101 from fw_okM_c M2 (by decide)]
        refine ⟨fun z => absurd z (by omega), fun _ => ⟨⟨Int.natCast_nonneg _, by omega⟩, ⟨Int.natCast_nonneg _, by omega⟩, trivial, ih (i + 1) _ (by omega) (fw_okM_upa M2 (by decide)) (fun j hj => ?_) (fun j hj => ?_)⟩⟩
        · rw [ab_ups_ne (fun z => absurd z.1 (by decide))]; exact a1 j hj
        · by_cases c : j = i
          · rw [c, ab_ups_eq]
          · rw [ab_ups_ne (fun z => c z.2)]; exact a3 j (by omega)
    have key1 : ∀ (f i : Nat) (σ2 : ab_SG), i + f = 474 → ab_okM [(93, 0), (95, 1000000)] σ σ2 → (∀ j : Nat, j < i → σ2 95 j = fw_c (σ 97 (474 * n + j))) → G 27 [some (2, 93, 0), some (0, 0, (n : Int)), some (0, 0, (i : Int))] [] σ2 := by
      intro f
      induction f with
      | zero =>
        intro i σ2 hi M2 a1
        have ei : fw_c (i : Int) = i := fw_c_id (by omega) (by omega)
        refine fs_m_restore_27 hG ?_
        rw [ei, e4]
        exact ⟨fun _ => key2 20 0 σ2 rfl (fw_okM_tr (fw_okM_refl _ _) M2 (by decide)) (fun j hj => a1 j (by omega)) (fun j hj => absurd hj (Nat.not_lt_zero _)), fun z => absurd z (by omega)⟩
      | succ f ih =>
        intro i σ2 hi M2 a1
        have ei : fw_c (i : Int) = i := fw_c_id (by omega) (by omega)
        have ej : fw_c (474 * (n : Int) + (i : Int)) = ((474 * n + i : Nat) : Int) := by rw [fw_c_id (by omega) (by omega)]; omega
        refine fs_m_restore_27 hG ?_
        rw [ei, ej, e4, Int.toNat_natCast, Int.toNat_natCast, show σ2 97 = σ 97 from fw_okM_c M2 (by decide)]
        refine ⟨fun z => absurd z (by omega), fun _ => ⟨⟨Int.natCast_nonneg _, by omega⟩, ⟨Int.natCast_nonneg _, by omega⟩, trivial, ih (i + 1) _ (by omega) (fw_okM_upa M2 (by decide)) (fun j hj => ?_)⟩⟩
        by_cases c : j = i
        · rw [c, ab_ups_eq]
        · rw [ab_ups_ne (fun z => c z.2)]; exact a1 j (by omega)
    exact key1 474 0 _ rfl B0 (fun j hj => absurd hj (Nat.not_lt_zero _)))
end
end
section
/-! a contract out of two by an argument's bounds; a contract read node by node -/
theorem nn_met_room {l : Launch} {y : MethodName} {ws : List Jvm.Cond} {rm rm' : Room} {Pc : Array Value → State → Prop} {Qc Qc' : Array Value → State → Outcome → State → Prop} {mc ms : Nat} {free : Addr → Prop}
    (hf : rm.frames ≤ rm'.frames) (hl : rm.locals ≤ rm'.locals) (hc : rm.cells ≤ rm'.cells) (hs : rm.slots ≤ rm'.slots) (hq : ∀ a st o t, Qc a st o t → Qc' a st o t)
    (h : Met l y ws rm Pc Qc mc ms free) : Met l y ws rm' Pc Qc' mc ms free := by
  intro p e hadm hfc hfk s m args below hfr happ hP hK
  have happ' : (headSpec ws rm).appliesLoose y e.platform s = true := by
    rw [Spec.appliesLoose_iff hfr] at happ ⊢
    obtain ⟨a1, a2, a3, a4, a5, a6, a7, a8⟩ := happ
    refine ⟨a1, a2, a3, a4, a5, a6, ?_, a8⟩
    have a7 : s.hasRoom e.platform rm' = true := a7
    show s.hasRoom e.platform rm = true
    unfold State.hasRoom at a7 ⊢
    simp only [Bool.and_eq_true, decide_eq_true_eq] at a7 ⊢
    obtain ⟨⟨⟨⟨b1, b2, b3, b4, b5, b6⟩, b7⟩, b8⟩, b9⟩ := a7
    exact ⟨⟨⟨⟨by omega, by omega, by omega, by omega, by omega, b6⟩, by omega⟩, by omega⟩, b9⟩
  obtain ⟨n, o, c1, c2, c3, c4, c5⟩ := h p e hadm hfc hfk s m args below hfr happ' hP hK
  exact ⟨n, o, c1, c2, c3, hq _ _ _ _ c4, c5⟩
/-- a contract with other bounds of one symbol -/
def nn_wd (i : Nat) (a b : Int) (ct : ab_CN) : ab_CN := (ct.1, ct.2.1.set i (a, b), ct.2.2.1, ct.2.2.2.1, ct.2.2.2.2.map (fun o => (o.1, o.2.1.set i (a, b), o.2.2.1, o.2.2.2.1, o.2.2.2.2)))
theorem nn_set_ok {B : ab_BD} {i : Nat} {a b a' b' : Int} {ρ : Nat → Int} (h : ab_okB (B.set i (a, b)) ρ) (h1 : i < B.length → a' ≤ ρ i) (h2 : i < B.length → ρ i ≤ b') : ab_okB (B.set i (a', b')) ρ := by
  intro j hj
  rw [List.length_set] at hj
  have h3 := h j (by rw [List.length_set]; exact hj)
  unfold ab_lo ab_hi at h3 ⊢
  rw [List.getD_eq_getElem?_getD, List.getElem?_set] at h3 ⊢
  by_cases e : i = j
  · subst e
    rw [if_pos rfl, if_pos hj]
    exact ⟨h1 hj, h2 hj⟩
  · rw [if_neg e] at h3 ⊢
    exact h3
theorem nn_set_K {T : ab_RG} {C : ab_CT} {σ0 σ : ab_SG} {B : ab_BD} {F : ab_FT} {Dl : ab_DL} {M : ab_ML} {i : Nat} {a b a' b' : Int} {ρ : Nat → Int} (h : ab_K T C σ0 (B.set i (a, b)) F Dl M ρ σ) (h1 : i < B.length → a' ≤ ρ i) (h2 : i < B.length → ρ i ≤ b') :
    ab_K T C σ0 (B.set i (a', b')) F Dl M ρ σ := by
  obtain ⟨k1, k2, k3, k4, k5, k6, k7, k8⟩ := h
  rw [List.length_set] at k2 k4 k5
  exact ⟨nn_set_ok k1 h1 h2, by rw [List.length_set]; exact k2, k3, by rw [List.length_set]; exact k4, by rw [List.length_set]; exact k5, k6, k7, k8⟩
theorem nn_join {l : Launch} {cy : Nat → ClassId} {ad wr cr : Nat → Nat} {D : va_G} {cl : List vw_C} {sh : List ab_SP} {T : ab_RG} {C : ab_CT} {NW : ab_NW} {kd : ab_KD} {TT : List Jvm.Cond} {MT : List ab_MR} {mn l1 l2 lev i : Nat} {a k b : Int} {ct : ab_CN}
    (h1 : ab_hold l cy ad wr cr D cl sh T C NW kd TT MT (mn, l1, nn_wd i a k ct)) (h2 : ab_hold l cy ad wr cr D cl sh T C NW kd TT MT (mn, l2, nn_wd i (k + 1) b ct)) (hk1 : a ≤ k + 1) (hk2 : k ≤ b) (hl1 : l1 ≤ lev) (hl2 : l2 ≤ lev) (hi : i < ct.2.1.length) :
    ab_hold l cy ad wr cr D cl sh T C NW kd TT MT (mn, lev, nn_wd i a b ct) := by
  intro mr hmr
  obtain ⟨a1, a2, a3⟩ := h1 mr hmr
  obtain ⟨-, -, b3⟩ := h2 mr hmr
  have hlen : ∀ x y : Int, (nn_wd i x y ct).2.1.length = ct.2.1.length := fun x y => List.length_set
  refine ⟨by rw [hlen] at a1 ⊢; exact a1, a2, fun ρ σ sz hK hsy => ?_⟩
  have hQ : ∀ (x y : Int) (_ : a ≤ x) (_ : y ≤ b) (_ : x ≤ ρ i) (_ : ρ i ≤ y) (A : Nat → Prop) (av : Array Value) (st : State) (o : Outcome) (t : State), ab_QC cy ad wr cr D cl sh T C (nn_wd i x y ct).2.1.length ρ σ (nn_wd i x y ct).2.2.2.2 A av st o t → ab_QC cy ad wr cr D cl sh T C (nn_wd i a b ct).2.1.length ρ σ (nn_wd i a b ct).2.2.2.2 A av st o t := by
    intro x y hx hy hρ1 hρ2 A av st o t hq
    obtain ⟨⟨rv, o1, e1, e2, ρ', σ', f1, f2, f3, f4, f5⟩, hF⟩ := hq
    rw [hlen] at f1 f2
    obtain ⟨o0, g1, rfl⟩ := List.mem_map.mp e2
    have hρ' : ρ' i = ρ i := f1 i hi
    refine ⟨⟨rv, _, e1, List.mem_map.mpr ⟨o0, g1, rfl⟩, ρ', σ', by rw [hlen]; exact f1, ?_, nn_set_K f3 (fun _ => by omega) (fun _ => by omega), ?_, f5⟩, hF⟩
    · rw [hlen]
      have f2 : ct.2.1.length ≤ (o0.2.1.set i (x, y)).length := f2
      show ct.2.1.length ≤ (o0.2.1.set i (a, b)).length
      rw [List.length_set] at f2 ⊢
      exact f2
    · have f4 : ab_okS ad wr cr (o0.2.1.set i (x, y)).length ρ' o0.1 rv.toList := f4
      show ab_okS ad wr cr (o0.2.1.set i (a, b)).length ρ' o0.1 rv.toList
      rw [List.length_set] at f4 ⊢
      exact f4
  have hb := hK.1 i (by rw [hlen]; exact hi)
  have hb' : a ≤ ρ i ∧ ρ i ≤ b := by
    have hb : ab_lo (ct.2.1.set i (a, b)) i ≤ ρ i ∧ ρ i ≤ ab_hi (ct.2.1.set i (a, b)) i := hb
    unfold ab_lo ab_hi at hb
    rw [List.getD_eq_getElem?_getD, List.getElem?_set, if_pos rfl, if_pos hi] at hb
    exact hb
  have hsy' : ∀ (x y : Int), ∀ v ∈ (nn_wd i x y ct).1, ab_sy (nn_wd i x y ct).2.1.length v := fun x y v hv => by
    have := hsy v hv
    rw [hlen] at this ⊢
    exact this
  by_cases hc : ρ i ≤ k
  · have hM := a3 ρ σ sz (nn_set_K hK (fun _ => hb'.1) (fun _ => hc)) (hsy' a k)
    refine nn_met_room (rm := ab_room l1) (rm' := ab_room lev) hl1 (Nat.mul_le_mul_left 40 hl1) (Nat.le_refl _) (Nat.le_refl _) ?_ hM
    exact hQ a k (Int.le_refl _) hk2 hb'.1 hc _
  · have hM := b3 ρ σ sz (nn_set_K hK (fun _ => by omega) (fun _ => hb'.2)) (hsy' (k + 1) b)
    refine nn_met_room (rm := ab_room l2) (rm' := ab_room lev) hl2 (Nat.mul_le_mul_left 40 hl2) (Nat.le_refl _) (Nat.le_refl _) ?_ hM
    exact hQ (k + 1) b (by omega) (Int.le_refl _) (by omega) hb'.2 _
/-- some of the nodes -/
noncomputable def nn_ck1 (cl : List vw_C) (T : ab_RG) (C : ab_CT) (sh : List ab_SP) (MT : List ab_MR) (own : String) (KI KJ : List (Nat × Int)) (PF : ab_PT) (kd : ab_KD) (PS : ab_PS) (PM : ab_PC2) (KS : ab_KS) (lev mn fuel : Nat) (sp HD : List Nat) (HN : ab_HH) (mu : ab_M3) (ct : ab_CN) (NS : List ab_ND) (nds : List ab_ND) : Bool := match MT[mn]?, nn_DT[mn]? with
  | some mr, some dt => (1 : Nat).ble ct.2.1.length && (!mr.2.2.2.2.2.1 || nn_rcB cl sh mr.1.cls ct.1) && (ab_cat ct.1).ble mr.2.2.1 && nn_rkB mr.2.2.2.2.2.2 mr.2.2.2.1 && plainName mr.1.cls && decide (mr.1.cls = own) &&
    nds.all (fz_cn cl T C sh MT KI KJ PF kd PS PM KS lev 0 dt mr.2.2.1 ct.2.1.length ct.2.2.2.2 mr.2.2.2.2.2.2 sp HD HN [] (((0, (ab_en0 0 ct.1, [], ct.2.1, ct.2.2.1, ct.2.2.2.1, []), mu) : ab_ND) :: NS) fuel)
  | _, _ => false
theorem nn_ck1_app {cl : List vw_C} {T : ab_RG} {C : ab_CT} {sh : List ab_SP} {MT : List ab_MR} {own : String} {KI KJ : List (Nat × Int)} {PF : ab_PT} {kd : ab_KD} {PS : ab_PS} {PM : ab_PC2} {KS : ab_KS} {lev mn fuel : Nat} {sp HD : List Nat} {HN : ab_HH} {mu : ab_M3} {ct : ab_CN} {NS A B : List ab_ND}
    (h1 : nn_ck1 cl T C sh MT own KI KJ PF kd PS PM KS lev mn fuel sp HD HN mu ct NS A = true) (h2 : nn_ck1 cl T C sh MT own KI KJ PF kd PS PM KS lev mn fuel sp HD HN mu ct NS B = true) : nn_ck1 cl T C sh MT own KI KJ PF kd PS PM KS lev mn fuel sp HD HN mu ct NS (A ++ B) = true := by
  unfold nn_ck1 at h1 h2 ⊢
  split at h1
  · rename_i mr dt e1 e2
    rw [e1, e2] at h2
    rw [Bool.and_eq_true] at h1 h2 ⊢
    exact ⟨h1.1, by rw [List.all_append, h1.2, h2.2]; rfl⟩
  · cases h1
theorem nn_ck_of {cl : List vw_C} {T : ab_RG} {C : ab_CT} {sh : List ab_SP} {MT : List ab_MR} {own : String} {KI KJ : List (Nat × Int)} {PF : ab_PT} {kd : ab_KD} {PS : ab_PS} {PM : ab_PC2} {KS : ab_KS} {lev mn fuel : Nat} {sp HD : List Nat} {HN : ab_HH} {mu : ab_M3} {ct : ab_CN} {NS : List ab_ND}
    (h1 : nn_ck1 cl T C sh MT own KI KJ PF kd PS PM KS lev mn fuel sp HD HN mu ct NS [((0, (ab_en0 0 ct.1, [], ct.2.1, ct.2.2.1, ct.2.2.2.1, []), mu) : ab_ND)] = true) (h2 : nn_ck1 cl T C sh MT own KI KJ PF kd PS PM KS lev mn fuel sp HD HN mu ct NS NS = true) :
    nn_ck cl T C sh MT own KI KJ PF kd PS PM KS lev mn fuel sp HD HN mu ct NS = true := nn_ck1_app h1 h2
end
