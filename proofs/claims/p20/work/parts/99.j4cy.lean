/-! a studio copied, row by row -/
def sp_o3 (f : Nat → Nat → Nat → fw_SP) (l : List (Nat × Nat × Nat)) : fw_SP := fun as σ K => ∃ q ∈ l, f q.1 q.2.1 q.2.2 as σ K
theorem fw_H_o3 {l : Launch} {cy : Nat → ClassId} {ad wr cr : Nat → Nat} {D : va_G} {mn lev : Nat} {f : Nat → Nat → Nat → fw_SP} {ks : List (Nat × Nat × Nat)} (h : ∀ q ∈ ks, fw_H l cy ad wr cr D mn lev (f q.1 q.2.1 q.2.2)) : fw_H l cy ad wr cr D mn lev (sp_o3 f ks) := by
  intro mr hmr as σ sz K ⟨q, hq, hsp⟩
  exact h q hq mr hmr as σ sz K hsp
def cp_k (a b n : Nat) : fw_SP := fun as σ K => as = [(2, a, 0), (2, b, 0)] ∧ ∀ σ' : ab_SG, ab_okM [(b, 1000000)] σ σ' → (∀ j : Nat, j < n → σ' b j = fw_c (σ a j)) → K none σ'
def cl_k (a b n : Nat) : fw_SP := fun as σ K => as = [(2, a, 0), (2, b, 0)] ∧ ∀ σ' : ab_SG, ab_okM [(b, 1000000)] σ σ' → (∀ j : Nat, j < n → σ' b j = fw_d (σ a j)) → K none σ'
def cp_T : List (Nat × Nat × Nat) := [(50, 4, 81), (51, 5, 81), (52, 6, 9), (53, 7, 324), (54, 8, 6), (55, 9, 45), (56, 10, 5), (61, 15, 64), (62, 16, 64), (4, 19, 81), (5, 20, 81), (6, 21, 9), (7, 22, 324), (8, 23, 6), (9, 24, 45), (10, 25, 5), (15, 30, 64), (16, 31, 64), (4, 34, 81), (5, 35, 81), (6, 36, 9), (7, 37, 324), (8, 38, 6), (9, 39, 45), (10, 40, 5), (15, 45, 64), (16, 46, 64), (19, 4, 81), (20, 5, 81), (21, 6, 9), (22, 7, 324), (23, 8, 6), (24, 9, 45), (25, 10, 5), (30, 15, 64), (31, 16, 64), (34, 4, 81), (35, 5, 81), (36, 6, 9), (37, 7, 324), (38, 8, 6), (39, 9, 45), (40, 10, 5), (45, 15, 64), (46, 16, 64)]
def cl_T : List (Nat × Nat × Nat) := [(57, 11, 9), (58, 12, 6), (59, 13, 5), (11, 26, 9), (12, 27, 6), (13, 28, 5), (11, 41, 9), (12, 42, 6), (13, 43, 5), (26, 11, 9), (27, 12, 6), (28, 13, 5), (41, 11, 9), (42, 12, 6), (43, 13, 5)]
def cy_T : List (Nat × Nat) := [(49, 3), (3, 18), (3, 33), (18, 3), (33, 3)]
def sp_cp : fw_SP := sp_o3 cp_k cp_T
def sp_cl : fw_SP := sp_o3 cl_k cl_T
theorem cp_gen {a b n : Nat} (hab : a ≠ b) (hn : n ≤ 1000) {f : Int → Int} {K : fw_KR} {σ : ab_SG} {G2 : Int → ab_SG → Prop}
    (s2 : ∀ (a2 : Int) (σ1 : ab_SG), (fw_c ((n : Nat) : Int) ≤ fw_c a2 → K none σ1) ∧ (fw_c a2 < fw_c ((n : Nat) : Int) → (fw_c ((n : Nat) : Int) ≤ fw_c a2 → K none σ1) ∧ (fw_c a2 < fw_c ((n : Nat) : Int) → (0 ≤ fw_c a2 ∧ fw_c a2 < ((n : Nat) : Int)) ∧ ((0 ≤ fw_c a2 ∧ fw_c a2 < ((n : Nat) : Int)) ∧ True ∧ (G2 (a2 + 1) (ab_ups σ1 b (fw_c a2).toNat (f (σ1 a (fw_c a2).toNat))))))) → G2 a2 σ1)
    (h : ∀ σ' : ab_SG, ab_okM [(b, 1000000)] σ σ' → (∀ j : Nat, j < n → σ' b j = f (σ a j)) → K none σ') : G2 0 σ := by
  have en : fw_c ((n : Nat) : Int) = ((n : Nat) : Int) := fw_c_id (by omega) (by omega)
  have key : ∀ (k i : Nat) (σ1 : ab_SG), i + k = n → (∀ c d : Nat, c ≠ b → σ1 c d = σ c d) → (∀ j : Nat, j < i → σ1 b j = f (σ a j)) → G2 (i : Int) σ1 := by
    intro k
    induction k with
    | zero =>
      intro i σ1 hi q1 q2
      have e : i = n := by omega
      subst e
      refine s2 _ _ ⟨fun _ => h σ1 (fun c d hcd => q1 c d (fun z => hcd (b, 1000000) List.mem_cons_self ⟨z.symm, Or.inr rfl⟩)) q2, fun q => absurd q (Int.lt_irrefl _)⟩
    | succ k ih =>
      intro i σ1 hi q1 q2
      have ei : fw_c (i : Int) = i := fw_c_id (by omega) (by omega)
      refine s2 _ _ ?_
      rw [en, ei, Int.toNat_natCast, q1 a i hab]
      refine ⟨fun q => absurd q (by omega), fun q => ⟨fun q => absurd q (by omega), fun _ => ⟨⟨Int.natCast_nonneg i, q⟩, ⟨Int.natCast_nonneg i, q⟩, trivial, ?_⟩⟩⟩
      refine ih (i + 1) _ (by omega) (fun c d hc => ?_) (fun j hj => ?_)
      · rw [ab_ups_ne (fun z => hc z.1)]; exact q1 c d hc
      · by_cases e : j = i
        · rw [e, ab_ups_eq]
        · rw [ab_ups_ne (fun z => e z.2)]; exact q2 j (by omega)
  exact key n 0 σ (by omega) (fun _ _ _ => rfl) (fun b hb => absurd hb (Nat.not_lt_zero b))
def sc_M (b : Nat) : ab_ML := [(b + 12, 1000000), (b + 13, 1000000), (b + 11, 3), (b + 11, 4)]
def sc_is (σ σ' : ab_SG) (a b : Nat) : Prop := (∀ j : Nat, j < 64 → σ' (b + 12) j = fw_c (σ (a + 12) j)) ∧ (∀ j : Nat, j < 64 → σ' (b + 13) j = fw_c (σ (a + 13) j)) ∧ σ' (b + 11) 3 = fw_c (σ (a + 11) 3) ∧ σ' (b + 11) 4 = fw_c (σ (a + 11) 4)
def sc_k (a b : Nat) : fw_SP := fun as σ K => as = [(2, b + 11, 0), (2, a + 11, 0)] ∧ ∀ σ' : ab_SG, ab_okM (sc_M b) σ σ' → sc_is σ σ' a b → K none σ'
def sp_scopy : fw_SP := sp_of sc_k cy_T
def cy_M (b : Nat) : ab_ML := (b + 1, 1000000) :: (b + 2, 1000000) :: (b + 3, 1000000) :: (b + 4, 1000000) :: (b + 5, 1000000) :: (b + 6, 1000000) :: (b + 7, 1000000) :: (b + 8, 1000000) :: (b + 9, 1000000) :: (b + 10, 1000000) :: (b, 11) :: (b, 12) :: (b, 13) :: (b, 14) :: (b, 15) :: sc_M b
def cy_is (σ σ' : ab_SG) (a b : Nat) : Prop := (∀ j : Nat, j < 81 → σ' (b + 1) j = fw_c (σ (a + 1) j)) ∧ (∀ j : Nat, j < 81 → σ' (b + 2) j = fw_c (σ (a + 2) j)) ∧ (∀ j : Nat, j < 9 → σ' (b + 3) j = fw_c (σ (a + 3) j)) ∧ (∀ j : Nat, j < 324 → σ' (b + 4) j = fw_c (σ (a + 4) j)) ∧
  (∀ j : Nat, j < 6 → σ' (b + 5) j = fw_c (σ (a + 5) j)) ∧ (∀ j : Nat, j < 45 → σ' (b + 6) j = fw_c (σ (a + 6) j)) ∧ (∀ j : Nat, j < 5 → σ' (b + 7) j = fw_c (σ (a + 7) j)) ∧ (∀ j : Nat, j < 9 → σ' (b + 8) j = fw_d (σ (a + 8) j)) ∧ (∀ j : Nat, j < 6 → σ' (b + 9) j = fw_d (σ (a + 9) j)) ∧ (∀ j : Nat, j < 5 → σ' (b + 10) j = fw_d (σ (a + 10) j)) ∧ sc_is σ σ' a b ∧
  σ' b 11 = fw_c (σ a 11) ∧ σ' b 12 = fw_c (σ a 12) ∧ σ' b 13 = fw_c (σ a 13) ∧ σ' b 14 = fw_c (σ a 14) ∧ σ' b 15 = fw_c (σ a 15)
def cy_k (a b : Nat) : fw_SP := fun as σ K => as = [(2, b, 0), (2, a, 0)] ∧ ∀ σ' : ab_SG, ab_okM (cy_M b) σ σ' → cy_is σ σ' a b → K none σ'
def sp_copy : fw_SP := sp_of cy_k cy_T
abbrev fk_cp_50_4 : List fw_CR := []
abbrev st_cp_50_4 : fw_K → fw_KR → fw_K := fw_st vwCl nn_sh nn_kd fw_kv fw_wc (nn_KI1.map (fun x => x.1)) (nn_KJ1.map (fun x => x.1)) (nn_PF1.map (fun x => x.1)) (nn_PS1.map (fun x => x.1)) fk_cp_50_4 0 nn_dt50 3 4
theorem fs_cp_50_4_0 {G : fw_K} {R : fw_KR} (hG : fw_cls st_cp_50_4 R G) {σ : ab_SG} (h : G 2 [some (2, 50, 0), some (2, 4, 0), some (0, 0, 0)] [] σ) : G 0 [some (2, 50, 0), some (2, 4, 0), none] [] σ := fw_on hG [2] 200 h
theorem fs_cp_50_4_2 {G : fw_K} {R : fw_KR} (hG : fw_cls st_cp_50_4 R G) {a2 : Int} {σ : ab_SG} (h : (fw_c ((81 : Nat) : Int) ≤ fw_c a2 → R none σ) ∧ (fw_c a2 < fw_c ((81 : Nat) : Int) → (fw_c ((81 : Nat) : Int) ≤ fw_c a2 → R none σ) ∧ (fw_c a2 < fw_c ((81 : Nat) : Int) → (0 ≤ fw_c a2 ∧ fw_c a2 < ((81 : Nat) : Int)) ∧ ((0 ≤ fw_c a2 ∧ fw_c a2 < ((81 : Nat) : Int)) ∧ True ∧ (G 2 [some (2, 50, 0), some (2, 4, 0), some (0, 0, a2 + 1)] [] (ab_ups σ 4 (fw_c a2).toNat (fw_c (σ 50 (fw_c a2).toNat)))))))) : G 2 [some (2, 50, 0), some (2, 4, 0), some (0, 0, a2)] [] σ := fw_on hG [2] 200 h
abbrev fk_cp_51_5 : List fw_CR := []
abbrev st_cp_51_5 : fw_K → fw_KR → fw_K := fw_st vwCl nn_sh nn_kd fw_kv fw_wc (nn_KI1.map (fun x => x.1)) (nn_KJ1.map (fun x => x.1)) (nn_PF1.map (fun x => x.1)) (nn_PS1.map (fun x => x.1)) fk_cp_51_5 0 nn_dt50 3 4
theorem fs_cp_51_5_0 {G : fw_K} {R : fw_KR} (hG : fw_cls st_cp_51_5 R G) {σ : ab_SG} (h : G 2 [some (2, 51, 0), some (2, 5, 0), some (0, 0, 0)] [] σ) : G 0 [some (2, 51, 0), some (2, 5, 0), none] [] σ := fw_on hG [2] 200 h
theorem fs_cp_51_5_2 {G : fw_K} {R : fw_KR} (hG : fw_cls st_cp_51_5 R G) {a2 : Int} {σ : ab_SG} (h : (fw_c ((81 : Nat) : Int) ≤ fw_c a2 → R none σ) ∧ (fw_c a2 < fw_c ((81 : Nat) : Int) → (fw_c ((81 : Nat) : Int) ≤ fw_c a2 → R none σ) ∧ (fw_c a2 < fw_c ((81 : Nat) : Int) → (0 ≤ fw_c a2 ∧ fw_c a2 < ((81 : Nat) : Int)) ∧ ((0 ≤ fw_c a2 ∧ fw_c a2 < ((81 : Nat) : Int)) ∧ True ∧ (G 2 [some (2, 51, 0), some (2, 5, 0), some (0, 0, a2 + 1)] [] (ab_ups σ 5 (fw_c a2).toNat (fw_c (σ 51 (fw_c a2).toNat)))))))) : G 2 [some (2, 51, 0), some (2, 5, 0), some (0, 0, a2)] [] σ := fw_on hG [2] 200 h
abbrev fk_cp_52_6 : List fw_CR := []
abbrev st_cp_52_6 : fw_K → fw_KR → fw_K := fw_st vwCl nn_sh nn_kd fw_kv fw_wc (nn_KI1.map (fun x => x.1)) (nn_KJ1.map (fun x => x.1)) (nn_PF1.map (fun x => x.1)) (nn_PS1.map (fun x => x.1)) fk_cp_52_6 0 nn_dt50 3 4
theorem fs_cp_52_6_0 {G : fw_K} {R : fw_KR} (hG : fw_cls st_cp_52_6 R G) {σ : ab_SG} (h : G 2 [some (2, 52, 0), some (2, 6, 0), some (0, 0, 0)] [] σ) : G 0 [some (2, 52, 0), some (2, 6, 0), none] [] σ := fw_on hG [2] 200 h
theorem fs_cp_52_6_2 {G : fw_K} {R : fw_KR} (hG : fw_cls st_cp_52_6 R G) {a2 : Int} {σ : ab_SG} (h : (fw_c ((9 : Nat) : Int) ≤ fw_c a2 → R none σ) ∧ (fw_c a2 < fw_c ((9 : Nat) : Int) → (fw_c ((9 : Nat) : Int) ≤ fw_c a2 → R none σ) ∧ (fw_c a2 < fw_c ((9 : Nat) : Int) → (0 ≤ fw_c a2 ∧ fw_c a2 < ((9 : Nat) : Int)) ∧ ((0 ≤ fw_c a2 ∧ fw_c a2 < ((9 : Nat) : Int)) ∧ True ∧ (G 2 [some (2, 52, 0), some (2, 6, 0), some (0, 0, a2 + 1)] [] (ab_ups σ 6 (fw_c a2).toNat (fw_c (σ 52 (fw_c a2).toNat)))))))) : G 2 [some (2, 52, 0), some (2, 6, 0), some (0, 0, a2)] [] σ := fw_on hG [2] 200 h
abbrev fk_cp_53_7 : List fw_CR := []
abbrev st_cp_53_7 : fw_K → fw_KR → fw_K := fw_st vwCl nn_sh nn_kd fw_kv fw_wc (nn_KI1.map (fun x => x.1)) (nn_KJ1.map (fun x => x.1)) (nn_PF1.map (fun x => x.1)) (nn_PS1.map (fun x => x.1)) fk_cp_53_7 0 nn_dt50 3 4
theorem fs_cp_53_7_0 {G : fw_K} {R : fw_KR} (hG : fw_cls st_cp_53_7 R G) {σ : ab_SG} (h : G 2 [some (2, 53, 0), some (2, 7, 0), some (0, 0, 0)] [] σ) : G 0 [some (2, 53, 0), some (2, 7, 0), none] [] σ := fw_on hG [2] 200 h
theorem fs_cp_53_7_2 {G : fw_K} {R : fw_KR} (hG : fw_cls st_cp_53_7 R G) {a2 : Int} {σ : ab_SG} (h : (fw_c ((324 : Nat) : Int) ≤ fw_c a2 → R none σ) ∧ (fw_c a2 < fw_c ((324 : Nat) : Int) → (fw_c ((324 : Nat) : Int) ≤ fw_c a2 → R none σ) ∧ (fw_c a2 < fw_c ((324 : Nat) : Int) → (0 ≤ fw_c a2 ∧ fw_c a2 < ((324 : Nat) : Int)) ∧ ((0 ≤ fw_c a2 ∧ fw_c a2 < ((324 : Nat) : Int)) ∧ True ∧ (G 2 [some (2, 53, 0), some (2, 7, 0), some (0, 0, a2 + 1)] [] (ab_ups σ 7 (fw_c a2).toNat (fw_c (σ 53 (fw_c a2).toNat)))))))) : G 2 [some (2, 53, 0), some (2, 7, 0), some (0, 0, a2)] [] σ := fw_on hG [2] 200 h
abbrev fk_cp_54_8 : List fw_CR := []
abbrev st_cp_54_8 : fw_K → fw_KR → fw_K := fw_st vwCl nn_sh nn_kd fw_kv fw_wc (nn_KI1.map (fun x => x.1)) (nn_KJ1.map (fun x => x.1)) (nn_PF1.map (fun x => x.1)) (nn_PS1.map (fun x => x.1)) fk_cp_54_8 0 nn_dt50 3 4
theorem fs_cp_54_8_0 {G : fw_K} {R : fw_KR} (hG : fw_cls st_cp_54_8 R G) {σ : ab_SG} (h : G 2 [some (2, 54, 0), some (2, 8, 0), some (0, 0, 0)] [] σ) : G 0 [some (2, 54, 0), some (2, 8, 0), none] [] σ := fw_on hG [2] 200 h
theorem fs_cp_54_8_2 {G : fw_K} {R : fw_KR} (hG : fw_cls st_cp_54_8 R G) {a2 : Int} {σ : ab_SG} (h : (fw_c ((6 : Nat) : Int) ≤ fw_c a2 → R none σ) ∧ (fw_c a2 < fw_c ((6 : Nat) : Int) → (fw_c ((6 : Nat) : Int) ≤ fw_c a2 → R none σ) ∧ (fw_c a2 < fw_c ((6 : Nat) : Int) → (0 ≤ fw_c a2 ∧ fw_c a2 < ((6 : Nat) : Int)) ∧ ((0 ≤ fw_c a2 ∧ fw_c a2 < ((6 : Nat) : Int)) ∧ True ∧ (G 2 [some (2, 54, 0), some (2, 8, 0), some (0, 0, a2 + 1)] [] (ab_ups σ 8 (fw_c a2).toNat (fw_c (σ 54 (fw_c a2).toNat)))))))) : G 2 [some (2, 54, 0), some (2, 8, 0), some (0, 0, a2)] [] σ := fw_on hG [2] 200 h
abbrev fk_cp_55_9 : List fw_CR := []
abbrev st_cp_55_9 : fw_K → fw_KR → fw_K := fw_st vwCl nn_sh nn_kd fw_kv fw_wc (nn_KI1.map (fun x => x.1)) (nn_KJ1.map (fun x => x.1)) (nn_PF1.map (fun x => x.1)) (nn_PS1.map (fun x => x.1)) fk_cp_55_9 0 nn_dt50 3 4
theorem fs_cp_55_9_0 {G : fw_K} {R : fw_KR} (hG : fw_cls st_cp_55_9 R G) {σ : ab_SG} (h : G 2 [some (2, 55, 0), some (2, 9, 0), some (0, 0, 0)] [] σ) : G 0 [some (2, 55, 0), some (2, 9, 0), none] [] σ := fw_on hG [2] 200 h
theorem fs_cp_55_9_2 {G : fw_K} {R : fw_KR} (hG : fw_cls st_cp_55_9 R G) {a2 : Int} {σ : ab_SG} (h : (fw_c ((45 : Nat) : Int) ≤ fw_c a2 → R none σ) ∧ (fw_c a2 < fw_c ((45 : Nat) : Int) → (fw_c ((45 : Nat) : Int) ≤ fw_c a2 → R none σ) ∧ (fw_c a2 < fw_c ((45 : Nat) : Int) → (0 ≤ fw_c a2 ∧ fw_c a2 < ((45 : Nat) : Int)) ∧ ((0 ≤ fw_c a2 ∧ fw_c a2 < ((45 : Nat) : Int)) ∧ True ∧ (G 2 [some (2, 55, 0), some (2, 9, 0), some (0, 0, a2 + 1)] [] (ab_ups σ 9 (fw_c a2).toNat (fw_c (σ 55 (fw_c a2).toNat)))))))) : G 2 [some (2, 55, 0), some (2, 9, 0), some (0, 0, a2)] [] σ := fw_on hG [2] 200 h
abbrev fk_cp_56_10 : List fw_CR := []
abbrev st_cp_56_10 : fw_K → fw_KR → fw_K := fw_st vwCl nn_sh nn_kd fw_kv fw_wc (nn_KI1.map (fun x => x.1)) (nn_KJ1.map (fun x => x.1)) (nn_PF1.map (fun x => x.1)) (nn_PS1.map (fun x => x.1)) fk_cp_56_10 0 nn_dt50 3 4
theorem fs_cp_56_10_0 {G : fw_K} {R : fw_KR} (hG : fw_cls st_cp_56_10 R G) {σ : ab_SG} (h : G 2 [some (2, 56, 0), some (2, 10, 0), some (0, 0, 0)] [] σ) : G 0 [some (2, 56, 0), some (2, 10, 0), none] [] σ := fw_on hG [2] 200 h
theorem fs_cp_56_10_2 {G : fw_K} {R : fw_KR} (hG : fw_cls st_cp_56_10 R G) {a2 : Int} {σ : ab_SG} (h : (fw_c ((5 : Nat) : Int) ≤ fw_c a2 → R none σ) ∧ (fw_c a2 < fw_c ((5 : Nat) : Int) → (fw_c ((5 : Nat) : Int) ≤ fw_c a2 → R none σ) ∧ (fw_c a2 < fw_c ((5 : Nat) : Int) → (0 ≤ fw_c a2 ∧ fw_c a2 < ((5 : Nat) : Int)) ∧ ((0 ≤ fw_c a2 ∧ fw_c a2 < ((5 : Nat) : Int)) ∧ True ∧ (G 2 [some (2, 56, 0), some (2, 10, 0), some (0, 0, a2 + 1)] [] (ab_ups σ 10 (fw_c a2).toNat (fw_c (σ 56 (fw_c a2).toNat)))))))) : G 2 [some (2, 56, 0), some (2, 10, 0), some (0, 0, a2)] [] σ := fw_on hG [2] 200 h
abbrev fk_cp_61_15 : List fw_CR := []
abbrev st_cp_61_15 : fw_K → fw_KR → fw_K := fw_st vwCl nn_sh nn_kd fw_kv fw_wc (nn_KI1.map (fun x => x.1)) (nn_KJ1.map (fun x => x.1)) (nn_PF1.map (fun x => x.1)) (nn_PS1.map (fun x => x.1)) fk_cp_61_15 0 nn_dt50 3 4
theorem fs_cp_61_15_0 {G : fw_K} {R : fw_KR} (hG : fw_cls st_cp_61_15 R G) {σ : ab_SG} (h : G 2 [some (2, 61, 0), some (2, 15, 0), some (0, 0, 0)] [] σ) : G 0 [some (2, 61, 0), some (2, 15, 0), none] [] σ := fw_on hG [2] 200 h
theorem fs_cp_61_15_2 {G : fw_K} {R : fw_KR} (hG : fw_cls st_cp_61_15 R G) {a2 : Int} {σ : ab_SG} (h : (fw_c ((64 : Nat) : Int) ≤ fw_c a2 → R none σ) ∧ (fw_c a2 < fw_c ((64 : Nat) : Int) → (fw_c ((64 : Nat) : Int) ≤ fw_c a2 → R none σ) ∧ (fw_c a2 < fw_c ((64 : Nat) : Int) → (0 ≤ fw_c a2 ∧ fw_c a2 < ((64 : Nat) : Int)) ∧ ((0 ≤ fw_c a2 ∧ fw_c a2 < ((64 : Nat) : Int)) ∧ True ∧ (G 2 [some (2, 61, 0), some (2, 15, 0), some (0, 0, a2 + 1)] [] (ab_ups σ 15 (fw_c a2).toNat (fw_c (σ 61 (fw_c a2).toNat)))))))) : G 2 [some (2, 61, 0), some (2, 15, 0), some (0, 0, a2)] [] σ := fw_on hG [2] 200 h
abbrev fk_cp_62_16 : List fw_CR := []
abbrev st_cp_62_16 : fw_K → fw_KR → fw_K := fw_st vwCl nn_sh nn_kd fw_kv fw_wc (nn_KI1.map (fun x => x.1)) (nn_KJ1.map (fun x => x.1)) (nn_PF1.map (fun x => x.1)) (nn_PS1.map (fun x => x.1)) fk_cp_62_16 0 nn_dt50 3 4
theorem fs_cp_62_16_0 {G : fw_K} {R : fw_KR} (hG : fw_cls st_cp_62_16 R G) {σ : ab_SG} (h : G 2 [some (2, 62, 0), some (2, 16, 0), some (0, 0, 0)] [] σ) : G 0 [some (2, 62, 0), some (2, 16, 0), none] [] σ := fw_on hG [2] 200 h
theorem fs_cp_62_16_2 {G : fw_K} {R : fw_KR} (hG : fw_cls st_cp_62_16 R G) {a2 : Int} {σ : ab_SG} (h : (fw_c ((64 : Nat) : Int) ≤ fw_c a2 → R none σ) ∧ (fw_c a2 < fw_c ((64 : Nat) : Int) → (fw_c ((64 : Nat) : Int) ≤ fw_c a2 → R none σ) ∧ (fw_c a2 < fw_c ((64 : Nat) : Int) → (0 ≤ fw_c a2 ∧ fw_c a2 < ((64 : Nat) : Int)) ∧ ((0 ≤ fw_c a2 ∧ fw_c a2 < ((64 : Nat) : Int)) ∧ True ∧ (G 2 [some (2, 62, 0), some (2, 16, 0), some (0, 0, a2 + 1)] [] (ab_ups σ 16 (fw_c a2).toNat (fw_c (σ 62 (fw_c a2).toNat)))))))) : G 2 [some (2, 62, 0), some (2, 16, 0), some (0, 0, a2)] [] σ := fw_on hG [2] 200 h
abbrev fk_cp_4_19 : List fw_CR := []
abbrev st_cp_4_19 : fw_K → fw_KR → fw_K := fw_st vwCl nn_sh nn_kd fw_kv fw_wc (nn_KI1.map (fun x => x.1)) (nn_KJ1.map (fun x => x.1)) (nn_PF1.map (fun x => x.1)) (nn_PS1.map (fun x => x.1)) fk_cp_4_19 0 nn_dt50 3 4
theorem fs_cp_4_19_0 {G : fw_K} {R : fw_KR} (hG : fw_cls st_cp_4_19 R G) {σ : ab_SG} (h : G 2 [some (2, 4, 0), some (2, 19, 0), some (0, 0, 0)] [] σ) : G 0 [some (2, 4, 0), some (2, 19, 0), none] [] σ := fw_on hG [2] 200 h
theorem fs_cp_4_19_2 {G : fw_K} {R : fw_KR} (hG : fw_cls st_cp_4_19 R G) {a2 : Int} {σ : ab_SG} (h : (fw_c ((81 : Nat) : Int) ≤ fw_c a2 → R none σ) ∧ (fw_c a2 < fw_c ((81 : Nat) : Int) → (fw_c ((81 : Nat) : Int) ≤ fw_c a2 → R none σ) ∧ (fw_c a2 < fw_c ((81 : Nat) : Int) → (0 ≤ fw_c a2 ∧ fw_c a2 < ((81 : Nat) : Int)) ∧ ((0 ≤ fw_c a2 ∧ fw_c a2 < ((81 : Nat) : Int)) ∧ True ∧ (G 2 [some (2, 4, 0), some (2, 19, 0), some (0, 0, a2 + 1)] [] (ab_ups σ 19 (fw_c a2).toNat (fw_c (σ 4 (fw_c a2).toNat)))))))) : G 2 [some (2, 4, 0), some (2, 19, 0), some (0, 0, a2)] [] σ := fw_on hG [2] 200 h
abbrev fk_cp_5_20 : List fw_CR := []
abbrev st_cp_5_20 : fw_K → fw_KR → fw_K := fw_st vwCl nn_sh nn_kd fw_kv fw_wc (nn_KI1.map (fun x => x.1)) (nn_KJ1.map (fun x => x.1)) (nn_PF1.map (fun x => x.1)) (nn_PS1.map (fun x => x.1)) fk_cp_5_20 0 nn_dt50 3 4
theorem fs_cp_5_20_0 {G : fw_K} {R : fw_KR} (hG : fw_cls st_cp_5_20 R G) {σ : ab_SG} (h : G 2 [some (2, 5, 0), some (2, 20, 0), some (0, 0, 0)] [] σ) : G 0 [some (2, 5, 0), some (2, 20, 0), none] [] σ := fw_on hG [2] 200 h
theorem fs_cp_5_20_2 {G : fw_K} {R : fw_KR} (hG : fw_cls st_cp_5_20 R G) {a2 : Int} {σ : ab_SG} (h : (fw_c ((81 : Nat) : Int) ≤ fw_c a2 → R none σ) ∧ (fw_c a2 < fw_c ((81 : Nat) : Int) → (fw_c ((81 : Nat) : Int) ≤ fw_c a2 → R none σ) ∧ (fw_c a2 < fw_c ((81 : Nat) : Int) → (0 ≤ fw_c a2 ∧ fw_c a2 < ((81 : Nat) : Int)) ∧ ((0 ≤ fw_c a2 ∧ fw_c a2 < ((81 : Nat) : Int)) ∧ True ∧ (G 2 [some (2, 5, 0), some (2, 20, 0), some (0, 0, a2 + 1)] [] (ab_ups σ 20 (fw_c a2).toNat (fw_c (σ 5 (fw_c a2).toNat)))))))) : G 2 [some (2, 5, 0), some (2, 20, 0), some (0, 0, a2)] [] σ := fw_on hG [2] 200 h
abbrev fk_cp_6_21 : List fw_CR := []
abbrev st_cp_6_21 : fw_K → fw_KR → fw_K := fw_st vwCl nn_sh nn_kd fw_kv fw_wc (nn_KI1.map (fun x => x.1)) (nn_KJ1.map (fun x => x.1)) (nn_PF1.map (fun x => x.1)) (nn_PS1.map (fun x => x.1)) fk_cp_6_21 0 nn_dt50 3 4
theorem fs_cp_6_21_0 {G : fw_K} {R : fw_KR} (hG : fw_cls st_cp_6_21 R G) {σ : ab_SG} (h : G 2 [some (2, 6, 0), some (2, 21, 0), some (0, 0, 0)] [] σ) : G 0 [some (2, 6, 0), some (2, 21, 0), none] [] σ := fw_on hG [2] 200 h
theorem fs_cp_6_21_2 {G : fw_K} {R : fw_KR} (hG : fw_cls st_cp_6_21 R G) {a2 : Int} {σ : ab_SG} (h : (fw_c ((9 : Nat) : Int) ≤ fw_c a2 → R none σ) ∧ (fw_c a2 < fw_c ((9 : Nat) : Int) → (fw_c ((9 : Nat) : Int) ≤ fw_c a2 → R none σ) ∧ (fw_c a2 < fw_c ((9 : Nat) : Int) → (0 ≤ fw_c a2 ∧ fw_c a2 < ((9 : Nat) : Int)) ∧ ((0 ≤ fw_c a2 ∧ fw_c a2 < ((9 : Nat) : Int)) ∧ True ∧ (G 2 [some (2, 6, 0), some (2, 21, 0), some (0, 0, a2 + 1)] [] (ab_ups σ 21 (fw_c a2).toNat (fw_c (σ 6 (fw_c a2).toNat)))))))) : G 2 [some (2, 6, 0), some (2, 21, 0), some (0, 0, a2)] [] σ := fw_on hG [2] 200 h
abbrev fk_cp_7_22 : List fw_CR := []
abbrev st_cp_7_22 : fw_K → fw_KR → fw_K := fw_st vwCl nn_sh nn_kd fw_kv fw_wc (nn_KI1.map (fun x => x.1)) (nn_KJ1.map (fun x => x.1)) (nn_PF1.map (fun x => x.1)) (nn_PS1.map (fun x => x.1)) fk_cp_7_22 0 nn_dt50 3 4
theorem fs_cp_7_22_0 {G : fw_K} {R : fw_KR} (hG : fw_cls st_cp_7_22 R G) {σ : ab_SG} (h : G 2 [some (2, 7, 0), some (2, 22, 0), some (0, 0, 0)] [] σ) : G 0 [some (2, 7, 0), some (2, 22, 0), none] [] σ := fw_on hG [2] 200 h
theorem fs_cp_7_22_2 {G : fw_K} {R : fw_KR} (hG : fw_cls st_cp_7_22 R G) {a2 : Int} {σ : ab_SG} (h : (fw_c ((324 : Nat) : Int) ≤ fw_c a2 → R none σ) ∧ (fw_c a2 < fw_c ((324 : Nat) : Int) → (fw_c ((324 : Nat) : Int) ≤ fw_c a2 → R none σ) ∧ (fw_c a2 < fw_c ((324 : Nat) : Int) → (0 ≤ fw_c a2 ∧ fw_c a2 < ((324 : Nat) : Int)) ∧ ((0 ≤ fw_c a2 ∧ fw_c a2 < ((324 : Nat) : Int)) ∧ True ∧ (G 2 [some (2, 7, 0), some (2, 22, 0), some (0, 0, a2 + 1)] [] (ab_ups σ 22 (fw_c a2).toNat (fw_c (σ 7 (fw_c a2).toNat)))))))) : G 2 [some (2, 7, 0), some (2, 22, 0), some (0, 0, a2)] [] σ := fw_on hG [2] 200 h
abbrev fk_cp_8_23 : List fw_CR := []
abbrev st_cp_8_23 : fw_K → fw_KR → fw_K := fw_st vwCl nn_sh nn_kd fw_kv fw_wc (nn_KI1.map (fun x => x.1)) (nn_KJ1.map (fun x => x.1)) (nn_PF1.map (fun x => x.1)) (nn_PS1.map (fun x => x.1)) fk_cp_8_23 0 nn_dt50 3 4
theorem fs_cp_8_23_0 {G : fw_K} {R : fw_KR} (hG : fw_cls st_cp_8_23 R G) {σ : ab_SG} (h : G 2 [some (2, 8, 0), some (2, 23, 0), some (0, 0, 0)] [] σ) : G 0 [some (2, 8, 0), some (2, 23, 0), none] [] σ := fw_on hG [2] 200 h
theorem fs_cp_8_23_2 {G : fw_K} {R : fw_KR} (hG : fw_cls st_cp_8_23 R G) {a2 : Int} {σ : ab_SG} (h : (fw_c ((6 : Nat) : Int) ≤ fw_c a2 → R none σ) ∧ (fw_c a2 < fw_c ((6 : Nat) : Int) → (fw_c ((6 : Nat) : Int) ≤ fw_c a2 → R none σ) ∧ (fw_c a2 < fw_c ((6 : Nat) : Int) → (0 ≤ fw_c a2 ∧ fw_c a2 < ((6 : Nat) : Int)) ∧ ((0 ≤ fw_c a2 ∧ fw_c a2 < ((6 : Nat) : Int)) ∧ True ∧ (G 2 [some (2, 8, 0), some (2, 23, 0), some (0, 0, a2 + 1)] [] (ab_ups σ 23 (fw_c a2).toNat (fw_c (σ 8 (fw_c a2).toNat)))))))) : G 2 [some (2, 8, 0), some (2, 23, 0), some (0, 0, a2)] [] σ := fw_on hG [2] 200 h
abbrev fk_cp_9_24 : List fw_CR := []
abbrev st_cp_9_24 : fw_K → fw_KR → fw_K := fw_st vwCl nn_sh nn_kd fw_kv fw_wc (nn_KI1.map (fun x => x.1)) (nn_KJ1.map (fun x => x.1)) (nn_PF1.map (fun x => x.1)) (nn_PS1.map (fun x => x.1)) fk_cp_9_24 0 nn_dt50 3 4
theorem fs_cp_9_24_0 {G : fw_K} {R : fw_KR} (hG : fw_cls st_cp_9_24 R G) {σ : ab_SG} (h : G 2 [some (2, 9, 0), some (2, 24, 0), some (0, 0, 0)] [] σ) : G 0 [some (2, 9, 0), some (2, 24, 0), none] [] σ := fw_on hG [2] 200 h
theorem fs_cp_9_24_2 {G : fw_K} {R : fw_KR} (hG : fw_cls st_cp_9_24 R G) {a2 : Int} {σ : ab_SG} (h : (fw_c ((45 : Nat) : Int) ≤ fw_c a2 → R none σ) ∧ (fw_c a2 < fw_c ((45 : Nat) : Int) → (fw_c ((45 : Nat) : Int) ≤ fw_c a2 → R none σ) ∧ (fw_c a2 < fw_c ((45 : Nat) : Int) → (0 ≤ fw_c a2 ∧ fw_c a2 < ((45 : Nat) : Int)) ∧ ((0 ≤ fw_c a2 ∧ fw_c a2 < ((45 : Nat) : Int)) ∧ True ∧ (G 2 [some (2, 9, 0), some (2, 24, 0), some (0, 0, a2 + 1)] [] (ab_ups σ 24 (fw_c a2).toNat (fw_c (σ 9 (fw_c a2).toNat)))))))) : G 2 [some (2, 9, 0), some (2, 24, 0), some (0, 0, a2)] [] σ := fw_on hG [2] 200 h
abbrev fk_cp_10_25 : List fw_CR := []
abbrev st_cp_10_25 : fw_K → fw_KR → fw_K := fw_st vwCl nn_sh nn_kd fw_kv fw_wc (nn_KI1.map (fun x => x.1)) (nn_KJ1.map (fun x => x.1)) (nn_PF1.map (fun x => x.1)) (nn_PS1.map (fun x => x.1)) fk_cp_10_25 0 nn_dt50 3 4
theorem fs_cp_10_25_0 {G : fw_K} {R : fw_KR} (hG : fw_cls st_cp_10_25 R G) {σ : ab_SG} (h : G 2 [some (2, 10, 0), some (2, 25, 0), some (0, 0, 0)] [] σ) : G 0 [some (2, 10, 0), some (2, 25, 0), none] [] σ := fw_on hG [2] 200 h
theorem fs_cp_10_25_2 {G : fw_K} {R : fw_KR} (hG : fw_cls st_cp_10_25 R G) {a2 : Int} {σ : ab_SG} (h : (fw_c ((5 : Nat) : Int) ≤ fw_c a2 → R none σ) ∧ (fw_c a2 < fw_c ((5 : Nat) : Int) → (fw_c ((5 : Nat) : Int) ≤ fw_c a2 → R none σ) ∧ (fw_c a2 < fw_c ((5 : Nat) : Int) → (0 ≤ fw_c a2 ∧ fw_c a2 < ((5 : Nat) : Int)) ∧ ((0 ≤ fw_c a2 ∧ fw_c a2 < ((5 : Nat) : Int)) ∧ True ∧ (G 2 [some (2, 10, 0), some (2, 25, 0), some (0, 0, a2 + 1)] [] (ab_ups σ 25 (fw_c a2).toNat (fw_c (σ 10 (fw_c a2).toNat)))))))) : G 2 [some (2, 10, 0), some (2, 25, 0), some (0, 0, a2)] [] σ := fw_on hG [2] 200 h
abbrev fk_cp_15_30 : List fw_CR := []
abbrev st_cp_15_30 : fw_K → fw_KR → fw_K := fw_st vwCl nn_sh nn_kd fw_kv fw_wc (nn_KI1.map (fun x => x.1)) (nn_KJ1.map (fun x => x.1)) (nn_PF1.map (fun x => x.1)) (nn_PS1.map (fun x => x.1)) fk_cp_15_30 0 nn_dt50 3 4
theorem fs_cp_15_30_0 {G : fw_K} {R : fw_KR} (hG : fw_cls st_cp_15_30 R G) {σ : ab_SG} (h : G 2 [some (2, 15, 0), some (2, 30, 0), some (0, 0, 0)] [] σ) : G 0 [some (2, 15, 0), some (2, 30, 0), none] [] σ := fw_on hG [2] 200 h
theorem fs_cp_15_30_2 {G : fw_K} {R : fw_KR} (hG : fw_cls st_cp_15_30 R G) {a2 : Int} {σ : ab_SG} (h : (fw_c ((64 : Nat) : Int) ≤ fw_c a2 → R none σ) ∧ (fw_c a2 < fw_c ((64 : Nat) : Int) → (fw_c ((64 : Nat) : Int) ≤ fw_c a2 → R none σ) ∧ (fw_c a2 < fw_c ((64 : Nat) : Int) → (0 ≤ fw_c a2 ∧ fw_c a2 < ((64 : Nat) : Int)) ∧ ((0 ≤ fw_c a2 ∧ fw_c a2 < ((64 : Nat) : Int)) ∧ True ∧ (G 2 [some (2, 15, 0), some (2, 30, 0), some (0, 0, a2 + 1)] [] (ab_ups σ 30 (fw_c a2).toNat (fw_c (σ 15 (fw_c a2).toNat)))))))) : G 2 [some (2, 15, 0), some (2, 30, 0), some (0, 0, a2)] [] σ := fw_on hG [2] 200 h
abbrev fk_cp_16_31 : List fw_CR := []
abbrev st_cp_16_31 : fw_K → fw_KR → fw_K := fw_st vwCl nn_sh nn_kd fw_kv fw_wc (nn_KI1.map (fun x => x.1)) (nn_KJ1.map (fun x => x.1)) (nn_PF1.map (fun x => x.1)) (nn_PS1.map (fun x => x.1)) fk_cp_16_31 0 nn_dt50 3 4
theorem fs_cp_16_31_0 {G : fw_K} {R : fw_KR} (hG : fw_cls st_cp_16_31 R G) {σ : ab_SG} (h : G 2 [some (2, 16, 0), some (2, 31, 0), some (0, 0, 0)] [] σ) : G 0 [some (2, 16, 0), some (2, 31, 0), none] [] σ := fw_on hG [2] 200 h
theorem fs_cp_16_31_2 {G : fw_K} {R : fw_KR} (hG : fw_cls st_cp_16_31 R G) {a2 : Int} {σ : ab_SG} (h : (fw_c ((64 : Nat) : Int) ≤ fw_c a2 → R none σ) ∧ (fw_c a2 < fw_c ((64 : Nat) : Int) → (fw_c ((64 : Nat) : Int) ≤ fw_c a2 → R none σ) ∧ (fw_c a2 < fw_c ((64 : Nat) : Int) → (0 ≤ fw_c a2 ∧ fw_c a2 < ((64 : Nat) : Int)) ∧ ((0 ≤ fw_c a2 ∧ fw_c a2 < ((64 : Nat) : Int)) ∧ True ∧ (G 2 [some (2, 16, 0), some (2, 31, 0), some (0, 0, a2 + 1)] [] (ab_ups σ 31 (fw_c a2).toNat (fw_c (σ 16 (fw_c a2).toNat)))))))) : G 2 [some (2, 16, 0), some (2, 31, 0), some (0, 0, a2)] [] σ := fw_on hG [2] 200 h
abbrev fk_cp_4_34 : List fw_CR := []
abbrev st_cp_4_34 : fw_K → fw_KR → fw_K := fw_st vwCl nn_sh nn_kd fw_kv fw_wc (nn_KI1.map (fun x => x.1)) (nn_KJ1.map (fun x => x.1)) (nn_PF1.map (fun x => x.1)) (nn_PS1.map (fun x => x.1)) fk_cp_4_34 0 nn_dt50 3 4
theorem fs_cp_4_34_0 {G : fw_K} {R : fw_KR} (hG : fw_cls st_cp_4_34 R G) {σ : ab_SG} (h : G 2 [some (2, 4, 0), some (2, 34, 0), some (0, 0, 0)] [] σ) : G 0 [some (2, 4, 0), some (2, 34, 0), none] [] σ := fw_on hG [2] 200 h
theorem fs_cp_4_34_2 {G : fw_K} {R : fw_KR} (hG : fw_cls st_cp_4_34 R G) {a2 : Int} {σ : ab_SG} (h : (fw_c ((81 : Nat) : Int) ≤ fw_c a2 → R none σ) ∧ (fw_c a2 < fw_c ((81 : Nat) : Int) → (fw_c ((81 : Nat) : Int) ≤ fw_c a2 → R none σ) ∧ (fw_c a2 < fw_c ((81 : Nat) : Int) → (0 ≤ fw_c a2 ∧ fw_c a2 < ((81 : Nat) : Int)) ∧ ((0 ≤ fw_c a2 ∧ fw_c a2 < ((81 : Nat) : Int)) ∧ True ∧ (G 2 [some (2, 4, 0), some (2, 34, 0), some (0, 0, a2 + 1)] [] (ab_ups σ 34 (fw_c a2).toNat (fw_c (σ 4 (fw_c a2).toNat)))))))) : G 2 [some (2, 4, 0), some (2, 34, 0), some (0, 0, a2)] [] σ := fw_on hG [2] 200 h
abbrev fk_cp_5_35 : List fw_CR := []
abbrev st_cp_5_35 : fw_K → fw_KR → fw_K := fw_st vwCl nn_sh nn_kd fw_kv fw_wc (nn_KI1.map (fun x => x.1)) (nn_KJ1.map (fun x => x.1)) (nn_PF1.map (fun x => x.1)) (nn_PS1.map (fun x => x.1)) fk_cp_5_35 0 nn_dt50 3 4
theorem fs_cp_5_35_0 {G : fw_K} {R : fw_KR} (hG : fw_cls st_cp_5_35 R G) {σ : ab_SG} (h : G 2 [some (2, 5, 0), some (2, 35, 0), some (0, 0, 0)] [] σ) : G 0 [some (2, 5, 0), some (2, 35, 0), none] [] σ := fw_on hG [2] 200 h
theorem fs_cp_5_35_2 {G : fw_K} {R : fw_KR} (hG : fw_cls st_cp_5_35 R G) {a2 : Int} {σ : ab_SG} (h : (fw_c ((81 : Nat) : Int) ≤ fw_c a2 → R none σ) ∧ (fw_c a2 < fw_c ((81 : Nat) : Int) → (fw_c ((81 : Nat) : Int) ≤ fw_c a2 → R none σ) ∧ (fw_c a2 < fw_c ((81 : Nat) : Int) → (0 ≤ fw_c a2 ∧ fw_c a2 < ((81 : Nat) : Int)) ∧ ((0 ≤ fw_c a2 ∧ fw_c a2 < ((81 : Nat) : Int)) ∧ True ∧ (G 2 [some (2, 5, 0), some (2, 35, 0), some (0, 0, a2 + 1)] [] (ab_ups σ 35 (fw_c a2).toNat (fw_c (σ 5 (fw_c a2).toNat)))))))) : G 2 [some (2, 5, 0), some (2, 35, 0), some (0, 0, a2)] [] σ := fw_on hG [2] 200 h
abbrev fk_cp_6_36 : List fw_CR := []
abbrev st_cp_6_36 : fw_K → fw_KR → fw_K := fw_st vwCl nn_sh nn_kd fw_kv fw_wc (nn_KI1.map (fun x => x.1)) (nn_KJ1.map (fun x => x.1)) (nn_PF1.map (fun x => x.1)) (nn_PS1.map (fun x => x.1)) fk_cp_6_36 0 nn_dt50 3 4
theorem fs_cp_6_36_0 {G : fw_K} {R : fw_KR} (hG : fw_cls st_cp_6_36 R G) {σ : ab_SG} (h : G 2 [some (2, 6, 0), some (2, 36, 0), some (0, 0, 0)] [] σ) : G 0 [some (2, 6, 0), some (2, 36, 0), none] [] σ := fw_on hG [2] 200 h
theorem fs_cp_6_36_2 {G : fw_K} {R : fw_KR} (hG : fw_cls st_cp_6_36 R G) {a2 : Int} {σ : ab_SG} (h : (fw_c ((9 : Nat) : Int) ≤ fw_c a2 → R none σ) ∧ (fw_c a2 < fw_c ((9 : Nat) : Int) → (fw_c ((9 : Nat) : Int) ≤ fw_c a2 → R none σ) ∧ (fw_c a2 < fw_c ((9 : Nat) : Int) → (0 ≤ fw_c a2 ∧ fw_c a2 < ((9 : Nat) : Int)) ∧ ((0 ≤ fw_c a2 ∧ fw_c a2 < ((9 : Nat) : Int)) ∧ True ∧ (G 2 [some (2, 6, 0), some (2, 36, 0), some (0, 0, a2 + 1)] [] (ab_ups σ 36 (fw_c a2).toNat (fw_c (σ 6 (fw_c a2).toNat)))))))) : G 2 [some (2, 6, 0), some (2, 36, 0), some (0, 0, a2)] [] σ := fw_on hG [2] 200 h
abbrev fk_cp_7_37 : List fw_CR := []
abbrev st_cp_7_37 : fw_K → fw_KR → fw_K := fw_st vwCl nn_sh nn_kd fw_kv fw_wc (nn_KI1.map (fun x => x.1)) (nn_KJ1.map (fun x => x.1)) (nn_PF1.map (fun x => x.1)) (nn_PS1.map (fun x => x.1)) fk_cp_7_37 0 nn_dt50 3 4
theorem fs_cp_7_37_0 {G : fw_K} {R : fw_KR} (hG : fw_cls st_cp_7_37 R G) {σ : ab_SG} (h : G 2 [some (2, 7, 0), some (2, 37, 0), some (0, 0, 0)] [] σ) : G 0 [some (2, 7, 0), some (2, 37, 0), none] [] σ := fw_on hG [2] 200 h
theorem fs_cp_7_37_2 {G : fw_K} {R : fw_KR} (hG : fw_cls st_cp_7_37 R G) {a2 : Int} {σ : ab_SG} (h : (fw_c ((324 : Nat) : Int) ≤ fw_c a2 → R none σ) ∧ (fw_c a2 < fw_c ((324 : Nat) : Int) → (fw_c ((324 : Nat) : Int) ≤ fw_c a2 → R none σ) ∧ (fw_c a2 < fw_c ((324 : Nat) : Int) → (0 ≤ fw_c a2 ∧ fw_c a2 < ((324 : Nat) : Int)) ∧ ((0 ≤ fw_c a2 ∧ fw_c a2 < ((324 : Nat) : Int)) ∧ True ∧ (G 2 [some (2, 7, 0), some (2, 37, 0), some (0, 0, a2 + 1)] [] (ab_ups σ 37 (fw_c a2).toNat (fw_c (σ 7 (fw_c a2).toNat)))))))) : G 2 [some (2, 7, 0), some (2, 37, 0), some (0, 0, a2)] [] σ := fw_on hG [2] 200 h
abbrev fk_cp_8_38 : List fw_CR := []
abbrev st_cp_8_38 : fw_K → fw_KR → fw_K := fw_st vwCl nn_sh nn_kd fw_kv fw_wc (nn_KI1.map (fun x => x.1)) (nn_KJ1.map (fun x => x.1)) (nn_PF1.map (fun x => x.1)) (nn_PS1.map (fun x => x.1)) fk_cp_8_38 0 nn_dt50 3 4
theorem fs_cp_8_38_0 {G : fw_K} {R : fw_KR} (hG : fw_cls st_cp_8_38 R G) {σ : ab_SG} (h : G 2 [some (2, 8, 0), some (2, 38, 0), some (0, 0, 0)] [] σ) : G 0 [some (2, 8, 0), some (2, 38, 0), none] [] σ := fw_on hG [2] 200 h
theorem fs_cp_8_38_2 {G : fw_K} {R : fw_KR} (hG : fw_cls st_cp_8_38 R G) {a2 : Int} {σ : ab_SG} (h : (fw_c ((6 : Nat) : Int) ≤ fw_c a2 → R none σ) ∧ (fw_c a2 < fw_c ((6 : Nat) : Int) → (fw_c ((6 : Nat) : Int) ≤ fw_c a2 → R none σ) ∧ (fw_c a2 < fw_c ((6 : Nat) : Int) → (0 ≤ fw_c a2 ∧ fw_c a2 < ((6 : Nat) : Int)) ∧ ((0 ≤ fw_c a2 ∧ fw_c a2 < ((6 : Nat) : Int)) ∧ True ∧ (G 2 [some (2, 8, 0), some (2, 38, 0), some (0, 0, a2 + 1)] [] (ab_ups σ 38 (fw_c a2).toNat (fw_c (σ 8 (fw_c a2).toNat)))))))) : G 2 [some (2, 8, 0), some (2, 38, 0), some (0, 0, a2)] [] σ := fw_on hG [2] 200 h
abbrev fk_cp_9_39 : List fw_CR := []
abbrev st_cp_9_39 : fw_K → fw_KR → fw_K := fw_st vwCl nn_sh nn_kd fw_kv fw_wc (nn_KI1.map (fun x => x.1)) (nn_KJ1.map (fun x => x.1)) (nn_PF1.map (fun x => x.1)) (nn_PS1.map (fun x => x.1)) fk_cp_9_39 0 nn_dt50 3 4
theorem fs_cp_9_39_0 {G : fw_K} {R : fw_KR} (hG : fw_cls st_cp_9_39 R G) {σ : ab_SG} (h : G 2 [some (2, 9, 0), some (2, 39, 0), some (0, 0, 0)] [] σ) : G 0 [some (2, 9, 0), some (2, 39, 0), none] [] σ := fw_on hG [2] 200 h
theorem fs_cp_9_39_2 {G : fw_K} {R : fw_KR} (hG : fw_cls st_cp_9_39 R G) {a2 : Int} {σ : ab_SG} (h : (fw_c ((45 : Nat) : Int) ≤ fw_c a2 → R none σ) ∧ (fw_c a2 < fw_c ((45 : Nat) : Int) → (fw_c ((45 : Nat) : Int) ≤ fw_c a2 → R none σ) ∧ (fw_c a2 < fw_c ((45 : Nat) : Int) → (0 ≤ fw_c a2 ∧ fw_c a2 < ((45 : Nat) : Int)) ∧ ((0 ≤ fw_c a2 ∧ fw_c a2 < ((45 : Nat) : Int)) ∧ True ∧ (G 2 [some (2, 9, 0), some (2, 39, 0), some (0, 0, a2 + 1)] [] (ab_ups σ 39 (fw_c a2).toNat (fw_c (σ 9 (fw_c a2).toNat)))))))) : G 2 [some (2, 9, 0), some (2, 39, 0), some (0, 0, a2)] [] σ := fw_on hG [2] 200 h
abbrev fk_cp_10_40 : List fw_CR := []
abbrev st_cp_10_40 : fw_K → fw_KR → fw_K := fw_st vwCl nn_sh nn_kd fw_kv fw_wc (nn_KI1.map (fun x => x.1)) (nn_KJ1.map (fun x => x.1)) (nn_PF1.map (fun x => x.1)) (nn_PS1.map (fun x => x.1)) fk_cp_10_40 0 nn_dt50 3 4
theorem fs_cp_10_40_0 {G : fw_K} {R : fw_KR} (hG : fw_cls st_cp_10_40 R G) {σ : ab_SG} (h : G 2 [some (2, 10, 0), some (2, 40, 0), some (0, 0, 0)] [] σ) : G 0 [some (2, 10, 0), some (2, 40, 0), none] [] σ := fw_on hG [2] 200 h
theorem fs_cp_10_40_2 {G : fw_K} {R : fw_KR} (hG : fw_cls st_cp_10_40 R G) {a2 : Int} {σ : ab_SG} (h : (fw_c ((5 : Nat) : Int) ≤ fw_c a2 → R none σ) ∧ (fw_c a2 < fw_c ((5 : Nat) : Int) → (fw_c ((5 : Nat) : Int) ≤ fw_c a2 → R none σ) ∧ (fw_c a2 < fw_c ((5 : Nat) : Int) → (0 ≤ fw_c a2 ∧ fw_c a2 < ((5 : Nat) : Int)) ∧ ((0 ≤ fw_c a2 ∧ fw_c a2 < ((5 : Nat) : Int)) ∧ True ∧ (G 2 [some (2, 10, 0), some (2, 40, 0), some (0, 0, a2 + 1)] [] (ab_ups σ 40 (fw_c a2).toNat (fw_c (σ 10 (fw_c a2).toNat)))))))) : G 2 [some (2, 10, 0), some (2, 40, 0), some (0, 0, a2)] [] σ := fw_on hG [2] 200 h
abbrev fk_cp_15_45 : List fw_CR := []
abbrev st_cp_15_45 : fw_K → fw_KR → fw_K := fw_st vwCl nn_sh nn_kd fw_kv fw_wc (nn_KI1.map (fun x => x.1)) (nn_KJ1.map (fun x => x.1)) (nn_PF1.map (fun x => x.1)) (nn_PS1.map (fun x => x.1)) fk_cp_15_45 0 nn_dt50 3 4
theorem fs_cp_15_45_0 {G : fw_K} {R : fw_KR} (hG : fw_cls st_cp_15_45 R G) {σ : ab_SG} (h : G 2 [some (2, 15, 0), some (2, 45, 0), some (0, 0, 0)] [] σ) : G 0 [some (2, 15, 0), some (2, 45, 0), none] [] σ := fw_on hG [2] 200 h
theorem fs_cp_15_45_2 {G : fw_K} {R : fw_KR} (hG : fw_cls st_cp_15_45 R G) {a2 : Int} {σ : ab_SG} (h : (fw_c ((64 : Nat) : Int) ≤ fw_c a2 → R none σ) ∧ (fw_c a2 < fw_c ((64 : Nat) : Int) → (fw_c ((64 : Nat) : Int) ≤ fw_c a2 → R none σ) ∧ (fw_c a2 < fw_c ((64 : Nat) : Int) → (0 ≤ fw_c a2 ∧ fw_c a2 < ((64 : Nat) : Int)) ∧ ((0 ≤ fw_c a2 ∧ fw_c a2 < ((64 : Nat) : Int)) ∧ True ∧ (G 2 [some (2, 15, 0), some (2, 45, 0), some (0, 0, a2 + 1)] [] (ab_ups σ 45 (fw_c a2).toNat (fw_c (σ 15 (fw_c a2).toNat)))))))) : G 2 [some (2, 15, 0), some (2, 45, 0), some (0, 0, a2)] [] σ := fw_on hG [2] 200 h
abbrev fk_cp_16_46 : List fw_CR := []
abbrev st_cp_16_46 : fw_K → fw_KR → fw_K := fw_st vwCl nn_sh nn_kd fw_kv fw_wc (nn_KI1.map (fun x => x.1)) (nn_KJ1.map (fun x => x.1)) (nn_PF1.map (fun x => x.1)) (nn_PS1.map (fun x => x.1)) fk_cp_16_46 0 nn_dt50 3 4
theorem fs_cp_16_46_0 {G : fw_K} {R : fw_KR} (hG : fw_cls st_cp_16_46 R G) {σ : ab_SG} (h : G 2 [some (2, 16, 0), some (2, 46, 0), some (0, 0, 0)] [] σ) : G 0 [some (2, 16, 0), some (2, 46, 0), none] [] σ := fw_on hG [2] 200 h
theorem fs_cp_16_46_2 {G : fw_K} {R : fw_KR} (hG : fw_cls st_cp_16_46 R G) {a2 : Int} {σ : ab_SG} (h : (fw_c ((64 : Nat) : Int) ≤ fw_c a2 → R none σ) ∧ (fw_c a2 < fw_c ((64 : Nat) : Int) → (fw_c ((64 : Nat) : Int) ≤ fw_c a2 → R none σ) ∧ (fw_c a2 < fw_c ((64 : Nat) : Int) → (0 ≤ fw_c a2 ∧ fw_c a2 < ((64 : Nat) : Int)) ∧ ((0 ≤ fw_c a2 ∧ fw_c a2 < ((64 : Nat) : Int)) ∧ True ∧ (G 2 [some (2, 16, 0), some (2, 46, 0), some (0, 0, a2 + 1)] [] (ab_ups σ 46 (fw_c a2).toNat (fw_c (σ 16 (fw_c a2).toNat)))))))) : G 2 [some (2, 16, 0), some (2, 46, 0), some (0, 0, a2)] [] σ := fw_on hG [2] 200 h
abbrev fk_cp_19_4 : List fw_CR := []
abbrev st_cp_19_4 : fw_K → fw_KR → fw_K := fw_st vwCl nn_sh nn_kd fw_kv fw_wc (nn_KI1.map (fun x => x.1)) (nn_KJ1.map (fun x => x.1)) (nn_PF1.map (fun x => x.1)) (nn_PS1.map (fun x => x.1)) fk_cp_19_4 0 nn_dt50 3 4
theorem fs_cp_19_4_0 {G : fw_K} {R : fw_KR} (hG : fw_cls st_cp_19_4 R G) {σ : ab_SG} (h : G 2 [some (2, 19, 0), some (2, 4, 0), some (0, 0, 0)] [] σ) : G 0 [some (2, 19, 0), some (2, 4, 0), none] [] σ := fw_on hG [2] 200 h
theorem fs_cp_19_4_2 {G : fw_K} {R : fw_KR} (hG : fw_cls st_cp_19_4 R G) {a2 : Int} {σ : ab_SG} (h : (fw_c ((81 : Nat) : Int) ≤ fw_c a2 → R none σ) ∧ (fw_c a2 < fw_c ((81 : Nat) : Int) → (fw_c ((81 : Nat) : Int) ≤ fw_c a2 → R none σ) ∧ (fw_c a2 < fw_c ((81 : Nat) : Int) → (0 ≤ fw_c a2 ∧ fw_c a2 < ((81 : Nat) : Int)) ∧ ((0 ≤ fw_c a2 ∧ fw_c a2 < ((81 : Nat) : Int)) ∧ True ∧ (G 2 [some (2, 19, 0), some (2, 4, 0), some (0, 0, a2 + 1)] [] (ab_ups σ 4 (fw_c a2).toNat (fw_c (σ 19 (fw_c a2).toNat)))))))) : G 2 [some (2, 19, 0), some (2, 4, 0), some (0, 0, a2)] [] σ := fw_on hG [2] 200 h
abbrev fk_cp_20_5 : List fw_CR := []
abbrev st_cp_20_5 : fw_K → fw_KR → fw_K := fw_st vwCl nn_sh nn_kd fw_kv fw_wc (nn_KI1.map (fun x => x.1)) (nn_KJ1.map (fun x => x.1)) (nn_PF1.map (fun x => x.1)) (nn_PS1.map (fun x => x.1)) fk_cp_20_5 0 nn_dt50 3 4
theorem fs_cp_20_5_0 {G : fw_K} {R : fw_KR} (hG : fw_cls st_cp_20_5 R G) {σ : ab_SG} (h : G 2 [some (2, 20, 0), some (2, 5, 0), some (0, 0, 0)] [] σ) : G 0 [some (2, 20, 0), some (2, 5, 0), none] [] σ := fw_on hG [2] 200 h
theorem fs_cp_20_5_2 {G : fw_K} {R : fw_KR} (hG : fw_cls st_cp_20_5 R G) {a2 : Int} {σ : ab_SG} (h : (fw_c ((81 : Nat) : Int) ≤ fw_c a2 → R none σ) ∧ (fw_c a2 < fw_c ((81 : Nat) : Int) → (fw_c ((81 : Nat) : Int) ≤ fw_c a2 → R none σ) ∧ (fw_c a2 < fw_c ((81 : Nat) : Int) → (0 ≤ fw_c a2 ∧ fw_c a2 < ((81 : Nat) : Int)) ∧ ((0 ≤ fw_c a2 ∧ fw_c a2 < ((81 : Nat) : Int)) ∧ True ∧ (G 2 [some (2, 20, 0), some (2, 5, 0), some (0, 0, a2 + 1)] [] (ab_ups σ 5 (fw_c a2).toNat (fw_c (σ 20 (fw_c a2).toNat)))))))) : G 2 [some (2, 20, 0), some (2, 5, 0), some (0, 0, a2)] [] σ := fw_on hG [2] 200 h
abbrev fk_cp_21_6 : List fw_CR := []
abbrev st_cp_21_6 : fw_K → fw_KR → fw_K := fw_st vwCl nn_sh nn_kd fw_kv fw_wc (nn_KI1.map (fun x => x.1)) (nn_KJ1.map (fun x => x.1)) (nn_PF1.map (fun x => x.1)) (nn_PS1.map (fun x => x.1)) fk_cp_21_6 0 nn_dt50 3 4
theorem fs_cp_21_6_0 {G : fw_K} {R : fw_KR} (hG : fw_cls st_cp_21_6 R G) {σ : ab_SG} (h : G 2 [some (2, 21, 0), some (2, 6, 0), some (0, 0, 0)] [] σ) : G 0 [some (2, 21, 0), some (2, 6, 0), none] [] σ := fw_on hG [2] 200 h
theorem fs_cp_21_6_2 {G : fw_K} {R : fw_KR} (hG : fw_cls st_cp_21_6 R G) {a2 : Int} {σ : ab_SG} (h : (fw_c ((9 : Nat) : Int) ≤ fw_c a2 → R none σ) ∧ (fw_c a2 < fw_c ((9 : Nat) : Int) → (fw_c ((9 : Nat) : Int) ≤ fw_c a2 → R none σ) ∧ (fw_c a2 < fw_c ((9 : Nat) : Int) → (0 ≤ fw_c a2 ∧ fw_c a2 < ((9 : Nat) : Int)) ∧ ((0 ≤ fw_c a2 ∧ fw_c a2 < ((9 : Nat) : Int)) ∧ True ∧ (G 2 [some (2, 21, 0), some (2, 6, 0), some (0, 0, a2 + 1)] [] (ab_ups σ 6 (fw_c a2).toNat (fw_c (σ 21 (fw_c a2).toNat)))))))) : G 2 [some (2, 21, 0), some (2, 6, 0), some (0, 0, a2)] [] σ := fw_on hG [2] 200 h
abbrev fk_cp_22_7 : List fw_CR := []
abbrev st_cp_22_7 : fw_K → fw_KR → fw_K := fw_st vwCl nn_sh nn_kd fw_kv fw_wc (nn_KI1.map (fun x => x.1)) (nn_KJ1.map (fun x => x.1)) (nn_PF1.map (fun x => x.1)) (nn_PS1.map (fun x => x.1)) fk_cp_22_7 0 nn_dt50 3 4
theorem fs_cp_22_7_0 {G : fw_K} {R : fw_KR} (hG : fw_cls st_cp_22_7 R G) {σ : ab_SG} (h : G 2 [some (2, 22, 0), some (2, 7, 0), some (0, 0, 0)] [] σ) : G 0 [some (2, 22, 0), some (2, 7, 0), none] [] σ := fw_on hG [2] 200 h
theorem fs_cp_22_7_2 {G : fw_K} {R : fw_KR} (hG : fw_cls st_cp_22_7 R G) {a2 : Int} {σ : ab_SG} (h : (fw_c ((324 : Nat) : Int) ≤ fw_c a2 → R none σ) ∧ (fw_c a2 < fw_c ((324 : Nat) : Int) → (fw_c ((324 : Nat) : Int) ≤ fw_c a2 → R none σ) ∧ (fw_c a2 < fw_c ((324 : Nat) : Int) → (0 ≤ fw_c a2 ∧ fw_c a2 < ((324 : Nat) : Int)) ∧ ((0 ≤ fw_c a2 ∧ fw_c a2 < ((324 : Nat) : Int)) ∧ True ∧ (G 2 [some (2, 22, 0), some (2, 7, 0), some (0, 0, a2 + 1)] [] (ab_ups σ 7 (fw_c a2).toNat (fw_c (σ 22 (fw_c a2).toNat)))))))) : G 2 [some (2, 22, 0), some (2, 7, 0), some (0, 0, a2)] [] σ := fw_on hG [2] 200 h
abbrev fk_cp_23_8 : List fw_CR := []
abbrev st_cp_23_8 : fw_K → fw_KR → fw_K := fw_st vwCl nn_sh nn_kd fw_kv fw_wc (nn_KI1.map (fun x => x.1)) (nn_KJ1.map (fun x => x.1)) (nn_PF1.map (fun x => x.1)) (nn_PS1.map (fun x => x.1)) fk_cp_23_8 0 nn_dt50 3 4
theorem fs_cp_23_8_0 {G : fw_K} {R : fw_KR} (hG : fw_cls st_cp_23_8 R G) {σ : ab_SG} (h : G 2 [some (2, 23, 0), some (2, 8, 0), some (0, 0, 0)] [] σ) : G 0 [some (2, 23, 0), some (2, 8, 0), none] [] σ := fw_on hG [2] 200 h
theorem fs_cp_23_8_2 {G : fw_K} {R : fw_KR} (hG : fw_cls st_cp_23_8 R G) {a2 : Int} {σ : ab_SG} (h : (fw_c ((6 : Nat) : Int) ≤ fw_c a2 → R none σ) ∧ (fw_c a2 < fw_c ((6 : Nat) : Int) → (fw_c ((6 : Nat) : Int) ≤ fw_c a2 → R none σ) ∧ (fw_c a2 < fw_c ((6 : Nat) : Int) → (0 ≤ fw_c a2 ∧ fw_c a2 < ((6 : Nat) : Int)) ∧ ((0 ≤ fw_c a2 ∧ fw_c a2 < ((6 : Nat) : Int)) ∧ True ∧ (G 2 [some (2, 23, 0), some (2, 8, 0), some (0, 0, a2 + 1)] [] (ab_ups σ 8 (fw_c a2).toNat (fw_c (σ 23 (fw_c a2).toNat)))))))) : G 2 [some (2, 23, 0), some (2, 8, 0), some (0, 0, a2)] [] σ := fw_on hG [2] 200 h
abbrev fk_cp_24_9 : List fw_CR := []
abbrev st_cp_24_9 : fw_K → fw_KR → fw_K := fw_st vwCl nn_sh nn_kd fw_kv fw_wc (nn_KI1.map (fun x => x.1)) (nn_KJ1.map (fun x => x.1)) (nn_PF1.map (fun x => x.1)) (nn_PS1.map (fun x => x.1)) fk_cp_24_9 0 nn_dt50 3 4
theorem fs_cp_24_9_0 {G : fw_K} {R : fw_KR} (hG : fw_cls st_cp_24_9 R G) {σ : ab_SG} (h : G 2 [some (2, 24, 0), some (2, 9, 0), some (0, 0, 0)] [] σ) : G 0 [some (2, 24, 0), some (2, 9, 0), none] [] σ := fw_on hG [2] 200 h
theorem fs_cp_24_9_2 {G : fw_K} {R : fw_KR} (hG : fw_cls st_cp_24_9 R G) {a2 : Int} {σ : ab_SG} (h : (fw_c ((45 : Nat) : Int) ≤ fw_c a2 → R none σ) ∧ (fw_c a2 < fw_c ((45 : Nat) : Int) → (fw_c ((45 : Nat) : Int) ≤ fw_c a2 → R none σ) ∧ (fw_c a2 < fw_c ((45 : Nat) : Int) → (0 ≤ fw_c a2 ∧ fw_c a2 < ((45 : Nat) : Int)) ∧ ((0 ≤ fw_c a2 ∧ fw_c a2 < ((45 : Nat) : Int)) ∧ True ∧ (G 2 [some (2, 24, 0), some (2, 9, 0), some (0, 0, a2 + 1)] [] (ab_ups σ 9 (fw_c a2).toNat (fw_c (σ 24 (fw_c a2).toNat)))))))) : G 2 [some (2, 24, 0), some (2, 9, 0), some (0, 0, a2)] [] σ := fw_on hG [2] 200 h
abbrev fk_cp_25_10 : List fw_CR := []
abbrev st_cp_25_10 : fw_K → fw_KR → fw_K := fw_st vwCl nn_sh nn_kd fw_kv fw_wc (nn_KI1.map (fun x => x.1)) (nn_KJ1.map (fun x => x.1)) (nn_PF1.map (fun x => x.1)) (nn_PS1.map (fun x => x.1)) fk_cp_25_10 0 nn_dt50 3 4
theorem fs_cp_25_10_0 {G : fw_K} {R : fw_KR} (hG : fw_cls st_cp_25_10 R G) {σ : ab_SG} (h : G 2 [some (2, 25, 0), some (2, 10, 0), some (0, 0, 0)] [] σ) : G 0 [some (2, 25, 0), some (2, 10, 0), none] [] σ := fw_on hG [2] 200 h
theorem fs_cp_25_10_2 {G : fw_K} {R : fw_KR} (hG : fw_cls st_cp_25_10 R G) {a2 : Int} {σ : ab_SG} (h : (fw_c ((5 : Nat) : Int) ≤ fw_c a2 → R none σ) ∧ (fw_c a2 < fw_c ((5 : Nat) : Int) → (fw_c ((5 : Nat) : Int) ≤ fw_c a2 → R none σ) ∧ (fw_c a2 < fw_c ((5 : Nat) : Int) → (0 ≤ fw_c a2 ∧ fw_c a2 < ((5 : Nat) : Int)) ∧ ((0 ≤ fw_c a2 ∧ fw_c a2 < ((5 : Nat) : Int)) ∧ True ∧ (G 2 [some (2, 25, 0), some (2, 10, 0), some (0, 0, a2 + 1)] [] (ab_ups σ 10 (fw_c a2).toNat (fw_c (σ 25 (fw_c a2).toNat)))))))) : G 2 [some (2, 25, 0), some (2, 10, 0), some (0, 0, a2)] [] σ := fw_on hG [2] 200 h
abbrev fk_cp_30_15 : List fw_CR := []
abbrev st_cp_30_15 : fw_K → fw_KR → fw_K := fw_st vwCl nn_sh nn_kd fw_kv fw_wc (nn_KI1.map (fun x => x.1)) (nn_KJ1.map (fun x => x.1)) (nn_PF1.map (fun x => x.1)) (nn_PS1.map (fun x => x.1)) fk_cp_30_15 0 nn_dt50 3 4
theorem fs_cp_30_15_0 {G : fw_K} {R : fw_KR} (hG : fw_cls st_cp_30_15 R G) {σ : ab_SG} (h : G 2 [some (2, 30, 0), some (2, 15, 0), some (0, 0, 0)] [] σ) : G 0 [some (2, 30, 0), some (2, 15, 0), none] [] σ := fw_on hG [2] 200 h
theorem fs_cp_30_15_2 {G : fw_K} {R : fw_KR} (hG : fw_cls st_cp_30_15 R G) {a2 : Int} {σ : ab_SG} (h : (fw_c ((64 : Nat) : Int) ≤ fw_c a2 → R none σ) ∧ (fw_c a2 < fw_c ((64 : Nat) : Int) → (fw_c ((64 : Nat) : Int) ≤ fw_c a2 → R none σ) ∧ (fw_c a2 < fw_c ((64 : Nat) : Int) → (0 ≤ fw_c a2 ∧ fw_c a2 < ((64 : Nat) : Int)) ∧ ((0 ≤ fw_c a2 ∧ fw_c a2 < ((64 : Nat) : Int)) ∧ True ∧ (G 2 [some (2, 30, 0), some (2, 15, 0), some (0, 0, a2 + 1)] [] (ab_ups σ 15 (fw_c a2).toNat (fw_c (σ 30 (fw_c a2).toNat)))))))) : G 2 [some (2, 30, 0), some (2, 15, 0), some (0, 0, a2)] [] σ := fw_on hG [2] 200 h
abbrev fk_cp_31_16 : List fw_CR := []
abbrev st_cp_31_16 : fw_K → fw_KR → fw_K := fw_st vwCl nn_sh nn_kd fw_kv fw_wc (nn_KI1.map (fun x => x.1)) (nn_KJ1.map (fun x => x.1)) (nn_PF1.map (fun x => x.1)) (nn_PS1.map (fun x => x.1)) fk_cp_31_16 0 nn_dt50 3 4
theorem fs_cp_31_16_0 {G : fw_K} {R : fw_KR} (hG : fw_cls st_cp_31_16 R G) {σ : ab_SG} (h : G 2 [some (2, 31, 0), some (2, 16, 0), some (0, 0, 0)] [] σ) : G 0 [some (2, 31, 0), some (2, 16, 0), none] [] σ := fw_on hG [2] 200 h
theorem fs_cp_31_16_2 {G : fw_K} {R : fw_KR} (hG : fw_cls st_cp_31_16 R G) {a2 : Int} {σ : ab_SG} (h : (fw_c ((64 : Nat) : Int) ≤ fw_c a2 → R none σ) ∧ (fw_c a2 < fw_c ((64 : Nat) : Int) → (fw_c ((64 : Nat) : Int) ≤ fw_c a2 → R none σ) ∧ (fw_c a2 < fw_c ((64 : Nat) : Int) → (0 ≤ fw_c a2 ∧ fw_c a2 < ((64 : Nat) : Int)) ∧ ((0 ≤ fw_c a2 ∧ fw_c a2 < ((64 : Nat) : Int)) ∧ True ∧ (G 2 [some (2, 31, 0), some (2, 16, 0), some (0, 0, a2 + 1)] [] (ab_ups σ 16 (fw_c a2).toNat (fw_c (σ 31 (fw_c a2).toNat)))))))) : G 2 [some (2, 31, 0), some (2, 16, 0), some (0, 0, a2)] [] σ := fw_on hG [2] 200 h
abbrev fk_cp_34_4 : List fw_CR := []
abbrev st_cp_34_4 : fw_K → fw_KR → fw_K := fw_st vwCl nn_sh nn_kd fw_kv fw_wc (nn_KI1.map (fun x => x.1)) (nn_KJ1.map (fun x => x.1)) (nn_PF1.map (fun x => x.1)) (nn_PS1.map (fun x => x.1)) fk_cp_34_4 0 nn_dt50 3 4
theorem fs_cp_34_4_0 {G : fw_K} {R : fw_KR} (hG : fw_cls st_cp_34_4 R G) {σ : ab_SG} (h : G 2 [some (2, 34, 0), some (2, 4, 0), some (0, 0, 0)] [] σ) : G 0 [some (2, 34, 0), some (2, 4, 0), none] [] σ := fw_on hG [2] 200 h
theorem fs_cp_34_4_2 {G : fw_K} {R : fw_KR} (hG : fw_cls st_cp_34_4 R G) {a2 : Int} {σ : ab_SG} (h : (fw_c ((81 : Nat) : Int) ≤ fw_c a2 → R none σ) ∧ (fw_c a2 < fw_c ((81 : Nat) : Int) → (fw_c ((81 : Nat) : Int) ≤ fw_c a2 → R none σ) ∧ (fw_c a2 < fw_c ((81 : Nat) : Int) → (0 ≤ fw_c a2 ∧ fw_c a2 < ((81 : Nat) : Int)) ∧ ((0 ≤ fw_c a2 ∧ fw_c a2 < ((81 : Nat) : Int)) ∧ True ∧ (G 2 [some (2, 34, 0), some (2, 4, 0), some (0, 0, a2 + 1)] [] (ab_ups σ 4 (fw_c a2).toNat (fw_c (σ 34 (fw_c a2).toNat)))))))) : G 2 [some (2, 34, 0), some (2, 4, 0), some (0, 0, a2)] [] σ := fw_on hG [2] 200 h
abbrev fk_cp_35_5 : List fw_CR := []
abbrev st_cp_35_5 : fw_K → fw_KR → fw_K := fw_st vwCl nn_sh nn_kd fw_kv fw_wc (nn_KI1.map (fun x => x.1)) (nn_KJ1.map (fun x => x.1)) (nn_PF1.map (fun x => x.1)) (nn_PS1.map (fun x => x.1)) fk_cp_35_5 0 nn_dt50 3 4
theorem fs_cp_35_5_0 {G : fw_K} {R : fw_KR} (hG : fw_cls st_cp_35_5 R G) {σ : ab_SG} (h : G 2 [some (2, 35, 0), some (2, 5, 0), some (0, 0, 0)] [] σ) : G 0 [some (2, 35, 0), some (2, 5, 0), none] [] σ := fw_on hG [2] 200 h
theorem fs_cp_35_5_2 {G : fw_K} {R : fw_KR} (hG : fw_cls st_cp_35_5 R G) {a2 : Int} {σ : ab_SG} (h : (fw_c ((81 : Nat) : Int) ≤ fw_c a2 → R none σ) ∧ (fw_c a2 < fw_c ((81 : Nat) : Int) → (fw_c ((81 : Nat) : Int) ≤ fw_c a2 → R none σ) ∧ (fw_c a2 < fw_c ((81 : Nat) : Int) → (0 ≤ fw_c a2 ∧ fw_c a2 < ((81 : Nat) : Int)) ∧ ((0 ≤ fw_c a2 ∧ fw_c a2 < ((81 : Nat) : Int)) ∧ True ∧ (G 2 [some (2, 35, 0), some (2, 5, 0), some (0, 0, a2 + 1)] [] (ab_ups σ 5 (fw_c a2).toNat (fw_c (σ 35 (fw_c a2).toNat)))))))) : G 2 [some (2, 35, 0), some (2, 5, 0), some (0, 0, a2)] [] σ := fw_on hG [2] 200 h
abbrev fk_cp_36_6 : List fw_CR := []
abbrev st_cp_36_6 : fw_K → fw_KR → fw_K := fw_st vwCl nn_sh nn_kd fw_kv fw_wc (nn_KI1.map (fun x => x.1)) (nn_KJ1.map (fun x => x.1)) (nn_PF1.map (fun x => x.1)) (nn_PS1.map (fun x => x.1)) fk_cp_36_6 0 nn_dt50 3 4
theorem fs_cp_36_6_0 {G : fw_K} {R : fw_KR} (hG : fw_cls st_cp_36_6 R G) {σ : ab_SG} (h : G 2 [some (2, 36, 0), some (2, 6, 0), some (0, 0, 0)] [] σ) : G 0 [some (2, 36, 0), some (2, 6, 0), none] [] σ := fw_on hG [2] 200 h
theorem fs_cp_36_6_2 {G : fw_K} {R : fw_KR} (hG : fw_cls st_cp_36_6 R G) {a2 : Int} {σ : ab_SG} (h : (fw_c ((9 : Nat) : Int) ≤ fw_c a2 → R none σ) ∧ (fw_c a2 < fw_c ((9 : Nat) : Int) → (fw_c ((9 : Nat) : Int) ≤ fw_c a2 → R none σ) ∧ (fw_c a2 < fw_c ((9 : Nat) : Int) → (0 ≤ fw_c a2 ∧ fw_c a2 < ((9 : Nat) : Int)) ∧ ((0 ≤ fw_c a2 ∧ fw_c a2 < ((9 : Nat) : Int)) ∧ True ∧ (G 2 [some (2, 36, 0), some (2, 6, 0), some (0, 0, a2 + 1)] [] (ab_ups σ 6 (fw_c a2).toNat (fw_c (σ 36 (fw_c a2).toNat)))))))) : G 2 [some (2, 36, 0), some (2, 6, 0), some (0, 0, a2)] [] σ := fw_on hG [2] 200 h
abbrev fk_cp_37_7 : List fw_CR := []
abbrev st_cp_37_7 : fw_K → fw_KR → fw_K := fw_st vwCl nn_sh nn_kd fw_kv fw_wc (nn_KI1.map (fun x => x.1)) (nn_KJ1.map (fun x => x.1)) (nn_PF1.map (fun x => x.1)) (nn_PS1.map (fun x => x.1)) fk_cp_37_7 0 nn_dt50 3 4
theorem fs_cp_37_7_0 {G : fw_K} {R : fw_KR} (hG : fw_cls st_cp_37_7 R G) {σ : ab_SG} (h : G 2 [some (2, 37, 0), some (2, 7, 0), some (0, 0, 0)] [] σ) : G 0 [some (2, 37, 0), some (2, 7, 0), none] [] σ := fw_on hG [2] 200 h
theorem fs_cp_37_7_2 {G : fw_K} {R : fw_KR} (hG : fw_cls st_cp_37_7 R G) {a2 : Int} {σ : ab_SG} (h : (fw_c ((324 : Nat) : Int) ≤ fw_c a2 → R none σ) ∧ (fw_c a2 < fw_c ((324 : Nat) : Int) → (fw_c ((324 : Nat) : Int) ≤ fw_c a2 → R none σ) ∧ (fw_c a2 < fw_c ((324 : Nat) : Int) → (0 ≤ fw_c a2 ∧ fw_c a2 < ((324 : Nat) : Int)) ∧ ((0 ≤ fw_c a2 ∧ fw_c a2 < ((324 : Nat) : Int)) ∧ True ∧ (G 2 [some (2, 37, 0), some (2, 7, 0), some (0, 0, a2 + 1)] [] (ab_ups σ 7 (fw_c a2).toNat (fw_c (σ 37 (fw_c a2).toNat)))))))) : G 2 [some (2, 37, 0), some (2, 7, 0), some (0, 0, a2)] [] σ := fw_on hG [2] 200 h
abbrev fk_cp_38_8 : List fw_CR := []
abbrev st_cp_38_8 : fw_K → fw_KR → fw_K := fw_st vwCl nn_sh nn_kd fw_kv fw_wc (nn_KI1.map (fun x => x.1)) (nn_KJ1.map (fun x => x.1)) (nn_PF1.map (fun x => x.1)) (nn_PS1.map (fun x => x.1)) fk_cp_38_8 0 nn_dt50 3 4
theorem fs_cp_38_8_0 {G : fw_K} {R : fw_KR} (hG : fw_cls st_cp_38_8 R G) {σ : ab_SG} (h : G 2 [some (2, 38, 0), some (2, 8, 0), some (0, 0, 0)] [] σ) : G 0 [some (2, 38, 0), some (2, 8, 0), none] [] σ := fw_on hG [2] 200 h
theorem fs_cp_38_8_2 {G : fw_K} {R : fw_KR} (hG : fw_cls st_cp_38_8 R G) {a2 : Int} {σ : ab_SG} (h : (fw_c ((6 : Nat) : Int) ≤ fw_c a2 → R none σ) ∧ (fw_c a2 < fw_c ((6 : Nat) : Int) → (fw_c ((6 : Nat) : Int) ≤ fw_c a2 → R none σ) ∧ (fw_c a2 < fw_c ((6 : Nat) : Int) → (0 ≤ fw_c a2 ∧ fw_c a2 < ((6 : Nat) : Int)) ∧ ((0 ≤ fw_c a2 ∧ fw_c a2 < ((6 : Nat) : Int)) ∧ True ∧ (G 2 [some (2, 38, 0), some (2, 8, 0), some (0, 0, a2 + 1)] [] (ab_ups σ 8 (fw_c a2).toNat (fw_c (σ 38 (fw_c a2).toNat)))))))) : G 2 [some (2, 38, 0), some (2, 8, 0), some (0, 0, a2)] [] σ := fw_on hG [2] 200 h
abbrev fk_cp_39_9 : List fw_CR := []
abbrev st_cp_39_9 : fw_K → fw_KR → fw_K := fw_st vwCl nn_sh nn_kd fw_kv fw_wc (nn_KI1.map (fun x => x.1)) (nn_KJ1.map (fun x => x.1)) (nn_PF1.map (fun x => x.1)) (nn_PS1.map (fun x => x.1)) fk_cp_39_9 0 nn_dt50 3 4
theorem fs_cp_39_9_0 {G : fw_K} {R : fw_KR} (hG : fw_cls st_cp_39_9 R G) {σ : ab_SG} (h : G 2 [some (2, 39, 0), some (2, 9, 0), some (0, 0, 0)] [] σ) : G 0 [some (2, 39, 0), some (2, 9, 0), none] [] σ := fw_on hG [2] 200 h
theorem fs_cp_39_9_2 {G : fw_K} {R : fw_KR} (hG : fw_cls st_cp_39_9 R G) {a2 : Int} {σ : ab_SG} (h : (fw_c ((45 : Nat) : Int) ≤ fw_c a2 → R none σ) ∧ (fw_c a2 < fw_c ((45 : Nat) : Int) → (fw_c ((45 : Nat) : Int) ≤ fw_c a2 → R none σ) ∧ (fw_c a2 < fw_c ((45 : Nat) : Int) → (0 ≤ fw_c a2 ∧ fw_c a2 < ((45 : Nat) : Int)) ∧ ((0 ≤ fw_c a2 ∧ fw_c a2 < ((45 : Nat) : Int)) ∧ True ∧ (G 2 [some (2, 39, 0), some (2, 9, 0), some (0, 0, a2 + 1)] [] (ab_ups σ 9 (fw_c a2).toNat (fw_c (σ 39 (fw_c a2).toNat)))))))) : G 2 [some (2, 39, 0), some (2, 9, 0), some (0, 0, a2)] [] σ := fw_on hG [2] 200 h
abbrev fk_cp_40_10 : List fw_CR := []
abbrev st_cp_40_10 : fw_K → fw_KR → fw_K := fw_st vwCl nn_sh nn_kd fw_kv fw_wc (nn_KI1.map (fun x => x.1)) (nn_KJ1.map (fun x => x.1)) (nn_PF1.map (fun x => x.1)) (nn_PS1.map (fun x => x.1)) fk_cp_40_10 0 nn_dt50 3 4
theorem fs_cp_40_10_0 {G : fw_K} {R : fw_KR} (hG : fw_cls st_cp_40_10 R G) {σ : ab_SG} (h : G 2 [some (2, 40, 0), some (2, 10, 0), some (0, 0, 0)] [] σ) : G 0 [some (2, 40, 0), some (2, 10, 0), none] [] σ := fw_on hG [2] 200 h
theorem fs_cp_40_10_2 {G : fw_K} {R : fw_KR} (hG : fw_cls st_cp_40_10 R G) {a2 : Int} {σ : ab_SG} (h : (fw_c ((5 : Nat) : Int) ≤ fw_c a2 → R none σ) ∧ (fw_c a2 < fw_c ((5 : Nat) : Int) → (fw_c ((5 : Nat) : Int) ≤ fw_c a2 → R none σ) ∧ (fw_c a2 < fw_c ((5 : Nat) : Int) → (0 ≤ fw_c a2 ∧ fw_c a2 < ((5 : Nat) : Int)) ∧ ((0 ≤ fw_c a2 ∧ fw_c a2 < ((5 : Nat) : Int)) ∧ True ∧ (G 2 [some (2, 40, 0), some (2, 10, 0), some (0, 0, a2 + 1)] [] (ab_ups σ 10 (fw_c a2).toNat (fw_c (σ 40 (fw_c a2).toNat)))))))) : G 2 [some (2, 40, 0), some (2, 10, 0), some (0, 0, a2)] [] σ := fw_on hG [2] 200 h
abbrev fk_cp_45_15 : List fw_CR := []
abbrev st_cp_45_15 : fw_K → fw_KR → fw_K := fw_st vwCl nn_sh nn_kd fw_kv fw_wc (nn_KI1.map (fun x => x.1)) (nn_KJ1.map (fun x => x.1)) (nn_PF1.map (fun x => x.1)) (nn_PS1.map (fun x => x.1)) fk_cp_45_15 0 nn_dt50 3 4
theorem fs_cp_45_15_0 {G : fw_K} {R : fw_KR} (hG : fw_cls st_cp_45_15 R G) {σ : ab_SG} (h : G 2 [some (2, 45, 0), some (2, 15, 0), some (0, 0, 0)] [] σ) : G 0 [some (2, 45, 0), some (2, 15, 0), none] [] σ := fw_on hG [2] 200 h
theorem fs_cp_45_15_2 {G : fw_K} {R : fw_KR} (hG : fw_cls st_cp_45_15 R G) {a2 : Int} {σ : ab_SG} (h : (fw_c ((64 : Nat) : Int) ≤ fw_c a2 → R none σ) ∧ (fw_c a2 < fw_c ((64 : Nat) : Int) → (fw_c ((64 : Nat) : Int) ≤ fw_c a2 → R none σ) ∧ (fw_c a2 < fw_c ((64 : Nat) : Int) → (0 ≤ fw_c a2 ∧ fw_c a2 < ((64 : Nat) : Int)) ∧ ((0 ≤ fw_c a2 ∧ fw_c a2 < ((64 : Nat) : Int)) ∧ True ∧ (G 2 [some (2, 45, 0), some (2, 15, 0), some (0, 0, a2 + 1)] [] (ab_ups σ 15 (fw_c a2).toNat (fw_c (σ 45 (fw_c a2).toNat)))))))) : G 2 [some (2, 45, 0), some (2, 15, 0), some (0, 0, a2)] [] σ := fw_on hG [2] 200 h
abbrev fk_cp_46_16 : List fw_CR := []
abbrev st_cp_46_16 : fw_K → fw_KR → fw_K := fw_st vwCl nn_sh nn_kd fw_kv fw_wc (nn_KI1.map (fun x => x.1)) (nn_KJ1.map (fun x => x.1)) (nn_PF1.map (fun x => x.1)) (nn_PS1.map (fun x => x.1)) fk_cp_46_16 0 nn_dt50 3 4
theorem fs_cp_46_16_0 {G : fw_K} {R : fw_KR} (hG : fw_cls st_cp_46_16 R G) {σ : ab_SG} (h : G 2 [some (2, 46, 0), some (2, 16, 0), some (0, 0, 0)] [] σ) : G 0 [some (2, 46, 0), some (2, 16, 0), none] [] σ := fw_on hG [2] 200 h
theorem fs_cp_46_16_2 {G : fw_K} {R : fw_KR} (hG : fw_cls st_cp_46_16 R G) {a2 : Int} {σ : ab_SG} (h : (fw_c ((64 : Nat) : Int) ≤ fw_c a2 → R none σ) ∧ (fw_c a2 < fw_c ((64 : Nat) : Int) → (fw_c ((64 : Nat) : Int) ≤ fw_c a2 → R none σ) ∧ (fw_c a2 < fw_c ((64 : Nat) : Int) → (0 ≤ fw_c a2 ∧ fw_c a2 < ((64 : Nat) : Int)) ∧ ((0 ≤ fw_c a2 ∧ fw_c a2 < ((64 : Nat) : Int)) ∧ True ∧ (G 2 [some (2, 46, 0), some (2, 16, 0), some (0, 0, a2 + 1)] [] (ab_ups σ 16 (fw_c a2).toNat (fw_c (σ 46 (fw_c a2).toNat)))))))) : G 2 [some (2, 46, 0), some (2, 16, 0), some (0, 0, a2)] [] σ := fw_on hG [2] 200 h
abbrev fk_cl_57_11 : List fw_CR := []
abbrev st_cl_57_11 : fw_K → fw_KR → fw_K := fw_st vwCl nn_sh nn_kd fw_kv fw_wc (nn_KI1.map (fun x => x.1)) (nn_KJ1.map (fun x => x.1)) (nn_PF1.map (fun x => x.1)) (nn_PS1.map (fun x => x.1)) fk_cl_57_11 0 nn_dt51 3 4
theorem fs_cl_57_11_0 {G : fw_K} {R : fw_KR} (hG : fw_cls st_cl_57_11 R G) {σ : ab_SG} (h : G 2 [some (2, 57, 0), some (2, 11, 0), some (0, 0, 0)] [] σ) : G 0 [some (2, 57, 0), some (2, 11, 0), none] [] σ := fw_on hG [2] 200 h
theorem fs_cl_57_11_2 {G : fw_K} {R : fw_KR} (hG : fw_cls st_cl_57_11 R G) {a2 : Int} {σ : ab_SG} (h : (fw_c ((9 : Nat) : Int) ≤ fw_c a2 → R none σ) ∧ (fw_c a2 < fw_c ((9 : Nat) : Int) → (fw_c ((9 : Nat) : Int) ≤ fw_c a2 → R none σ) ∧ (fw_c a2 < fw_c ((9 : Nat) : Int) → (0 ≤ fw_c a2 ∧ fw_c a2 < ((9 : Nat) : Int)) ∧ ((0 ≤ fw_c a2 ∧ fw_c a2 < ((9 : Nat) : Int)) ∧ True ∧ (G 2 [some (2, 57, 0), some (2, 11, 0), some (0, 0, a2 + 1)] [] (ab_ups σ 11 (fw_c a2).toNat (fw_d (σ 57 (fw_c a2).toNat)))))))) : G 2 [some (2, 57, 0), some (2, 11, 0), some (0, 0, a2)] [] σ := fw_on hG [2] 200 h
abbrev fk_cl_58_12 : List fw_CR := []
abbrev st_cl_58_12 : fw_K → fw_KR → fw_K := fw_st vwCl nn_sh nn_kd fw_kv fw_wc (nn_KI1.map (fun x => x.1)) (nn_KJ1.map (fun x => x.1)) (nn_PF1.map (fun x => x.1)) (nn_PS1.map (fun x => x.1)) fk_cl_58_12 0 nn_dt51 3 4
theorem fs_cl_58_12_0 {G : fw_K} {R : fw_KR} (hG : fw_cls st_cl_58_12 R G) {σ : ab_SG} (h : G 2 [some (2, 58, 0), some (2, 12, 0), some (0, 0, 0)] [] σ) : G 0 [some (2, 58, 0), some (2, 12, 0), none] [] σ := fw_on hG [2] 200 h
theorem fs_cl_58_12_2 {G : fw_K} {R : fw_KR} (hG : fw_cls st_cl_58_12 R G) {a2 : Int} {σ : ab_SG} (h : (fw_c ((6 : Nat) : Int) ≤ fw_c a2 → R none σ) ∧ (fw_c a2 < fw_c ((6 : Nat) : Int) → (fw_c ((6 : Nat) : Int) ≤ fw_c a2 → R none σ) ∧ (fw_c a2 < fw_c ((6 : Nat) : Int) → (0 ≤ fw_c a2 ∧ fw_c a2 < ((6 : Nat) : Int)) ∧ ((0 ≤ fw_c a2 ∧ fw_c a2 < ((6 : Nat) : Int)) ∧ True ∧ (G 2 [some (2, 58, 0), some (2, 12, 0), some (0, 0, a2 + 1)] [] (ab_ups σ 12 (fw_c a2).toNat (fw_d (σ 58 (fw_c a2).toNat)))))))) : G 2 [some (2, 58, 0), some (2, 12, 0), some (0, 0, a2)] [] σ := fw_on hG [2] 200 h
abbrev fk_cl_59_13 : List fw_CR := []
abbrev st_cl_59_13 : fw_K → fw_KR → fw_K := fw_st vwCl nn_sh nn_kd fw_kv fw_wc (nn_KI1.map (fun x => x.1)) (nn_KJ1.map (fun x => x.1)) (nn_PF1.map (fun x => x.1)) (nn_PS1.map (fun x => x.1)) fk_cl_59_13 0 nn_dt51 3 4
theorem fs_cl_59_13_0 {G : fw_K} {R : fw_KR} (hG : fw_cls st_cl_59_13 R G) {σ : ab_SG} (h : G 2 [some (2, 59, 0), some (2, 13, 0), some (0, 0, 0)] [] σ) : G 0 [some (2, 59, 0), some (2, 13, 0), none] [] σ := fw_on hG [2] 200 h
theorem fs_cl_59_13_2 {G : fw_K} {R : fw_KR} (hG : fw_cls st_cl_59_13 R G) {a2 : Int} {σ : ab_SG} (h : (fw_c ((5 : Nat) : Int) ≤ fw_c a2 → R none σ) ∧ (fw_c a2 < fw_c ((5 : Nat) : Int) → (fw_c ((5 : Nat) : Int) ≤ fw_c a2 → R none σ) ∧ (fw_c a2 < fw_c ((5 : Nat) : Int) → (0 ≤ fw_c a2 ∧ fw_c a2 < ((5 : Nat) : Int)) ∧ ((0 ≤ fw_c a2 ∧ fw_c a2 < ((5 : Nat) : Int)) ∧ True ∧ (G 2 [some (2, 59, 0), some (2, 13, 0), some (0, 0, a2 + 1)] [] (ab_ups σ 13 (fw_c a2).toNat (fw_d (σ 59 (fw_c a2).toNat)))))))) : G 2 [some (2, 59, 0), some (2, 13, 0), some (0, 0, a2)] [] σ := fw_on hG [2] 200 h
abbrev fk_cl_11_26 : List fw_CR := []
abbrev st_cl_11_26 : fw_K → fw_KR → fw_K := fw_st vwCl nn_sh nn_kd fw_kv fw_wc (nn_KI1.map (fun x => x.1)) (nn_KJ1.map (fun x => x.1)) (nn_PF1.map (fun x => x.1)) (nn_PS1.map (fun x => x.1)) fk_cl_11_26 0 nn_dt51 3 4
theorem fs_cl_11_26_0 {G : fw_K} {R : fw_KR} (hG : fw_cls st_cl_11_26 R G) {σ : ab_SG} (h : G 2 [some (2, 11, 0), some (2, 26, 0), some (0, 0, 0)] [] σ) : G 0 [some (2, 11, 0), some (2, 26, 0), none] [] σ := fw_on hG [2] 200 h
theorem fs_cl_11_26_2 {G : fw_K} {R : fw_KR} (hG : fw_cls st_cl_11_26 R G) {a2 : Int} {σ : ab_SG} (h : (fw_c ((9 : Nat) : Int) ≤ fw_c a2 → R none σ) ∧ (fw_c a2 < fw_c ((9 : Nat) : Int) → (fw_c ((9 : Nat) : Int) ≤ fw_c a2 → R none σ) ∧ (fw_c a2 < fw_c ((9 : Nat) : Int) → (0 ≤ fw_c a2 ∧ fw_c a2 < ((9 : Nat) : Int)) ∧ ((0 ≤ fw_c a2 ∧ fw_c a2 < ((9 : Nat) : Int)) ∧ True ∧ (G 2 [some (2, 11, 0), some (2, 26, 0), some (0, 0, a2 + 1)] [] (ab_ups σ 26 (fw_c a2).toNat (fw_d (σ 11 (fw_c a2).toNat)))))))) : G 2 [some (2, 11, 0), some (2, 26, 0), some (0, 0, a2)] [] σ := fw_on hG [2] 200 h
abbrev fk_cl_12_27 : List fw_CR := []
abbrev st_cl_12_27 : fw_K → fw_KR → fw_K := fw_st vwCl nn_sh nn_kd fw_kv fw_wc (nn_KI1.map (fun x => x.1)) (nn_KJ1.map (fun x => x.1)) (nn_PF1.map (fun x => x.1)) (nn_PS1.map (fun x => x.1)) fk_cl_12_27 0 nn_dt51 3 4
theorem fs_cl_12_27_0 {G : fw_K} {R : fw_KR} (hG : fw_cls st_cl_12_27 R G) {σ : ab_SG} (h : G 2 [some (2, 12, 0), some (2, 27, 0), some (0, 0, 0)] [] σ) : G 0 [some (2, 12, 0), some (2, 27, 0), none] [] σ := fw_on hG [2] 200 h
theorem fs_cl_12_27_2 {G : fw_K} {R : fw_KR} (hG : fw_cls st_cl_12_27 R G) {a2 : Int} {σ : ab_SG} (h : (fw_c ((6 : Nat) : Int) ≤ fw_c a2 → R none σ) ∧ (fw_c a2 < fw_c ((6 : Nat) : Int) → (fw_c ((6 : Nat) : Int) ≤ fw_c a2 → R none σ) ∧ (fw_c a2 < fw_c ((6 : Nat) : Int) → (0 ≤ fw_c a2 ∧ fw_c a2 < ((6 : Nat) : Int)) ∧ ((0 ≤ fw_c a2 ∧ fw_c a2 < ((6 : Nat) : Int)) ∧ True ∧ (G 2 [some (2, 12, 0), some (2, 27, 0), some (0, 0, a2 + 1)] [] (ab_ups σ 27 (fw_c a2).toNat (fw_d (σ 12 (fw_c a2).toNat)))))))) : G 2 [some (2, 12, 0), some (2, 27, 0), some (0, 0, a2)] [] σ := fw_on hG [2] 200 h
abbrev fk_cl_13_28 : List fw_CR := []
abbrev st_cl_13_28 : fw_K → fw_KR → fw_K := fw_st vwCl nn_sh nn_kd fw_kv fw_wc (nn_KI1.map (fun x => x.1)) (nn_KJ1.map (fun x => x.1)) (nn_PF1.map (fun x => x.1)) (nn_PS1.map (fun x => x.1)) fk_cl_13_28 0 nn_dt51 3 4
theorem fs_cl_13_28_0 {G : fw_K} {R : fw_KR} (hG : fw_cls st_cl_13_28 R G) {σ : ab_SG} (h : G 2 [some (2, 13, 0), some (2, 28, 0), some (0, 0, 0)] [] σ) : G 0 [some (2, 13, 0), some (2, 28, 0), none] [] σ := fw_on hG [2] 200 h
theorem fs_cl_13_28_2 {G : fw_K} {R : fw_KR} (hG : fw_cls st_cl_13_28 R G) {a2 : Int} {σ : ab_SG} (h : (fw_c ((5 : Nat) : Int) ≤ fw_c a2 → R none σ) ∧ (fw_c a2 < fw_c ((5 : Nat) : Int) → (fw_c ((5 : Nat) : Int) ≤ fw_c a2 → R none σ) ∧ (fw_c a2 < fw_c ((5 : Nat) : Int) → (0 ≤ fw_c a2 ∧ fw_c a2 < ((5 : Nat) : Int)) ∧ ((0 ≤ fw_c a2 ∧ fw_c a2 < ((5 : Nat) : Int)) ∧ True ∧ (G 2 [some (2, 13, 0), some (2, 28, 0), some (0, 0, a2 + 1)] [] (ab_ups σ 28 (fw_c a2).toNat (fw_d (σ 13 (fw_c a2).toNat)))))))) : G 2 [some (2, 13, 0), some (2, 28, 0), some (0, 0, a2)] [] σ := fw_on hG [2] 200 h
abbrev fk_cl_11_41 : List fw_CR := []
abbrev st_cl_11_41 : fw_K → fw_KR → fw_K := fw_st vwCl nn_sh nn_kd fw_kv fw_wc (nn_KI1.map (fun x => x.1)) (nn_KJ1.map (fun x => x.1)) (nn_PF1.map (fun x => x.1)) (nn_PS1.map (fun x => x.1)) fk_cl_11_41 0 nn_dt51 3 4
theorem fs_cl_11_41_0 {G : fw_K} {R : fw_KR} (hG : fw_cls st_cl_11_41 R G) {σ : ab_SG} (h : G 2 [some (2, 11, 0), some (2, 41, 0), some (0, 0, 0)] [] σ) : G 0 [some (2, 11, 0), some (2, 41, 0), none] [] σ := fw_on hG [2] 200 h
theorem fs_cl_11_41_2 {G : fw_K} {R : fw_KR} (hG : fw_cls st_cl_11_41 R G) {a2 : Int} {σ : ab_SG} (h : (fw_c ((9 : Nat) : Int) ≤ fw_c a2 → R none σ) ∧ (fw_c a2 < fw_c ((9 : Nat) : Int) → (fw_c ((9 : Nat) : Int) ≤ fw_c a2 → R none σ) ∧ (fw_c a2 < fw_c ((9 : Nat) : Int) → (0 ≤ fw_c a2 ∧ fw_c a2 < ((9 : Nat) : Int)) ∧ ((0 ≤ fw_c a2 ∧ fw_c a2 < ((9 : Nat) : Int)) ∧ True ∧ (G 2 [some (2, 11, 0), some (2, 41, 0), some (0, 0, a2 + 1)] [] (ab_ups σ 41 (fw_c a2).toNat (fw_d (σ 11 (fw_c a2).toNat)))))))) : G 2 [some (2, 11, 0), some (2, 41, 0), some (0, 0, a2)] [] σ := fw_on hG [2] 200 h
abbrev fk_cl_12_42 : List fw_CR := []
abbrev st_cl_12_42 : fw_K → fw_KR → fw_K := fw_st vwCl nn_sh nn_kd fw_kv fw_wc (nn_KI1.map (fun x => x.1)) (nn_KJ1.map (fun x => x.1)) (nn_PF1.map (fun x => x.1)) (nn_PS1.map (fun x => x.1)) fk_cl_12_42 0 nn_dt51 3 4
theorem fs_cl_12_42_0 {G : fw_K} {R : fw_KR} (hG : fw_cls st_cl_12_42 R G) {σ : ab_SG} (h : G 2 [some (2, 12, 0), some (2, 42, 0), some (0, 0, 0)] [] σ) : G 0 [some (2, 12, 0), some (2, 42, 0), none] [] σ := fw_on hG [2] 200 h
theorem fs_cl_12_42_2 {G : fw_K} {R : fw_KR} (hG : fw_cls st_cl_12_42 R G) {a2 : Int} {σ : ab_SG} (h : (fw_c ((6 : Nat) : Int) ≤ fw_c a2 → R none σ) ∧ (fw_c a2 < fw_c ((6 : Nat) : Int) → (fw_c ((6 : Nat) : Int) ≤ fw_c a2 → R none σ) ∧ (fw_c a2 < fw_c ((6 : Nat) : Int) → (0 ≤ fw_c a2 ∧ fw_c a2 < ((6 : Nat) : Int)) ∧ ((0 ≤ fw_c a2 ∧ fw_c a2 < ((6 : Nat) : Int)) ∧ True ∧ (G 2 [some (2, 12, 0), some (2, 42, 0), some (0, 0, a2 + 1)] [] (ab_ups σ 42 (fw_c a2).toNat (fw_d (σ 12 (fw_c a2).toNat)))))))) : G 2 [some (2, 12, 0), some (2, 42, 0), some (0, 0, a2)] [] σ := fw_on hG [2] 200 h
abbrev fk_cl_13_43 : List fw_CR := []
abbrev st_cl_13_43 : fw_K → fw_KR → fw_K := fw_st vwCl nn_sh nn_kd fw_kv fw_wc (nn_KI1.map (fun x => x.1)) (nn_KJ1.map (fun x => x.1)) (nn_PF1.map (fun x => x.1)) (nn_PS1.map (fun x => x.1)) fk_cl_13_43 0 nn_dt51 3 4
theorem fs_cl_13_43_0 {G : fw_K} {R : fw_KR} (hG : fw_cls st_cl_13_43 R G) {σ : ab_SG} (h : G 2 [some (2, 13, 0), some (2, 43, 0), some (0, 0, 0)] [] σ) : G 0 [some (2, 13, 0), some (2, 43, 0), none] [] σ := fw_on hG [2] 200 h
theorem fs_cl_13_43_2 {G : fw_K} {R : fw_KR} (hG : fw_cls st_cl_13_43 R G) {a2 : Int} {σ : ab_SG} (h : (fw_c ((5 : Nat) : Int) ≤ fw_c a2 → R none σ) ∧ (fw_c a2 < fw_c ((5 : Nat) : Int) → (fw_c ((5 : Nat) : Int) ≤ fw_c a2 → R none σ) ∧ (fw_c a2 < fw_c ((5 : Nat) : Int) → (0 ≤ fw_c a2 ∧ fw_c a2 < ((5 : Nat) : Int)) ∧ ((0 ≤ fw_c a2 ∧ fw_c a2 < ((5 : Nat) : Int)) ∧ True ∧ (G 2 [some (2, 13, 0), some (2, 43, 0), some (0, 0, a2 + 1)] [] (ab_ups σ 43 (fw_c a2).toNat (fw_d (σ 13 (fw_c a2).toNat)))))))) : G 2 [some (2, 13, 0), some (2, 43, 0), some (0, 0, a2)] [] σ := fw_on hG [2] 200 h
abbrev fk_cl_26_11 : List fw_CR := []
abbrev st_cl_26_11 : fw_K → fw_KR → fw_K := fw_st vwCl nn_sh nn_kd fw_kv fw_wc (nn_KI1.map (fun x => x.1)) (nn_KJ1.map (fun x => x.1)) (nn_PF1.map (fun x => x.1)) (nn_PS1.map (fun x => x.1)) fk_cl_26_11 0 nn_dt51 3 4
theorem fs_cl_26_11_0 {G : fw_K} {R : fw_KR} (hG : fw_cls st_cl_26_11 R G) {σ : ab_SG} (h : G 2 [some (2, 26, 0), some (2, 11, 0), some (0, 0, 0)] [] σ) : G 0 [some (2, 26, 0), some (2, 11, 0), none] [] σ := fw_on hG [2] 200 h
theorem fs_cl_26_11_2 {G : fw_K} {R : fw_KR} (hG : fw_cls st_cl_26_11 R G) {a2 : Int} {σ : ab_SG} (h : (fw_c ((9 : Nat) : Int) ≤ fw_c a2 → R none σ) ∧ (fw_c a2 < fw_c ((9 : Nat) : Int) → (fw_c ((9 : Nat) : Int) ≤ fw_c a2 → R none σ) ∧ (fw_c a2 < fw_c ((9 : Nat) : Int) → (0 ≤ fw_c a2 ∧ fw_c a2 < ((9 : Nat) : Int)) ∧ ((0 ≤ fw_c a2 ∧ fw_c a2 < ((9 : Nat) : Int)) ∧ True ∧ (G 2 [some (2, 26, 0), some (2, 11, 0), some (0, 0, a2 + 1)] [] (ab_ups σ 11 (fw_c a2).toNat (fw_d (σ 26 (fw_c a2).toNat)))))))) : G 2 [some (2, 26, 0), some (2, 11, 0), some (0, 0, a2)] [] σ := fw_on hG [2] 200 h
abbrev fk_cl_27_12 : List fw_CR := []
abbrev st_cl_27_12 : fw_K → fw_KR → fw_K := fw_st vwCl nn_sh nn_kd fw_kv fw_wc (nn_KI1.map (fun x => x.1)) (nn_KJ1.map (fun x => x.1)) (nn_PF1.map (fun x => x.1)) (nn_PS1.map (fun x => x.1)) fk_cl_27_12 0 nn_dt51 3 4
theorem fs_cl_27_12_0 {G : fw_K} {R : fw_KR} (hG : fw_cls st_cl_27_12 R G) {σ : ab_SG} (h : G 2 [some (2, 27, 0), some (2, 12, 0), some (0, 0, 0)] [] σ) : G 0 [some (2, 27, 0), some (2, 12, 0), none] [] σ := fw_on hG [2] 200 h
theorem fs_cl_27_12_2 {G : fw_K} {R : fw_KR} (hG : fw_cls st_cl_27_12 R G) {a2 : Int} {σ : ab_SG} (h : (fw_c ((6 : Nat) : Int) ≤ fw_c a2 → R none σ) ∧ (fw_c a2 < fw_c ((6 : Nat) : Int) → (fw_c ((6 : Nat) : Int) ≤ fw_c a2 → R none σ) ∧ (fw_c a2 < fw_c ((6 : Nat) : Int) → (0 ≤ fw_c a2 ∧ fw_c a2 < ((6 : Nat) : Int)) ∧ ((0 ≤ fw_c a2 ∧ fw_c a2 < ((6 : Nat) : Int)) ∧ True ∧ (G 2 [some (2, 27, 0), some (2, 12, 0), some (0, 0, a2 + 1)] [] (ab_ups σ 12 (fw_c a2).toNat (fw_d (σ 27 (fw_c a2).toNat)))))))) : G 2 [some (2, 27, 0), some (2, 12, 0), some (0, 0, a2)] [] σ := fw_on hG [2] 200 h
abbrev fk_cl_28_13 : List fw_CR := []
abbrev st_cl_28_13 : fw_K → fw_KR → fw_K := fw_st vwCl nn_sh nn_kd fw_kv fw_wc (nn_KI1.map (fun x => x.1)) (nn_KJ1.map (fun x => x.1)) (nn_PF1.map (fun x => x.1)) (nn_PS1.map (fun x => x.1)) fk_cl_28_13 0 nn_dt51 3 4
theorem fs_cl_28_13_0 {G : fw_K} {R : fw_KR} (hG : fw_cls st_cl_28_13 R G) {σ : ab_SG} (h : G 2 [some (2, 28, 0), some (2, 13, 0), some (0, 0, 0)] [] σ) : G 0 [some (2, 28, 0), some (2, 13, 0), none] [] σ := fw_on hG [2] 200 h
theorem fs_cl_28_13_2 {G : fw_K} {R : fw_KR} (hG : fw_cls st_cl_28_13 R G) {a2 : Int} {σ : ab_SG} (h : (fw_c ((5 : Nat) : Int) ≤ fw_c a2 → R none σ) ∧ (fw_c a2 < fw_c ((5 : Nat) : Int) → (fw_c ((5 : Nat) : Int) ≤ fw_c a2 → R none σ) ∧ (fw_c a2 < fw_c ((5 : Nat) : Int) → (0 ≤ fw_c a2 ∧ fw_c a2 < ((5 : Nat) : Int)) ∧ ((0 ≤ fw_c a2 ∧ fw_c a2 < ((5 : Nat) : Int)) ∧ True ∧ (G 2 [some (2, 28, 0), some (2, 13, 0), some (0, 0, a2 + 1)] [] (ab_ups σ 13 (fw_c a2).toNat (fw_d (σ 28 (fw_c a2).toNat)))))))) : G 2 [some (2, 28, 0), some (2, 13, 0), some (0, 0, a2)] [] σ := fw_on hG [2] 200 h
abbrev fk_cl_41_11 : List fw_CR := []
abbrev st_cl_41_11 : fw_K → fw_KR → fw_K := fw_st vwCl nn_sh nn_kd fw_kv fw_wc (nn_KI1.map (fun x => x.1)) (nn_KJ1.map (fun x => x.1)) (nn_PF1.map (fun x => x.1)) (nn_PS1.map (fun x => x.1)) fk_cl_41_11 0 nn_dt51 3 4
theorem fs_cl_41_11_0 {G : fw_K} {R : fw_KR} (hG : fw_cls st_cl_41_11 R G) {σ : ab_SG} (h : G 2 [some (2, 41, 0), some (2, 11, 0), some (0, 0, 0)] [] σ) : G 0 [some (2, 41, 0), some (2, 11, 0), none] [] σ := fw_on hG [2] 200 h
theorem fs_cl_41_11_2 {G : fw_K} {R : fw_KR} (hG : fw_cls st_cl_41_11 R G) {a2 : Int} {σ : ab_SG} (h : (fw_c ((9 : Nat) : Int) ≤ fw_c a2 → R none σ) ∧ (fw_c a2 < fw_c ((9 : Nat) : Int) → (fw_c ((9 : Nat) : Int) ≤ fw_c a2 → R none σ) ∧ (fw_c a2 < fw_c ((9 : Nat) : Int) → (0 ≤ fw_c a2 ∧ fw_c a2 < ((9 : Nat) : Int)) ∧ ((0 ≤ fw_c a2 ∧ fw_c a2 < ((9 : Nat) : Int)) ∧ True ∧ (G 2 [some (2, 41, 0), some (2, 11, 0), some (0, 0, a2 + 1)] [] (ab_ups σ 11 (fw_c a2).toNat (fw_d (σ 41 (fw_c a2).toNat)))))))) : G 2 [some (2, 41, 0), some (2, 11, 0), some (0, 0, a2)] [] σ := fw_on hG [2] 200 h
abbrev fk_cl_42_12 : List fw_CR := []
abbrev st_cl_42_12 : fw_K → fw_KR → fw_K := fw_st vwCl nn_sh nn_kd fw_kv fw_wc (nn_KI1.map (fun x => x.1)) (nn_KJ1.map (fun x => x.1)) (nn_PF1.map (fun x => x.1)) (nn_PS1.map (fun x => x.1)) fk_cl_42_12 0 nn_dt51 3 4
theorem fs_cl_42_12_0 {G : fw_K} {R : fw_KR} (hG : fw_cls st_cl_42_12 R G) {σ : ab_SG} (h : G 2 [some (2, 42, 0), some (2, 12, 0), some (0, 0, 0)] [] σ) : G 0 [some (2, 42, 0), some (2, 12, 0), none] [] σ := fw_on hG [2] 200 h
theorem fs_cl_42_12_2 {G : fw_K} {R : fw_KR} (hG : fw_cls st_cl_42_12 R G) {a2 : Int} {σ : ab_SG} (h : (fw_c ((6 : Nat) : Int) ≤ fw_c a2 → R none σ) ∧ (fw_c a2 < fw_c ((6 : Nat) : Int) → (fw_c ((6 : Nat) : Int) ≤ fw_c a2 → R none σ) ∧ (fw_c a2 < fw_c ((6 : Nat) : Int) → (0 ≤ fw_c a2 ∧ fw_c a2 < ((6 : Nat) : Int)) ∧ ((0 ≤ fw_c a2 ∧ fw_c a2 < ((6 : Nat) : Int)) ∧ True ∧ (G 2 [some (2, 42, 0), some (2, 12, 0), some (0, 0, a2 + 1)] [] (ab_ups σ 12 (fw_c a2).toNat (fw_d (σ 42 (fw_c a2).toNat)))))))) : G 2 [some (2, 42, 0), some (2, 12, 0), some (0, 0, a2)] [] σ := fw_on hG [2] 200 h
abbrev fk_cl_43_13 : List fw_CR := []
abbrev st_cl_43_13 : fw_K → fw_KR → fw_K := fw_st vwCl nn_sh nn_kd fw_kv fw_wc (nn_KI1.map (fun x => x.1)) (nn_KJ1.map (fun x => x.1)) (nn_PF1.map (fun x => x.1)) (nn_PS1.map (fun x => x.1)) fk_cl_43_13 0 nn_dt51 3 4
theorem fs_cl_43_13_0 {G : fw_K} {R : fw_KR} (hG : fw_cls st_cl_43_13 R G) {σ : ab_SG} (h : G 2 [some (2, 43, 0), some (2, 13, 0), some (0, 0, 0)] [] σ) : G 0 [some (2, 43, 0), some (2, 13, 0), none] [] σ := fw_on hG [2] 200 h
theorem fs_cl_43_13_2 {G : fw_K} {R : fw_KR} (hG : fw_cls st_cl_43_13 R G) {a2 : Int} {σ : ab_SG} (h : (fw_c ((5 : Nat) : Int) ≤ fw_c a2 → R none σ) ∧ (fw_c a2 < fw_c ((5 : Nat) : Int) → (fw_c ((5 : Nat) : Int) ≤ fw_c a2 → R none σ) ∧ (fw_c a2 < fw_c ((5 : Nat) : Int) → (0 ≤ fw_c a2 ∧ fw_c a2 < ((5 : Nat) : Int)) ∧ ((0 ≤ fw_c a2 ∧ fw_c a2 < ((5 : Nat) : Int)) ∧ True ∧ (G 2 [some (2, 43, 0), some (2, 13, 0), some (0, 0, a2 + 1)] [] (ab_ups σ 13 (fw_c a2).toNat (fw_d (σ 43 (fw_c a2).toNat)))))))) : G 2 [some (2, 43, 0), some (2, 13, 0), some (0, 0, a2)] [] σ := fw_on hG [2] 200 h
abbrev fk_scopy_49_3 : List fw_CR := [(28, 2, false, 0, 0, sp_cp)]
abbrev st_scopy_49_3 : fw_K → fw_KR → fw_K := fw_st vwCl nn_sh nn_kd fw_kv fw_wc (nn_KI5.map (fun x => x.1)) (nn_KJ5.map (fun x => x.1)) (nn_PF5.map (fun x => x.1)) (nn_PS5.map (fun x => x.1)) fk_scopy_49_3 1 nn_dt52 2 4
theorem fs_scopy_49_3_0 {G : fw_K} {R : fw_KR} (hG : fw_cls st_scopy_49_3 R G) {σ : ab_SG} (h : sp_cp [(2, 61, 0), (2, 15, 0)] σ (fun rv σ2 => G 11 [some (2, 14, 0), some (2, 60, 0)] (rv.toList ++ []) σ2)) : G 0 [some (2, 14, 0), some (2, 60, 0)] [] σ := fw_on hG [11, 22] 200 h
theorem fs_scopy_49_3_11 {G : fw_K} {R : fw_KR} (hG : fw_cls st_scopy_49_3 R G) {σ : ab_SG} (h : sp_cp [(2, 62, 0), (2, 16, 0)] σ (fun rv σ2 => G 22 [some (2, 14, 0), some (2, 60, 0)] (rv.toList ++ []) σ2)) : G 11 [some (2, 14, 0), some (2, 60, 0)] [] σ := fw_on hG [11, 22] 200 h
theorem fs_scopy_49_3_22 {G : fw_K} {R : fw_KR} (hG : fw_cls st_scopy_49_3 R G) {σ : ab_SG} (h : R none (ab_ups (ab_ups σ 14 3 (fw_c (σ 60 3))) 14 4 (fw_c (σ 60 4)))) : G 22 [some (2, 14, 0), some (2, 60, 0)] [] σ := fw_on hG [11, 22] 200 h
abbrev fk_scopy_3_18 : List fw_CR := [(28, 2, false, 0, 0, sp_cp)]
abbrev st_scopy_3_18 : fw_K → fw_KR → fw_K := fw_st vwCl nn_sh nn_kd fw_kv fw_wc (nn_KI5.map (fun x => x.1)) (nn_KJ5.map (fun x => x.1)) (nn_PF5.map (fun x => x.1)) (nn_PS5.map (fun x => x.1)) fk_scopy_3_18 1 nn_dt52 2 4
theorem fs_scopy_3_18_0 {G : fw_K} {R : fw_KR} (hG : fw_cls st_scopy_3_18 R G) {σ : ab_SG} (h : sp_cp [(2, 15, 0), (2, 30, 0)] σ (fun rv σ2 => G 11 [some (2, 29, 0), some (2, 14, 0)] (rv.toList ++ []) σ2)) : G 0 [some (2, 29, 0), some (2, 14, 0)] [] σ := fw_on hG [11, 22] 200 h
theorem fs_scopy_3_18_11 {G : fw_K} {R : fw_KR} (hG : fw_cls st_scopy_3_18 R G) {σ : ab_SG} (h : sp_cp [(2, 16, 0), (2, 31, 0)] σ (fun rv σ2 => G 22 [some (2, 29, 0), some (2, 14, 0)] (rv.toList ++ []) σ2)) : G 11 [some (2, 29, 0), some (2, 14, 0)] [] σ := fw_on hG [11, 22] 200 h
theorem fs_scopy_3_18_22 {G : fw_K} {R : fw_KR} (hG : fw_cls st_scopy_3_18 R G) {σ : ab_SG} (h : R none (ab_ups (ab_ups σ 29 3 (fw_c (σ 14 3))) 29 4 (fw_c (σ 14 4)))) : G 22 [some (2, 29, 0), some (2, 14, 0)] [] σ := fw_on hG [11, 22] 200 h
abbrev fk_scopy_3_33 : List fw_CR := [(28, 2, false, 0, 0, sp_cp)]
abbrev st_scopy_3_33 : fw_K → fw_KR → fw_K := fw_st vwCl nn_sh nn_kd fw_kv fw_wc (nn_KI5.map (fun x => x.1)) (nn_KJ5.map (fun x => x.1)) (nn_PF5.map (fun x => x.1)) (nn_PS5.map (fun x => x.1)) fk_scopy_3_33 1 nn_dt52 2 4
theorem fs_scopy_3_33_0 {G : fw_K} {R : fw_KR} (hG : fw_cls st_scopy_3_33 R G) {σ : ab_SG} (h : sp_cp [(2, 15, 0), (2, 45, 0)] σ (fun rv σ2 => G 11 [some (2, 44, 0), some (2, 14, 0)] (rv.toList ++ []) σ2)) : G 0 [some (2, 44, 0), some (2, 14, 0)] [] σ := fw_on hG [11, 22] 200 h
theorem fs_scopy_3_33_11 {G : fw_K} {R : fw_KR} (hG : fw_cls st_scopy_3_33 R G) {σ : ab_SG} (h : sp_cp [(2, 16, 0), (2, 46, 0)] σ (fun rv σ2 => G 22 [some (2, 44, 0), some (2, 14, 0)] (rv.toList ++ []) σ2)) : G 11 [some (2, 44, 0), some (2, 14, 0)] [] σ := fw_on hG [11, 22] 200 h
theorem fs_scopy_3_33_22 {G : fw_K} {R : fw_KR} (hG : fw_cls st_scopy_3_33 R G) {σ : ab_SG} (h : R none (ab_ups (ab_ups σ 44 3 (fw_c (σ 14 3))) 44 4 (fw_c (σ 14 4)))) : G 22 [some (2, 44, 0), some (2, 14, 0)] [] σ := fw_on hG [11, 22] 200 h
abbrev fk_scopy_18_3 : List fw_CR := [(28, 2, false, 0, 0, sp_cp)]
abbrev st_scopy_18_3 : fw_K → fw_KR → fw_K := fw_st vwCl nn_sh nn_kd fw_kv fw_wc (nn_KI5.map (fun x => x.1)) (nn_KJ5.map (fun x => x.1)) (nn_PF5.map (fun x => x.1)) (nn_PS5.map (fun x => x.1)) fk_scopy_18_3 1 nn_dt52 2 4
theorem fs_scopy_18_3_0 {G : fw_K} {R : fw_KR} (hG : fw_cls st_scopy_18_3 R G) {σ : ab_SG} (h : sp_cp [(2, 30, 0), (2, 15, 0)] σ (fun rv σ2 => G 11 [some (2, 14, 0), some (2, 29, 0)] (rv.toList ++ []) σ2)) : G 0 [some (2, 14, 0), some (2, 29, 0)] [] σ := fw_on hG [11, 22] 200 h
theorem fs_scopy_18_3_11 {G : fw_K} {R : fw_KR} (hG : fw_cls st_scopy_18_3 R G) {σ : ab_SG} (h : sp_cp [(2, 31, 0), (2, 16, 0)] σ (fun rv σ2 => G 22 [some (2, 14, 0), some (2, 29, 0)] (rv.toList ++ []) σ2)) : G 11 [some (2, 14, 0), some (2, 29, 0)] [] σ := fw_on hG [11, 22] 200 h
theorem fs_scopy_18_3_22 {G : fw_K} {R : fw_KR} (hG : fw_cls st_scopy_18_3 R G) {σ : ab_SG} (h : R none (ab_ups (ab_ups σ 14 3 (fw_c (σ 29 3))) 14 4 (fw_c (σ 29 4)))) : G 22 [some (2, 14, 0), some (2, 29, 0)] [] σ := fw_on hG [11, 22] 200 h
abbrev fk_scopy_33_3 : List fw_CR := [(28, 2, false, 0, 0, sp_cp)]
abbrev st_scopy_33_3 : fw_K → fw_KR → fw_K := fw_st vwCl nn_sh nn_kd fw_kv fw_wc (nn_KI5.map (fun x => x.1)) (nn_KJ5.map (fun x => x.1)) (nn_PF5.map (fun x => x.1)) (nn_PS5.map (fun x => x.1)) fk_scopy_33_3 1 nn_dt52 2 4
theorem fs_scopy_33_3_0 {G : fw_K} {R : fw_KR} (hG : fw_cls st_scopy_33_3 R G) {σ : ab_SG} (h : sp_cp [(2, 45, 0), (2, 15, 0)] σ (fun rv σ2 => G 11 [some (2, 14, 0), some (2, 44, 0)] (rv.toList ++ []) σ2)) : G 0 [some (2, 14, 0), some (2, 44, 0)] [] σ := fw_on hG [11, 22] 200 h
theorem fs_scopy_33_3_11 {G : fw_K} {R : fw_KR} (hG : fw_cls st_scopy_33_3 R G) {σ : ab_SG} (h : sp_cp [(2, 46, 0), (2, 16, 0)] σ (fun rv σ2 => G 22 [some (2, 14, 0), some (2, 44, 0)] (rv.toList ++ []) σ2)) : G 11 [some (2, 14, 0), some (2, 44, 0)] [] σ := fw_on hG [11, 22] 200 h
theorem fs_scopy_33_3_22 {G : fw_K} {R : fw_KR} (hG : fw_cls st_scopy_33_3 R G) {σ : ab_SG} (h : R none (ab_ups (ab_ups σ 14 3 (fw_c (σ 44 3))) 14 4 (fw_c (σ 44 4)))) : G 22 [some (2, 14, 0), some (2, 44, 0)] [] σ := fw_on hG [11, 22] 200 h
abbrev fk_copy_49_3 : List fw_CR := [(70, 2, false, 0, 0, sp_cp), (74, 2, false, 0, 0, sp_cl), (77, 1, true, 5, 1, sp_scopy)]
abbrev st_copy_49_3 : fw_K → fw_KR → fw_K := fw_st vwCl nn_sh nn_kd fw_kv fw_wc (nn_KI6.map (fun x => x.1)) (nn_KJ6.map (fun x => x.1)) (nn_PF6.map (fun x => x.1)) (nn_PS6.map (fun x => x.1)) fk_copy_49_3 2 nn_dt49 2 4
theorem fs_copy_49_3_0 {G : fw_K} {R : fw_KR} (hG : fw_cls st_copy_49_3 R G) {σ : ab_SG} (h : sp_cp [(2, 50, 0), (2, 4, 0)] σ (fun rv σ2 => G 11 [some (2, 3, 0), some (2, 49, 0)] (rv.toList ++ []) σ2)) : G 0 [some (2, 3, 0), some (2, 49, 0)] [] σ := fw_on hG [11, 22, 33, 44, 55, 66, 77, 88, 99, 110, 121] 200 h
theorem fs_copy_49_3_11 {G : fw_K} {R : fw_KR} (hG : fw_cls st_copy_49_3 R G) {σ : ab_SG} (h : sp_cp [(2, 51, 0), (2, 5, 0)] σ (fun rv σ2 => G 22 [some (2, 3, 0), some (2, 49, 0)] (rv.toList ++ []) σ2)) : G 11 [some (2, 3, 0), some (2, 49, 0)] [] σ := fw_on hG [11, 22, 33, 44, 55, 66, 77, 88, 99, 110, 121] 200 h
theorem fs_copy_49_3_22 {G : fw_K} {R : fw_KR} (hG : fw_cls st_copy_49_3 R G) {σ : ab_SG} (h : sp_cp [(2, 52, 0), (2, 6, 0)] σ (fun rv σ2 => G 33 [some (2, 3, 0), some (2, 49, 0)] (rv.toList ++ []) σ2)) : G 22 [some (2, 3, 0), some (2, 49, 0)] [] σ := fw_on hG [11, 22, 33, 44, 55, 66, 77, 88, 99, 110, 121] 200 h
theorem fs_copy_49_3_33 {G : fw_K} {R : fw_KR} (hG : fw_cls st_copy_49_3 R G) {σ : ab_SG} (h : sp_cp [(2, 53, 0), (2, 7, 0)] σ (fun rv σ2 => G 44 [some (2, 3, 0), some (2, 49, 0)] (rv.toList ++ []) σ2)) : G 33 [some (2, 3, 0), some (2, 49, 0)] [] σ := fw_on hG [11, 22, 33, 44, 55, 66, 77, 88, 99, 110, 121] 200 h
theorem fs_copy_49_3_44 {G : fw_K} {R : fw_KR} (hG : fw_cls st_copy_49_3 R G) {σ : ab_SG} (h : sp_cp [(2, 54, 0), (2, 8, 0)] σ (fun rv σ2 => G 55 [some (2, 3, 0), some (2, 49, 0)] (rv.toList ++ []) σ2)) : G 44 [some (2, 3, 0), some (2, 49, 0)] [] σ := fw_on hG [11, 22, 33, 44, 55, 66, 77, 88, 99, 110, 121] 200 h
theorem fs_copy_49_3_55 {G : fw_K} {R : fw_KR} (hG : fw_cls st_copy_49_3 R G) {σ : ab_SG} (h : sp_cp [(2, 55, 0), (2, 9, 0)] σ (fun rv σ2 => G 66 [some (2, 3, 0), some (2, 49, 0)] (rv.toList ++ []) σ2)) : G 55 [some (2, 3, 0), some (2, 49, 0)] [] σ := fw_on hG [11, 22, 33, 44, 55, 66, 77, 88, 99, 110, 121] 200 h
theorem fs_copy_49_3_66 {G : fw_K} {R : fw_KR} (hG : fw_cls st_copy_49_3 R G) {σ : ab_SG} (h : sp_cp [(2, 56, 0), (2, 10, 0)] σ (fun rv σ2 => G 77 [some (2, 3, 0), some (2, 49, 0)] (rv.toList ++ []) σ2)) : G 66 [some (2, 3, 0), some (2, 49, 0)] [] σ := fw_on hG [11, 22, 33, 44, 55, 66, 77, 88, 99, 110, 121] 200 h
theorem fs_copy_49_3_77 {G : fw_K} {R : fw_KR} (hG : fw_cls st_copy_49_3 R G) {σ : ab_SG} (h : sp_cl [(2, 57, 0), (2, 11, 0)] σ (fun rv σ2 => G 88 [some (2, 3, 0), some (2, 49, 0)] (rv.toList ++ []) σ2)) : G 77 [some (2, 3, 0), some (2, 49, 0)] [] σ := fw_on hG [11, 22, 33, 44, 55, 66, 77, 88, 99, 110, 121] 200 h
theorem fs_copy_49_3_88 {G : fw_K} {R : fw_KR} (hG : fw_cls st_copy_49_3 R G) {σ : ab_SG} (h : sp_cl [(2, 58, 0), (2, 12, 0)] σ (fun rv σ2 => G 99 [some (2, 3, 0), some (2, 49, 0)] (rv.toList ++ []) σ2)) : G 88 [some (2, 3, 0), some (2, 49, 0)] [] σ := fw_on hG [11, 22, 33, 44, 55, 66, 77, 88, 99, 110, 121] 200 h
theorem fs_copy_49_3_99 {G : fw_K} {R : fw_KR} (hG : fw_cls st_copy_49_3 R G) {σ : ab_SG} (h : sp_cl [(2, 59, 0), (2, 13, 0)] σ (fun rv σ2 => G 110 [some (2, 3, 0), some (2, 49, 0)] (rv.toList ++ []) σ2)) : G 99 [some (2, 3, 0), some (2, 49, 0)] [] σ := fw_on hG [11, 22, 33, 44, 55, 66, 77, 88, 99, 110, 121] 200 h
theorem fs_copy_49_3_110 {G : fw_K} {R : fw_KR} (hG : fw_cls st_copy_49_3 R G) {σ : ab_SG} (h : sp_scopy [(2, 14, 0), (2, 60, 0)] σ (fun rv σ2 => G 121 [some (2, 3, 0), some (2, 49, 0)] (rv.toList ++ []) σ2)) : G 110 [some (2, 3, 0), some (2, 49, 0)] [] σ := fw_on hG [11, 22, 33, 44, 55, 66, 77, 88, 99, 110, 121] 200 h
theorem fs_copy_49_3_121 {G : fw_K} {R : fw_KR} (hG : fw_cls st_copy_49_3 R G) {σ : ab_SG} (h : R none (ab_ups (ab_ups (ab_ups (ab_ups (ab_ups σ 3 11 (fw_c (σ 49 11))) 3 12 (fw_c (σ 49 12))) 3 13 (fw_c (σ 49 13))) 3 14 (fw_c (σ 49 14))) 3 15 (fw_c (σ 49 15)))) : G 121 [some (2, 3, 0), some (2, 49, 0)] [] σ := fw_on hG [11, 22, 33, 44, 55, 66, 77, 88, 99, 110, 121] 200 h
abbrev fk_copy_3_18 : List fw_CR := [(70, 2, false, 0, 0, sp_cp), (74, 2, false, 0, 0, sp_cl), (77, 1, true, 5, 1, sp_scopy)]
abbrev st_copy_3_18 : fw_K → fw_KR → fw_K := fw_st vwCl nn_sh nn_kd fw_kv fw_wc (nn_KI6.map (fun x => x.1)) (nn_KJ6.map (fun x => x.1)) (nn_PF6.map (fun x => x.1)) (nn_PS6.map (fun x => x.1)) fk_copy_3_18 2 nn_dt49 2 4
theorem fs_copy_3_18_0 {G : fw_K} {R : fw_KR} (hG : fw_cls st_copy_3_18 R G) {σ : ab_SG} (h : sp_cp [(2, 4, 0), (2, 19, 0)] σ (fun rv σ2 => G 11 [some (2, 18, 0), some (2, 3, 0)] (rv.toList ++ []) σ2)) : G 0 [some (2, 18, 0), some (2, 3, 0)] [] σ := fw_on hG [11, 22, 33, 44, 55, 66, 77, 88, 99, 110, 121] 200 h
theorem fs_copy_3_18_11 {G : fw_K} {R : fw_KR} (hG : fw_cls st_copy_3_18 R G) {σ : ab_SG} (h : sp_cp [(2, 5, 0), (2, 20, 0)] σ (fun rv σ2 => G 22 [some (2, 18, 0), some (2, 3, 0)] (rv.toList ++ []) σ2)) : G 11 [some (2, 18, 0), some (2, 3, 0)] [] σ := fw_on hG [11, 22, 33, 44, 55, 66, 77, 88, 99, 110, 121] 200 h
theorem fs_copy_3_18_22 {G : fw_K} {R : fw_KR} (hG : fw_cls st_copy_3_18 R G) {σ : ab_SG} (h : sp_cp [(2, 6, 0), (2, 21, 0)] σ (fun rv σ2 => G 33 [some (2, 18, 0), some (2, 3, 0)] (rv.toList ++ []) σ2)) : G 22 [some (2, 18, 0), some (2, 3, 0)] [] σ := fw_on hG [11, 22, 33, 44, 55, 66, 77, 88, 99, 110, 121] 200 h
theorem fs_copy_3_18_33 {G : fw_K} {R : fw_KR} (hG : fw_cls st_copy_3_18 R G) {σ : ab_SG} (h : sp_cp [(2, 7, 0), (2, 22, 0)] σ (fun rv σ2 => G 44 [some (2, 18, 0), some (2, 3, 0)] (rv.toList ++ []) σ2)) : G 33 [some (2, 18, 0), some (2, 3, 0)] [] σ := fw_on hG [11, 22, 33, 44, 55, 66, 77, 88, 99, 110, 121] 200 h
theorem fs_copy_3_18_44 {G : fw_K} {R : fw_KR} (hG : fw_cls st_copy_3_18 R G) {σ : ab_SG} (h : sp_cp [(2, 8, 0), (2, 23, 0)] σ (fun rv σ2 => G 55 [some (2, 18, 0), some (2, 3, 0)] (rv.toList ++ []) σ2)) : G 44 [some (2, 18, 0), some (2, 3, 0)] [] σ := fw_on hG [11, 22, 33, 44, 55, 66, 77, 88, 99, 110, 121] 200 h
theorem fs_copy_3_18_55 {G : fw_K} {R : fw_KR} (hG : fw_cls st_copy_3_18 R G) {σ : ab_SG} (h : sp_cp [(2, 9, 0), (2, 24, 0)] σ (fun rv σ2 => G 66 [some (2, 18, 0), some (2, 3, 0)] (rv.toList ++ []) σ2)) : G 55 [some (2, 18, 0), some (2, 3, 0)] [] σ := fw_on hG [11, 22, 33, 44, 55, 66, 77, 88, 99, 110, 121] 200 h
theorem fs_copy_3_18_66 {G : fw_K} {R : fw_KR} (hG : fw_cls st_copy_3_18 R G) {σ : ab_SG} (h : sp_cp [(2, 10, 0), (2, 25, 0)] σ (fun rv σ2 => G 77 [some (2, 18, 0), some (2, 3, 0)] (rv.toList ++ []) σ2)) : G 66 [some (2, 18, 0), some (2, 3, 0)] [] σ := fw_on hG [11, 22, 33, 44, 55, 66, 77, 88, 99, 110, 121] 200 h
theorem fs_copy_3_18_77 {G : fw_K} {R : fw_KR} (hG : fw_cls st_copy_3_18 R G) {σ : ab_SG} (h : sp_cl [(2, 11, 0), (2, 26, 0)] σ (fun rv σ2 => G 88 [some (2, 18, 0), some (2, 3, 0)] (rv.toList ++ []) σ2)) : G 77 [some (2, 18, 0), some (2, 3, 0)] [] σ := fw_on hG [11, 22, 33, 44, 55, 66, 77, 88, 99, 110, 121] 200 h
theorem fs_copy_3_18_88 {G : fw_K} {R : fw_KR} (hG : fw_cls st_copy_3_18 R G) {σ : ab_SG} (h : sp_cl [(2, 12, 0), (2, 27, 0)] σ (fun rv σ2 => G 99 [some (2, 18, 0), some (2, 3, 0)] (rv.toList ++ []) σ2)) : G 88 [some (2, 18, 0), some (2, 3, 0)] [] σ := fw_on hG [11, 22, 33, 44, 55, 66, 77, 88, 99, 110, 121] 200 h
theorem fs_copy_3_18_99 {G : fw_K} {R : fw_KR} (hG : fw_cls st_copy_3_18 R G) {σ : ab_SG} (h : sp_cl [(2, 13, 0), (2, 28, 0)] σ (fun rv σ2 => G 110 [some (2, 18, 0), some (2, 3, 0)] (rv.toList ++ []) σ2)) : G 99 [some (2, 18, 0), some (2, 3, 0)] [] σ := fw_on hG [11, 22, 33, 44, 55, 66, 77, 88, 99, 110, 121] 200 h
theorem fs_copy_3_18_110 {G : fw_K} {R : fw_KR} (hG : fw_cls st_copy_3_18 R G) {σ : ab_SG} (h : sp_scopy [(2, 29, 0), (2, 14, 0)] σ (fun rv σ2 => G 121 [some (2, 18, 0), some (2, 3, 0)] (rv.toList ++ []) σ2)) : G 110 [some (2, 18, 0), some (2, 3, 0)] [] σ := fw_on hG [11, 22, 33, 44, 55, 66, 77, 88, 99, 110, 121] 200 h
theorem fs_copy_3_18_121 {G : fw_K} {R : fw_KR} (hG : fw_cls st_copy_3_18 R G) {σ : ab_SG} (h : R none (ab_ups (ab_ups (ab_ups (ab_ups (ab_ups σ 18 11 (fw_c (σ 3 11))) 18 12 (fw_c (σ 3 12))) 18 13 (fw_c (σ 3 13))) 18 14 (fw_c (σ 3 14))) 18 15 (fw_c (σ 3 15)))) : G 121 [some (2, 18, 0), some (2, 3, 0)] [] σ := fw_on hG [11, 22, 33, 44, 55, 66, 77, 88, 99, 110, 121] 200 h
abbrev fk_copy_3_33 : List fw_CR := [(70, 2, false, 0, 0, sp_cp), (74, 2, false, 0, 0, sp_cl), (77, 1, true, 5, 1, sp_scopy)]
abbrev st_copy_3_33 : fw_K → fw_KR → fw_K := fw_st vwCl nn_sh nn_kd fw_kv fw_wc (nn_KI6.map (fun x => x.1)) (nn_KJ6.map (fun x => x.1)) (nn_PF6.map (fun x => x.1)) (nn_PS6.map (fun x => x.1)) fk_copy_3_33 2 nn_dt49 2 4
theorem fs_copy_3_33_0 {G : fw_K} {R : fw_KR} (hG : fw_cls st_copy_3_33 R G) {σ : ab_SG} (h : sp_cp [(2, 4, 0), (2, 34, 0)] σ (fun rv σ2 => G 11 [some (2, 33, 0), some (2, 3, 0)] (rv.toList ++ []) σ2)) : G 0 [some (2, 33, 0), some (2, 3, 0)] [] σ := fw_on hG [11, 22, 33, 44, 55, 66, 77, 88, 99, 110, 121] 200 h
theorem fs_copy_3_33_11 {G : fw_K} {R : fw_KR} (hG : fw_cls st_copy_3_33 R G) {σ : ab_SG} (h : sp_cp [(2, 5, 0), (2, 35, 0)] σ (fun rv σ2 => G 22 [some (2, 33, 0), some (2, 3, 0)] (rv.toList ++ []) σ2)) : G 11 [some (2, 33, 0), some (2, 3, 0)] [] σ := fw_on hG [11, 22, 33, 44, 55, 66, 77, 88, 99, 110, 121] 200 h
theorem fs_copy_3_33_22 {G : fw_K} {R : fw_KR} (hG : fw_cls st_copy_3_33 R G) {σ : ab_SG} (h : sp_cp [(2, 6, 0), (2, 36, 0)] σ (fun rv σ2 => G 33 [some (2, 33, 0), some (2, 3, 0)] (rv.toList ++ []) σ2)) : G 22 [some (2, 33, 0), some (2, 3, 0)] [] σ := fw_on hG [11, 22, 33, 44, 55, 66, 77, 88, 99, 110, 121] 200 h
theorem fs_copy_3_33_33 {G : fw_K} {R : fw_KR} (hG : fw_cls st_copy_3_33 R G) {σ : ab_SG} (h : sp_cp [(2, 7, 0), (2, 37, 0)] σ (fun rv σ2 => G 44 [some (2, 33, 0), some (2, 3, 0)] (rv.toList ++ []) σ2)) : G 33 [some (2, 33, 0), some (2, 3, 0)] [] σ := fw_on hG [11, 22, 33, 44, 55, 66, 77, 88, 99, 110, 121] 200 h
theorem fs_copy_3_33_44 {G : fw_K} {R : fw_KR} (hG : fw_cls st_copy_3_33 R G) {σ : ab_SG} (h : sp_cp [(2, 8, 0), (2, 38, 0)] σ (fun rv σ2 => G 55 [some (2, 33, 0), some (2, 3, 0)] (rv.toList ++ []) σ2)) : G 44 [some (2, 33, 0), some (2, 3, 0)] [] σ := fw_on hG [11, 22, 33, 44, 55, 66, 77, 88, 99, 110, 121] 200 h
theorem fs_copy_3_33_55 {G : fw_K} {R : fw_KR} (hG : fw_cls st_copy_3_33 R G) {σ : ab_SG} (h : sp_cp [(2, 9, 0), (2, 39, 0)] σ (fun rv σ2 => G 66 [some (2, 33, 0), some (2, 3, 0)] (rv.toList ++ []) σ2)) : G 55 [some (2, 33, 0), some (2, 3, 0)] [] σ := fw_on hG [11, 22, 33, 44, 55, 66, 77, 88, 99, 110, 121] 200 h
theorem fs_copy_3_33_66 {G : fw_K} {R : fw_KR} (hG : fw_cls st_copy_3_33 R G) {σ : ab_SG} (h : sp_cp [(2, 10, 0), (2, 40, 0)] σ (fun rv σ2 => G 77 [some (2, 33, 0), some (2, 3, 0)] (rv.toList ++ []) σ2)) : G 66 [some (2, 33, 0), some (2, 3, 0)] [] σ := fw_on hG [11, 22, 33, 44, 55, 66, 77, 88, 99, 110, 121] 200 h
theorem fs_copy_3_33_77 {G : fw_K} {R : fw_KR} (hG : fw_cls st_copy_3_33 R G) {σ : ab_SG} (h : sp_cl [(2, 11, 0), (2, 41, 0)] σ (fun rv σ2 => G 88 [some (2, 33, 0), some (2, 3, 0)] (rv.toList ++ []) σ2)) : G 77 [some (2, 33, 0), some (2, 3, 0)] [] σ := fw_on hG [11, 22, 33, 44, 55, 66, 77, 88, 99, 110, 121] 200 h
theorem fs_copy_3_33_88 {G : fw_K} {R : fw_KR} (hG : fw_cls st_copy_3_33 R G) {σ : ab_SG} (h : sp_cl [(2, 12, 0), (2, 42, 0)] σ (fun rv σ2 => G 99 [some (2, 33, 0), some (2, 3, 0)] (rv.toList ++ []) σ2)) : G 88 [some (2, 33, 0), some (2, 3, 0)] [] σ := fw_on hG [11, 22, 33, 44, 55, 66, 77, 88, 99, 110, 121] 200 h
theorem fs_copy_3_33_99 {G : fw_K} {R : fw_KR} (hG : fw_cls st_copy_3_33 R G) {σ : ab_SG} (h : sp_cl [(2, 13, 0), (2, 43, 0)] σ (fun rv σ2 => G 110 [some (2, 33, 0), some (2, 3, 0)] (rv.toList ++ []) σ2)) : G 99 [some (2, 33, 0), some (2, 3, 0)] [] σ := fw_on hG [11, 22, 33, 44, 55, 66, 77, 88, 99, 110, 121] 200 h
theorem fs_copy_3_33_110 {G : fw_K} {R : fw_KR} (hG : fw_cls st_copy_3_33 R G) {σ : ab_SG} (h : sp_scopy [(2, 44, 0), (2, 14, 0)] σ (fun rv σ2 => G 121 [some (2, 33, 0), some (2, 3, 0)] (rv.toList ++ []) σ2)) : G 110 [some (2, 33, 0), some (2, 3, 0)] [] σ := fw_on hG [11, 22, 33, 44, 55, 66, 77, 88, 99, 110, 121] 200 h
theorem fs_copy_3_33_121 {G : fw_K} {R : fw_KR} (hG : fw_cls st_copy_3_33 R G) {σ : ab_SG} (h : R none (ab_ups (ab_ups (ab_ups (ab_ups (ab_ups σ 33 11 (fw_c (σ 3 11))) 33 12 (fw_c (σ 3 12))) 33 13 (fw_c (σ 3 13))) 33 14 (fw_c (σ 3 14))) 33 15 (fw_c (σ 3 15)))) : G 121 [some (2, 33, 0), some (2, 3, 0)] [] σ := fw_on hG [11, 22, 33, 44, 55, 66, 77, 88, 99, 110, 121] 200 h
abbrev fk_copy_18_3 : List fw_CR := [(70, 2, false, 0, 0, sp_cp), (74, 2, false, 0, 0, sp_cl), (77, 1, true, 5, 1, sp_scopy)]
abbrev st_copy_18_3 : fw_K → fw_KR → fw_K := fw_st vwCl nn_sh nn_kd fw_kv fw_wc (nn_KI6.map (fun x => x.1)) (nn_KJ6.map (fun x => x.1)) (nn_PF6.map (fun x => x.1)) (nn_PS6.map (fun x => x.1)) fk_copy_18_3 2 nn_dt49 2 4
theorem fs_copy_18_3_0 {G : fw_K} {R : fw_KR} (hG : fw_cls st_copy_18_3 R G) {σ : ab_SG} (h : sp_cp [(2, 19, 0), (2, 4, 0)] σ (fun rv σ2 => G 11 [some (2, 3, 0), some (2, 18, 0)] (rv.toList ++ []) σ2)) : G 0 [some (2, 3, 0), some (2, 18, 0)] [] σ := fw_on hG [11, 22, 33, 44, 55, 66, 77, 88, 99, 110, 121] 200 h
theorem fs_copy_18_3_11 {G : fw_K} {R : fw_KR} (hG : fw_cls st_copy_18_3 R G) {σ : ab_SG} (h : sp_cp [(2, 20, 0), (2, 5, 0)] σ (fun rv σ2 => G 22 [some (2, 3, 0), some (2, 18, 0)] (rv.toList ++ []) σ2)) : G 11 [some (2, 3, 0), some (2, 18, 0)] [] σ := fw_on hG [11, 22, 33, 44, 55, 66, 77, 88, 99, 110, 121] 200 h
theorem fs_copy_18_3_22 {G : fw_K} {R : fw_KR} (hG : fw_cls st_copy_18_3 R G) {σ : ab_SG} (h : sp_cp [(2, 21, 0), (2, 6, 0)] σ (fun rv σ2 => G 33 [some (2, 3, 0), some (2, 18, 0)] (rv.toList ++ []) σ2)) : G 22 [some (2, 3, 0), some (2, 18, 0)] [] σ := fw_on hG [11, 22, 33, 44, 55, 66, 77, 88, 99, 110, 121] 200 h
theorem fs_copy_18_3_33 {G : fw_K} {R : fw_KR} (hG : fw_cls st_copy_18_3 R G) {σ : ab_SG} (h : sp_cp [(2, 22, 0), (2, 7, 0)] σ (fun rv σ2 => G 44 [some (2, 3, 0), some (2, 18, 0)] (rv.toList ++ []) σ2)) : G 33 [some (2, 3, 0), some (2, 18, 0)] [] σ := fw_on hG [11, 22, 33, 44, 55, 66, 77, 88, 99, 110, 121] 200 h
theorem fs_copy_18_3_44 {G : fw_K} {R : fw_KR} (hG : fw_cls st_copy_18_3 R G) {σ : ab_SG} (h : sp_cp [(2, 23, 0), (2, 8, 0)] σ (fun rv σ2 => G 55 [some (2, 3, 0), some (2, 18, 0)] (rv.toList ++ []) σ2)) : G 44 [some (2, 3, 0), some (2, 18, 0)] [] σ := fw_on hG [11, 22, 33, 44, 55, 66, 77, 88, 99, 110, 121] 200 h
theorem fs_copy_18_3_55 {G : fw_K} {R : fw_KR} (hG : fw_cls st_copy_18_3 R G) {σ : ab_SG} (h : sp_cp [(2, 24, 0), (2, 9, 0)] σ (fun rv σ2 => G 66 [some (2, 3, 0), some (2, 18, 0)] (rv.toList ++ []) σ2)) : G 55 [some (2, 3, 0), some (2, 18, 0)] [] σ := fw_on hG [11, 22, 33, 44, 55, 66, 77, 88, 99, 110, 121] 200 h
theorem fs_copy_18_3_66 {G : fw_K} {R : fw_KR} (hG : fw_cls st_copy_18_3 R G) {σ : ab_SG} (h : sp_cp [(2, 25, 0), (2, 10, 0)] σ (fun rv σ2 => G 77 [some (2, 3, 0), some (2, 18, 0)] (rv.toList ++ []) σ2)) : G 66 [some (2, 3, 0), some (2, 18, 0)] [] σ := fw_on hG [11, 22, 33, 44, 55, 66, 77, 88, 99, 110, 121] 200 h
theorem fs_copy_18_3_77 {G : fw_K} {R : fw_KR} (hG : fw_cls st_copy_18_3 R G) {σ : ab_SG} (h : sp_cl [(2, 26, 0), (2, 11, 0)] σ (fun rv σ2 => G 88 [some (2, 3, 0), some (2, 18, 0)] (rv.toList ++ []) σ2)) : G 77 [some (2, 3, 0), some (2, 18, 0)] [] σ := fw_on hG [11, 22, 33, 44, 55, 66, 77, 88, 99, 110, 121] 200 h
theorem fs_copy_18_3_88 {G : fw_K} {R : fw_KR} (hG : fw_cls st_copy_18_3 R G) {σ : ab_SG} (h : sp_cl [(2, 27, 0), (2, 12, 0)] σ (fun rv σ2 => G 99 [some (2, 3, 0), some (2, 18, 0)] (rv.toList ++ []) σ2)) : G 88 [some (2, 3, 0), some (2, 18, 0)] [] σ := fw_on hG [11, 22, 33, 44, 55, 66, 77, 88, 99, 110, 121] 200 h
theorem fs_copy_18_3_99 {G : fw_K} {R : fw_KR} (hG : fw_cls st_copy_18_3 R G) {σ : ab_SG} (h : sp_cl [(2, 28, 0), (2, 13, 0)] σ (fun rv σ2 => G 110 [some (2, 3, 0), some (2, 18, 0)] (rv.toList ++ []) σ2)) : G 99 [some (2, 3, 0), some (2, 18, 0)] [] σ := fw_on hG [11, 22, 33, 44, 55, 66, 77, 88, 99, 110, 121] 200 h
theorem fs_copy_18_3_110 {G : fw_K} {R : fw_KR} (hG : fw_cls st_copy_18_3 R G) {σ : ab_SG} (h : sp_scopy [(2, 14, 0), (2, 29, 0)] σ (fun rv σ2 => G 121 [some (2, 3, 0), some (2, 18, 0)] (rv.toList ++ []) σ2)) : G 110 [some (2, 3, 0), some (2, 18, 0)] [] σ := fw_on hG [11, 22, 33, 44, 55, 66, 77, 88, 99, 110, 121] 200 h
theorem fs_copy_18_3_121 {G : fw_K} {R : fw_KR} (hG : fw_cls st_copy_18_3 R G) {σ : ab_SG} (h : R none (ab_ups (ab_ups (ab_ups (ab_ups (ab_ups σ 3 11 (fw_c (σ 18 11))) 3 12 (fw_c (σ 18 12))) 3 13 (fw_c (σ 18 13))) 3 14 (fw_c (σ 18 14))) 3 15 (fw_c (σ 18 15)))) : G 121 [some (2, 3, 0), some (2, 18, 0)] [] σ := fw_on hG [11, 22, 33, 44, 55, 66, 77, 88, 99, 110, 121] 200 h
abbrev fk_copy_33_3 : List fw_CR := [(70, 2, false, 0, 0, sp_cp), (74, 2, false, 0, 0, sp_cl), (77, 1, true, 5, 1, sp_scopy)]
abbrev st_copy_33_3 : fw_K → fw_KR → fw_K := fw_st vwCl nn_sh nn_kd fw_kv fw_wc (nn_KI6.map (fun x => x.1)) (nn_KJ6.map (fun x => x.1)) (nn_PF6.map (fun x => x.1)) (nn_PS6.map (fun x => x.1)) fk_copy_33_3 2 nn_dt49 2 4
theorem fs_copy_33_3_0 {G : fw_K} {R : fw_KR} (hG : fw_cls st_copy_33_3 R G) {σ : ab_SG} (h : sp_cp [(2, 34, 0), (2, 4, 0)] σ (fun rv σ2 => G 11 [some (2, 3, 0), some (2, 33, 0)] (rv.toList ++ []) σ2)) : G 0 [some (2, 3, 0), some (2, 33, 0)] [] σ := fw_on hG [11, 22, 33, 44, 55, 66, 77, 88, 99, 110, 121] 200 h
theorem fs_copy_33_3_11 {G : fw_K} {R : fw_KR} (hG : fw_cls st_copy_33_3 R G) {σ : ab_SG} (h : sp_cp [(2, 35, 0), (2, 5, 0)] σ (fun rv σ2 => G 22 [some (2, 3, 0), some (2, 33, 0)] (rv.toList ++ []) σ2)) : G 11 [some (2, 3, 0), some (2, 33, 0)] [] σ := fw_on hG [11, 22, 33, 44, 55, 66, 77, 88, 99, 110, 121] 200 h
theorem fs_copy_33_3_22 {G : fw_K} {R : fw_KR} (hG : fw_cls st_copy_33_3 R G) {σ : ab_SG} (h : sp_cp [(2, 36, 0), (2, 6, 0)] σ (fun rv σ2 => G 33 [some (2, 3, 0), some (2, 33, 0)] (rv.toList ++ []) σ2)) : G 22 [some (2, 3, 0), some (2, 33, 0)] [] σ := fw_on hG [11, 22, 33, 44, 55, 66, 77, 88, 99, 110, 121] 200 h
theorem fs_copy_33_3_33 {G : fw_K} {R : fw_KR} (hG : fw_cls st_copy_33_3 R G) {σ : ab_SG} (h : sp_cp [(2, 37, 0), (2, 7, 0)] σ (fun rv σ2 => G 44 [some (2, 3, 0), some (2, 33, 0)] (rv.toList ++ []) σ2)) : G 33 [some (2, 3, 0), some (2, 33, 0)] [] σ := fw_on hG [11, 22, 33, 44, 55, 66, 77, 88, 99, 110, 121] 200 h
theorem fs_copy_33_3_44 {G : fw_K} {R : fw_KR} (hG : fw_cls st_copy_33_3 R G) {σ : ab_SG} (h : sp_cp [(2, 38, 0), (2, 8, 0)] σ (fun rv σ2 => G 55 [some (2, 3, 0), some (2, 33, 0)] (rv.toList ++ []) σ2)) : G 44 [some (2, 3, 0), some (2, 33, 0)] [] σ := fw_on hG [11, 22, 33, 44, 55, 66, 77, 88, 99, 110, 121] 200 h
theorem fs_copy_33_3_55 {G : fw_K} {R : fw_KR} (hG : fw_cls st_copy_33_3 R G) {σ : ab_SG} (h : sp_cp [(2, 39, 0), (2, 9, 0)] σ (fun rv σ2 => G 66 [some (2, 3, 0), some (2, 33, 0)] (rv.toList ++ []) σ2)) : G 55 [some (2, 3, 0), some (2, 33, 0)] [] σ := fw_on hG [11, 22, 33, 44, 55, 66, 77, 88, 99, 110, 121] 200 h
theorem fs_copy_33_3_66 {G : fw_K} {R : fw_KR} (hG : fw_cls st_copy_33_3 R G) {σ : ab_SG} (h : sp_cp [(2, 40, 0), (2, 10, 0)] σ (fun rv σ2 => G 77 [some (2, 3, 0), some (2, 33, 0)] (rv.toList ++ []) σ2)) : G 66 [some (2, 3, 0), some (2, 33, 0)] [] σ := fw_on hG [11, 22, 33, 44, 55, 66, 77, 88, 99, 110, 121] 200 h
theorem fs_copy_33_3_77 {G : fw_K} {R : fw_KR} (hG : fw_cls st_copy_33_3 R G) {σ : ab_SG} (h : sp_cl [(2, 41, 0), (2, 11, 0)] σ (fun rv σ2 => G 88 [some (2, 3, 0), some (2, 33, 0)] (rv.toList ++ []) σ2)) : G 77 [some (2, 3, 0), some (2, 33, 0)] [] σ := fw_on hG [11, 22, 33, 44, 55, 66, 77, 88, 99, 110, 121] 200 h
theorem fs_copy_33_3_88 {G : fw_K} {R : fw_KR} (hG : fw_cls st_copy_33_3 R G) {σ : ab_SG} (h : sp_cl [(2, 42, 0), (2, 12, 0)] σ (fun rv σ2 => G 99 [some (2, 3, 0), some (2, 33, 0)] (rv.toList ++ []) σ2)) : G 88 [some (2, 3, 0), some (2, 33, 0)] [] σ := fw_on hG [11, 22, 33, 44, 55, 66, 77, 88, 99, 110, 121] 200 h
theorem fs_copy_33_3_99 {G : fw_K} {R : fw_KR} (hG : fw_cls st_copy_33_3 R G) {σ : ab_SG} (h : sp_cl [(2, 43, 0), (2, 13, 0)] σ (fun rv σ2 => G 110 [some (2, 3, 0), some (2, 33, 0)] (rv.toList ++ []) σ2)) : G 99 [some (2, 3, 0), some (2, 33, 0)] [] σ := fw_on hG [11, 22, 33, 44, 55, 66, 77, 88, 99, 110, 121] 200 h
theorem fs_copy_33_3_110 {G : fw_K} {R : fw_KR} (hG : fw_cls st_copy_33_3 R G) {σ : ab_SG} (h : sp_scopy [(2, 14, 0), (2, 44, 0)] σ (fun rv σ2 => G 121 [some (2, 3, 0), some (2, 33, 0)] (rv.toList ++ []) σ2)) : G 110 [some (2, 3, 0), some (2, 33, 0)] [] σ := fw_on hG [11, 22, 33, 44, 55, 66, 77, 88, 99, 110, 121] 200 h
theorem fs_copy_33_3_121 {G : fw_K} {R : fw_KR} (hG : fw_cls st_copy_33_3 R G) {σ : ab_SG} (h : R none (ab_ups (ab_ups (ab_ups (ab_ups (ab_ups σ 3 11 (fw_c (σ 33 11))) 3 12 (fw_c (σ 33 12))) 3 13 (fw_c (σ 33 13))) 3 14 (fw_c (σ 33 14))) 3 15 (fw_c (σ 33 15)))) : G 121 [some (2, 3, 0), some (2, 33, 0)] [] σ := fw_on hG [11, 22, 33, 44, 55, 66, 77, 88, 99, 110, 121] 200 h
section
variable {l : Launch} {cy : Nat → ClassId} {ad wr cr : Nat → Nat} {D : va_G}
theorem fm_cp_50_4 (hinj : nn_inj ad) : fw_H l cy ad wr cr D 50 0 (cp_k 50 4 81) := fw_mk hinj (⟨"NameNotes", "copyRow", "([I[I)V"⟩, prog_1_method_88_code, 3, (Option.none : Option Jvm.ClassFile.FieldType), 2, false, 4) rfl rfl nn_KI1_ok nn_KJ1_ok nn_PF1_ok nn_PS1_ok (by decide +kernel) rfl rfl (fun _ h => absurd h List.not_mem_nil) (fun as σ K h => by
  obtain ⟨rfl, h⟩ := h
  exact ⟨rfl, fun G hG => fs_cp_50_4_0 hG (cp_gen (a := 50) (b := 4) (n := 81) (f := fw_c) (K := K) (σ := σ) (G2 := fun i σ1 => G 2 [some (2, 50, 0), some (2, 4, 0), some (0, 0, i)] [] σ1) (by decide) (by decide) (fun a2 σ1 q => fs_cp_50_4_2 hG q) h)⟩)
theorem fm_cp_51_5 (hinj : nn_inj ad) : fw_H l cy ad wr cr D 50 0 (cp_k 51 5 81) := fw_mk hinj (⟨"NameNotes", "copyRow", "([I[I)V"⟩, prog_1_method_88_code, 3, (Option.none : Option Jvm.ClassFile.FieldType), 2, false, 4) rfl rfl nn_KI1_ok nn_KJ1_ok nn_PF1_ok nn_PS1_ok (by decide +kernel) rfl rfl (fun _ h => absurd h List.not_mem_nil) (fun as σ K h => by
  obtain ⟨rfl, h⟩ := h
  exact ⟨rfl, fun G hG => fs_cp_51_5_0 hG (cp_gen (a := 51) (b := 5) (n := 81) (f := fw_c) (K := K) (σ := σ) (G2 := fun i σ1 => G 2 [some (2, 51, 0), some (2, 5, 0), some (0, 0, i)] [] σ1) (by decide) (by decide) (fun a2 σ1 q => fs_cp_51_5_2 hG q) h)⟩)
theorem fm_cp_52_6 (hinj : nn_inj ad) : fw_H l cy ad wr cr D 50 0 (cp_k 52 6 9) := fw_mk hinj (⟨"NameNotes", "copyRow", "([I[I)V"⟩, prog_1_method_88_code, 3, (Option.none : Option Jvm.ClassFile.FieldType), 2, false, 4) rfl rfl nn_KI1_ok nn_KJ1_ok nn_PF1_ok nn_PS1_ok (by decide +kernel) rfl rfl (fun _ h => absurd h List.not_mem_nil) (fun as σ K h => by
  obtain ⟨rfl, h⟩ := h
  exact ⟨rfl, fun G hG => fs_cp_52_6_0 hG (cp_gen (a := 52) (b := 6) (n := 9) (f := fw_c) (K := K) (σ := σ) (G2 := fun i σ1 => G 2 [some (2, 52, 0), some (2, 6, 0), some (0, 0, i)] [] σ1) (by decide) (by decide) (fun a2 σ1 q => fs_cp_52_6_2 hG q) h)⟩)
theorem fm_cp_53_7 (hinj : nn_inj ad) : fw_H l cy ad wr cr D 50 0 (cp_k 53 7 324) := fw_mk hinj (⟨"NameNotes", "copyRow", "([I[I)V"⟩, prog_1_method_88_code, 3, (Option.none : Option Jvm.ClassFile.FieldType), 2, false, 4) rfl rfl nn_KI1_ok nn_KJ1_ok nn_PF1_ok nn_PS1_ok (by decide +kernel) rfl rfl (fun _ h => absurd h List.not_mem_nil) (fun as σ K h => by
  obtain ⟨rfl, h⟩ := h
  exact ⟨rfl, fun G hG => fs_cp_53_7_0 hG (cp_gen (a := 53) (b := 7) (n := 324) (f := fw_c) (K := K) (σ := σ) (G2 := fun i σ1 => G 2 [some (2, 53, 0), some (2, 7, 0), some (0, 0, i)] [] σ1) (by decide) (by decide) (fun a2 σ1 q => fs_cp_53_7_2 hG q) h)⟩)
theorem fm_cp_54_8 (hinj : nn_inj ad) : fw_H l cy ad wr cr D 50 0 (cp_k 54 8 6) := fw_mk hinj (⟨"NameNotes", "copyRow", "([I[I)V"⟩, prog_1_method_88_code, 3, (Option.none : Option Jvm.ClassFile.FieldType), 2, false, 4) rfl rfl nn_KI1_ok nn_KJ1_ok nn_PF1_ok nn_PS1_ok (by decide +kernel) rfl rfl (fun _ h => absurd h List.not_mem_nil) (fun as σ K h => by
  obtain ⟨rfl, h⟩ := h
  exact ⟨rfl, fun G hG => fs_cp_54_8_0 hG (cp_gen (a := 54) (b := 8) (n := 6) (f := fw_c) (K := K) (σ := σ) (G2 := fun i σ1 => G 2 [some (2, 54, 0), some (2, 8, 0), some (0, 0, i)] [] σ1) (by decide) (by decide) (fun a2 σ1 q => fs_cp_54_8_2 hG q) h)⟩)
theorem fm_cp_55_9 (hinj : nn_inj ad) : fw_H l cy ad wr cr D 50 0 (cp_k 55 9 45) := fw_mk hinj (⟨"NameNotes", "copyRow", "([I[I)V"⟩, prog_1_method_88_code, 3, (Option.none : Option Jvm.ClassFile.FieldType), 2, false, 4) rfl rfl nn_KI1_ok nn_KJ1_ok nn_PF1_ok nn_PS1_ok (by decide +kernel) rfl rfl (fun _ h => absurd h List.not_mem_nil) (fun as σ K h => by
  obtain ⟨rfl, h⟩ := h
  exact ⟨rfl, fun G hG => fs_cp_55_9_0 hG (cp_gen (a := 55) (b := 9) (n := 45) (f := fw_c) (K := K) (σ := σ) (G2 := fun i σ1 => G 2 [some (2, 55, 0), some (2, 9, 0), some (0, 0, i)] [] σ1) (by decide) (by decide) (fun a2 σ1 q => fs_cp_55_9_2 hG q) h)⟩)
theorem fm_cp_56_10 (hinj : nn_inj ad) : fw_H l cy ad wr cr D 50 0 (cp_k 56 10 5) := fw_mk hinj (⟨"NameNotes", "copyRow", "([I[I)V"⟩, prog_1_method_88_code, 3, (Option.none : Option Jvm.ClassFile.FieldType), 2, false, 4) rfl rfl nn_KI1_ok nn_KJ1_ok nn_PF1_ok nn_PS1_ok (by decide +kernel) rfl rfl (fun _ h => absurd h List.not_mem_nil) (fun as σ K h => by
  obtain ⟨rfl, h⟩ := h
  exact ⟨rfl, fun G hG => fs_cp_56_10_0 hG (cp_gen (a := 56) (b := 10) (n := 5) (f := fw_c) (K := K) (σ := σ) (G2 := fun i σ1 => G 2 [some (2, 56, 0), some (2, 10, 0), some (0, 0, i)] [] σ1) (by decide) (by decide) (fun a2 σ1 q => fs_cp_56_10_2 hG q) h)⟩)
theorem fm_cp_61_15 (hinj : nn_inj ad) : fw_H l cy ad wr cr D 50 0 (cp_k 61 15 64) := fw_mk hinj (⟨"NameNotes", "copyRow", "([I[I)V"⟩, prog_1_method_88_code, 3, (Option.none : Option Jvm.ClassFile.FieldType), 2, false, 4) rfl rfl nn_KI1_ok nn_KJ1_ok nn_PF1_ok nn_PS1_ok (by decide +kernel) rfl rfl (fun _ h => absurd h List.not_mem_nil) (fun as σ K h => by
  obtain ⟨rfl, h⟩ := h
  exact ⟨rfl, fun G hG => fs_cp_61_15_0 hG (cp_gen (a := 61) (b := 15) (n := 64) (f := fw_c) (K := K) (σ := σ) (G2 := fun i σ1 => G 2 [some (2, 61, 0), some (2, 15, 0), some (0, 0, i)] [] σ1) (by decide) (by decide) (fun a2 σ1 q => fs_cp_61_15_2 hG q) h)⟩)
theorem fm_cp_62_16 (hinj : nn_inj ad) : fw_H l cy ad wr cr D 50 0 (cp_k 62 16 64) := fw_mk hinj (⟨"NameNotes", "copyRow", "([I[I)V"⟩, prog_1_method_88_code, 3, (Option.none : Option Jvm.ClassFile.FieldType), 2, false, 4) rfl rfl nn_KI1_ok nn_KJ1_ok nn_PF1_ok nn_PS1_ok (by decide +kernel) rfl rfl (fun _ h => absurd h List.not_mem_nil) (fun as σ K h => by
  obtain ⟨rfl, h⟩ := h
  exact ⟨rfl, fun G hG => fs_cp_62_16_0 hG (cp_gen (a := 62) (b := 16) (n := 64) (f := fw_c) (K := K) (σ := σ) (G2 := fun i σ1 => G 2 [some (2, 62, 0), some (2, 16, 0), some (0, 0, i)] [] σ1) (by decide) (by decide) (fun a2 σ1 q => fs_cp_62_16_2 hG q) h)⟩)
theorem fm_cp_4_19 (hinj : nn_inj ad) : fw_H l cy ad wr cr D 50 0 (cp_k 4 19 81) := fw_mk hinj (⟨"NameNotes", "copyRow", "([I[I)V"⟩, prog_1_method_88_code, 3, (Option.none : Option Jvm.ClassFile.FieldType), 2, false, 4) rfl rfl nn_KI1_ok nn_KJ1_ok nn_PF1_ok nn_PS1_ok (by decide +kernel) rfl rfl (fun _ h => absurd h List.not_mem_nil) (fun as σ K h => by
  obtain ⟨rfl, h⟩ := h
  exact ⟨rfl, fun G hG => fs_cp_4_19_0 hG (cp_gen (a := 4) (b := 19) (n := 81) (f := fw_c) (K := K) (σ := σ) (G2 := fun i σ1 => G 2 [some (2, 4, 0), some (2, 19, 0), some (0, 0, i)] [] σ1) (by decide) (by decide) (fun a2 σ1 q => fs_cp_4_19_2 hG q) h)⟩)
theorem fm_cp_5_20 (hinj : nn_inj ad) : fw_H l cy ad wr cr D 50 0 (cp_k 5 20 81) := fw_mk hinj (⟨"NameNotes", "copyRow", "([I[I)V"⟩, prog_1_method_88_code, 3, (Option.none : Option Jvm.ClassFile.FieldType), 2, false, 4) rfl rfl nn_KI1_ok nn_KJ1_ok nn_PF1_ok nn_PS1_ok (by decide +kernel) rfl rfl (fun _ h => absurd h List.not_mem_nil) (fun as σ K h => by
  obtain ⟨rfl, h⟩ := h
  exact ⟨rfl, fun G hG => fs_cp_5_20_0 hG (cp_gen (a := 5) (b := 20) (n := 81) (f := fw_c) (K := K) (σ := σ) (G2 := fun i σ1 => G 2 [some (2, 5, 0), some (2, 20, 0), some (0, 0, i)] [] σ1) (by decide) (by decide) (fun a2 σ1 q => fs_cp_5_20_2 hG q) h)⟩)
theorem fm_cp_6_21 (hinj : nn_inj ad) : fw_H l cy ad wr cr D 50 0 (cp_k 6 21 9) := fw_mk hinj (⟨"NameNotes", "copyRow", "([I[I)V"⟩, prog_1_method_88_code, 3, (Option.none : Option Jvm.ClassFile.FieldType), 2, false, 4) rfl rfl nn_KI1_ok nn_KJ1_ok nn_PF1_ok nn_PS1_ok (by decide +kernel) rfl rfl (fun _ h => absurd h List.not_mem_nil) (fun as σ K h => by
  obtain ⟨rfl, h⟩ := h
  exact ⟨rfl, fun G hG => fs_cp_6_21_0 hG (cp_gen (a := 6) (b := 21) (n := 9) (f := fw_c) (K := K) (σ := σ) (G2 := fun i σ1 => G 2 [some (2, 6, 0), some (2, 21, 0), some (0, 0, i)] [] σ1) (by decide) (by decide) (fun a2 σ1 q => fs_cp_6_21_2 hG q) h)⟩)
theorem fm_cp_7_22 (hinj : nn_inj ad) : fw_H l cy ad wr cr D 50 0 (cp_k 7 22 324) := fw_mk hinj (⟨"NameNotes", "copyRow", "([I[I)V"⟩, prog_1_method_88_code, 3, (Option.none : Option Jvm.ClassFile.FieldType), 2, false, 4) rfl rfl nn_KI1_ok nn_KJ1_ok nn_PF1_ok nn_PS1_ok (by decide +kernel) rfl rfl (fun _ h => absurd h List.not_mem_nil) (fun as σ K h => by
  obtain ⟨rfl, h⟩ := h
  exact ⟨rfl, fun G hG => fs_cp_7_22_0 hG (cp_gen (a := 7) (b := 22) (n := 324) (f := fw_c) (K := K) (σ := σ) (G2 := fun i σ1 => G 2 [some (2, 7, 0), some (2, 22, 0), some (0, 0, i)] [] σ1) (by decide) (by decide) (fun a2 σ1 q => fs_cp_7_22_2 hG q) h)⟩)
theorem fm_cp_8_23 (hinj : nn_inj ad) : fw_H l cy ad wr cr D 50 0 (cp_k 8 23 6) := fw_mk hinj (⟨"NameNotes", "copyRow", "([I[I)V"⟩, prog_1_method_88_code, 3, (Option.none : Option Jvm.ClassFile.FieldType), 2, false, 4) rfl rfl nn_KI1_ok nn_KJ1_ok nn_PF1_ok nn_PS1_ok (by decide +kernel) rfl rfl (fun _ h => absurd h List.not_mem_nil) (fun as σ K h => by
  obtain ⟨rfl, h⟩ := h
  exact ⟨rfl, fun G hG => fs_cp_8_23_0 hG (cp_gen (a := 8) (b := 23) (n := 6) (f := fw_c) (K := K) (σ := σ) (G2 := fun i σ1 => G 2 [some (2, 8, 0), some (2, 23, 0), some (0, 0, i)] [] σ1) (by decide) (by decide) (fun a2 σ1 q => fs_cp_8_23_2 hG q) h)⟩)
theorem fm_cp_9_24 (hinj : nn_inj ad) : fw_H l cy ad wr cr D 50 0 (cp_k 9 24 45) := fw_mk hinj (⟨"NameNotes", "copyRow", "([I[I)V"⟩, prog_1_method_88_code, 3, (Option.none : Option Jvm.ClassFile.FieldType), 2, false, 4) rfl rfl nn_KI1_ok nn_KJ1_ok nn_PF1_ok nn_PS1_ok (by decide +kernel) rfl rfl (fun _ h => absurd h List.not_mem_nil) (fun as σ K h => by
  obtain ⟨rfl, h⟩ := h
  exact ⟨rfl, fun G hG => fs_cp_9_24_0 hG (cp_gen (a := 9) (b := 24) (n := 45) (f := fw_c) (K := K) (σ := σ) (G2 := fun i σ1 => G 2 [some (2, 9, 0), some (2, 24, 0), some (0, 0, i)] [] σ1) (by decide) (by decide) (fun a2 σ1 q => fs_cp_9_24_2 hG q) h)⟩)
theorem fm_cp_10_25 (hinj : nn_inj ad) : fw_H l cy ad wr cr D 50 0 (cp_k 10 25 5) := fw_mk hinj (⟨"NameNotes", "copyRow", "([I[I)V"⟩, prog_1_method_88_code, 3, (Option.none : Option Jvm.ClassFile.FieldType), 2, false, 4) rfl rfl nn_KI1_ok nn_KJ1_ok nn_PF1_ok nn_PS1_ok (by decide +kernel) rfl rfl (fun _ h => absurd h List.not_mem_nil) (fun as σ K h => by
  obtain ⟨rfl, h⟩ := h
  exact ⟨rfl, fun G hG => fs_cp_10_25_0 hG (cp_gen (a := 10) (b := 25) (n := 5) (f := fw_c) (K := K) (σ := σ) (G2 := fun i σ1 => G 2 [some (2, 10, 0), some (2, 25, 0), some (0, 0, i)] [] σ1) (by decide) (by decide) (fun a2 σ1 q => fs_cp_10_25_2 hG q) h)⟩)
theorem fm_cp_15_30 (hinj : nn_inj ad) : fw_H l cy ad wr cr D 50 0 (cp_k 15 30 64) := fw_mk hinj (⟨"NameNotes", "copyRow", "([I[I)V"⟩, prog_1_method_88_code, 3, (Option.none : Option Jvm.ClassFile.FieldType), 2, false, 4) rfl rfl nn_KI1_ok nn_KJ1_ok nn_PF1_ok nn_PS1_ok (by decide +kernel) rfl rfl (fun _ h => absurd h List.not_mem_nil) (fun as σ K h => by
  obtain ⟨rfl, h⟩ := h
  exact ⟨rfl, fun G hG => fs_cp_15_30_0 hG (cp_gen (a := 15) (b := 30) (n := 64) (f := fw_c) (K := K) (σ := σ) (G2 := fun i σ1 => G 2 [some (2, 15, 0), some (2, 30, 0), some (0, 0, i)] [] σ1) (by decide) (by decide) (fun a2 σ1 q => fs_cp_15_30_2 hG q) h)⟩)
theorem fm_cp_16_31 (hinj : nn_inj ad) : fw_H l cy ad wr cr D 50 0 (cp_k 16 31 64) := fw_mk hinj (⟨"NameNotes", "copyRow", "([I[I)V"⟩, prog_1_method_88_code, 3, (Option.none : Option Jvm.ClassFile.FieldType), 2, false, 4) rfl rfl nn_KI1_ok nn_KJ1_ok nn_PF1_ok nn_PS1_ok (by decide +kernel) rfl rfl (fun _ h => absurd h List.not_mem_nil) (fun as σ K h => by
  obtain ⟨rfl, h⟩ := h
  exact ⟨rfl, fun G hG => fs_cp_16_31_0 hG (cp_gen (a := 16) (b := 31) (n := 64) (f := fw_c) (K := K) (σ := σ) (G2 := fun i σ1 => G 2 [some (2, 16, 0), some (2, 31, 0), some (0, 0, i)] [] σ1) (by decide) (by decide) (fun a2 σ1 q => fs_cp_16_31_2 hG q) h)⟩)
theorem fm_cp_4_34 (hinj : nn_inj ad) : fw_H l cy ad wr cr D 50 0 (cp_k 4 34 81) := fw_mk hinj (⟨"NameNotes", "copyRow", "([I[I)V"⟩, prog_1_method_88_code, 3, (Option.none : Option Jvm.ClassFile.FieldType), 2, false, 4) rfl rfl nn_KI1_ok nn_KJ1_ok nn_PF1_ok nn_PS1_ok (by decide +kernel) rfl rfl (fun _ h => absurd h List.not_mem_nil) (fun as σ K h => by
  obtain ⟨rfl, h⟩ := h
  exact ⟨rfl, fun G hG => fs_cp_4_34_0 hG (cp_gen (a := 4) (b := 34) (n := 81) (f := fw_c) (K := K) (σ := σ) (G2 := fun i σ1 => G 2 [some (2, 4, 0), some (2, 34, 0), some (0, 0, i)] [] σ1) (by decide) (by decide) (fun a2 σ1 q => fs_cp_4_34_2 hG q) h)⟩)
theorem fm_cp_5_35 (hinj : nn_inj ad) : fw_H l cy ad wr cr D 50 0 (cp_k 5 35 81) := fw_mk hinj (⟨"NameNotes", "copyRow", "([I[I)V"⟩, prog_1_method_88_code, 3, (Option.none : Option Jvm.ClassFile.FieldType), 2, false, 4) rfl rfl nn_KI1_ok nn_KJ1_ok nn_PF1_ok nn_PS1_ok (by decide +kernel) rfl rfl (fun _ h => absurd h List.not_mem_nil) (fun as σ K h => by
  obtain ⟨rfl, h⟩ := h
  exact ⟨rfl, fun G hG => fs_cp_5_35_0 hG (cp_gen (a := 5) (b := 35) (n := 81) (f := fw_c) (K := K) (σ := σ) (G2 := fun i σ1 => G 2 [some (2, 5, 0), some (2, 35, 0), some (0, 0, i)] [] σ1) (by decide) (by decide) (fun a2 σ1 q => fs_cp_5_35_2 hG q) h)⟩)
theorem fm_cp_6_36 (hinj : nn_inj ad) : fw_H l cy ad wr cr D 50 0 (cp_k 6 36 9) := fw_mk hinj (⟨"NameNotes", "copyRow", "([I[I)V"⟩, prog_1_method_88_code, 3, (Option.none : Option Jvm.ClassFile.FieldType), 2, false, 4) rfl rfl nn_KI1_ok nn_KJ1_ok nn_PF1_ok nn_PS1_ok (by decide +kernel) rfl rfl (fun _ h => absurd h List.not_mem_nil) (fun as σ K h => by
  obtain ⟨rfl, h⟩ := h
  exact ⟨rfl, fun G hG => fs_cp_6_36_0 hG (cp_gen (a := 6) (b := 36) (n := 9) (f := fw_c) (K := K) (σ := σ) (G2 := fun i σ1 => G 2 [some (2, 6, 0), some (2, 36, 0), some (0, 0, i)] [] σ1) (by decide) (by decide) (fun a2 σ1 q => fs_cp_6_36_2 hG q) h)⟩)
theorem fm_cp_7_37 (hinj : nn_inj ad) : fw_H l cy ad wr cr D 50 0 (cp_k 7 37 324) := fw_mk hinj (⟨"NameNotes", "copyRow", "([I[I)V"⟩, prog_1_method_88_code, 3, (Option.none : Option Jvm.ClassFile.FieldType), 2, false, 4) rfl rfl nn_KI1_ok nn_KJ1_ok nn_PF1_ok nn_PS1_ok (by decide +kernel) rfl rfl (fun _ h => absurd h List.not_mem_nil) (fun as σ K h => by
  obtain ⟨rfl, h⟩ := h
  exact ⟨rfl, fun G hG => fs_cp_7_37_0 hG (cp_gen (a := 7) (b := 37) (n := 324) (f := fw_c) (K := K) (σ := σ) (G2 := fun i σ1 => G 2 [some (2, 7, 0), some (2, 37, 0), some (0, 0, i)] [] σ1) (by decide) (by decide) (fun a2 σ1 q => fs_cp_7_37_2 hG q) h)⟩)
theorem fm_cp_8_38 (hinj : nn_inj ad) : fw_H l cy ad wr cr D 50 0 (cp_k 8 38 6) := fw_mk hinj (⟨"NameNotes", "copyRow", "([I[I)V"⟩, prog_1_method_88_code, 3, (Option.none : Option Jvm.ClassFile.FieldType), 2, false, 4) rfl rfl nn_KI1_ok nn_KJ1_ok nn_PF1_ok nn_PS1_ok (by decide +kernel) rfl rfl (fun _ h => absurd h List.not_mem_nil) (fun as σ K h => by
  obtain ⟨rfl, h⟩ := h
  exact ⟨rfl, fun G hG => fs_cp_8_38_0 hG (cp_gen (a := 8) (b := 38) (n := 6) (f := fw_c) (K := K) (σ := σ) (G2 := fun i σ1 => G 2 [some (2, 8, 0), some (2, 38, 0), some (0, 0, i)] [] σ1) (by decide) (by decide) (fun a2 σ1 q => fs_cp_8_38_2 hG q) h)⟩)
theorem fm_cp_9_39 (hinj : nn_inj ad) : fw_H l cy ad wr cr D 50 0 (cp_k 9 39 45) := fw_mk hinj (⟨"NameNotes", "copyRow", "([I[I)V"⟩, prog_1_method_88_code, 3, (Option.none : Option Jvm.ClassFile.FieldType), 2, false, 4) rfl rfl nn_KI1_ok nn_KJ1_ok nn_PF1_ok nn_PS1_ok (by decide +kernel) rfl rfl (fun _ h => absurd h List.not_mem_nil) (fun as σ K h => by
  obtain ⟨rfl, h⟩ := h
  exact ⟨rfl, fun G hG => fs_cp_9_39_0 hG (cp_gen (a := 9) (b := 39) (n := 45) (f := fw_c) (K := K) (σ := σ) (G2 := fun i σ1 => G 2 [some (2, 9, 0), some (2, 39, 0), some (0, 0, i)] [] σ1) (by decide) (by decide) (fun a2 σ1 q => fs_cp_9_39_2 hG q) h)⟩)
theorem fm_cp_10_40 (hinj : nn_inj ad) : fw_H l cy ad wr cr D 50 0 (cp_k 10 40 5) := fw_mk hinj (⟨"NameNotes", "copyRow", "([I[I)V"⟩, prog_1_method_88_code, 3, (Option.none : Option Jvm.ClassFile.FieldType), 2, false, 4) rfl rfl nn_KI1_ok nn_KJ1_ok nn_PF1_ok nn_PS1_ok (by decide +kernel) rfl rfl (fun _ h => absurd h List.not_mem_nil) (fun as σ K h => by
  obtain ⟨rfl, h⟩ := h
  exact ⟨rfl, fun G hG => fs_cp_10_40_0 hG (cp_gen (a := 10) (b := 40) (n := 5) (f := fw_c) (K := K) (σ := σ) (G2 := fun i σ1 => G 2 [some (2, 10, 0), some (2, 40, 0), some (0, 0, i)] [] σ1) (by decide) (by decide) (fun a2 σ1 q => fs_cp_10_40_2 hG q) h)⟩)
theorem fm_cp_15_45 (hinj : nn_inj ad) : fw_H l cy ad wr cr D 50 0 (cp_k 15 45 64) := fw_mk hinj (⟨"NameNotes", "copyRow", "([I[I)V"⟩, prog_1_method_88_code, 3, (Option.none : Option Jvm.ClassFile.FieldType), 2, false, 4) rfl rfl nn_KI1_ok nn_KJ1_ok nn_PF1_ok nn_PS1_ok (by decide +kernel) rfl rfl (fun _ h => absurd h List.not_mem_nil) (fun as σ K h => by
  obtain ⟨rfl, h⟩ := h
  exact ⟨rfl, fun G hG => fs_cp_15_45_0 hG (cp_gen (a := 15) (b := 45) (n := 64) (f := fw_c) (K := K) (σ := σ) (G2 := fun i σ1 => G 2 [some (2, 15, 0), some (2, 45, 0), some (0, 0, i)] [] σ1) (by decide) (by decide) (fun a2 σ1 q => fs_cp_15_45_2 hG q) h)⟩)
theorem fm_cp_16_46 (hinj : nn_inj ad) : fw_H l cy ad wr cr D 50 0 (cp_k 16 46 64) := fw_mk hinj (⟨"NameNotes", "copyRow", "([I[I)V"⟩, prog_1_method_88_code, 3, (Option.none : Option Jvm.ClassFile.FieldType), 2, false, 4) rfl rfl nn_KI1_ok nn_KJ1_ok nn_PF1_ok nn_PS1_ok (by decide +kernel) rfl rfl (fun _ h => absurd h List.not_mem_nil) (fun as σ K h => by
  obtain ⟨rfl, h⟩ := h
  exact ⟨rfl, fun G hG => fs_cp_16_46_0 hG (cp_gen (a := 16) (b := 46) (n := 64) (f := fw_c) (K := K) (σ := σ) (G2 := fun i σ1 => G 2 [some (2, 16, 0), some (2, 46, 0), some (0, 0, i)] [] σ1) (by decide) (by decide) (fun a2 σ1 q => fs_cp_16_46_2 hG q) h)⟩)
theorem fm_cp_19_4 (hinj : nn_inj ad) : fw_H l cy ad wr cr D 50 0 (cp_k 19 4 81) := fw_mk hinj (⟨"NameNotes", "copyRow", "([I[I)V"⟩, prog_1_method_88_code, 3, (Option.none : Option Jvm.ClassFile.FieldType), 2, false, 4) rfl rfl nn_KI1_ok nn_KJ1_ok nn_PF1_ok nn_PS1_ok (by decide +kernel) rfl rfl (fun _ h => absurd h List.not_mem_nil) (fun as σ K h => by
  obtain ⟨rfl, h⟩ := h
  exact ⟨rfl, fun G hG => fs_cp_19_4_0 hG (cp_gen (a := 19) (b := 4) (n := 81) (f := fw_c) (K := K) (σ := σ) (G2 := fun i σ1 => G 2 [some (2, 19, 0), some (2, 4, 0), some (0, 0, i)] [] σ1) (by decide) (by decide) (fun a2 σ1 q => fs_cp_19_4_2 hG q) h)⟩)
theorem fm_cp_20_5 (hinj : nn_inj ad) : fw_H l cy ad wr cr D 50 0 (cp_k 20 5 81) := fw_mk hinj (⟨"NameNotes", "copyRow", "([I[I)V"⟩, prog_1_method_88_code, 3, (Option.none : Option Jvm.ClassFile.FieldType), 2, false, 4) rfl rfl nn_KI1_ok nn_KJ1_ok nn_PF1_ok nn_PS1_ok (by decide +kernel) rfl rfl (fun _ h => absurd h List.not_mem_nil) (fun as σ K h => by
  obtain ⟨rfl, h⟩ := h
  exact ⟨rfl, fun G hG => fs_cp_20_5_0 hG (cp_gen (a := 20) (b := 5) (n := 81) (f := fw_c) (K := K) (σ := σ) (G2 := fun i σ1 => G 2 [some (2, 20, 0), some (2, 5, 0), some (0, 0, i)] [] σ1) (by decide) (by decide) (fun a2 σ1 q => fs_cp_20_5_2 hG q) h)⟩)
theorem fm_cp_21_6 (hinj : nn_inj ad) : fw_H l cy ad wr cr D 50 0 (cp_k 21 6 9) := fw_mk hinj (⟨"NameNotes", "copyRow", "([I[I)V"⟩, prog_1_method_88_code, 3, (Option.none : Option Jvm.ClassFile.FieldType), 2, false, 4) rfl rfl nn_KI1_ok nn_KJ1_ok nn_PF1_ok nn_PS1_ok (by decide +kernel) rfl rfl (fun _ h => absurd h List.not_mem_nil) (fun as σ K h => by
  obtain ⟨rfl, h⟩ := h
  exact ⟨rfl, fun G hG => fs_cp_21_6_0 hG (cp_gen (a := 21) (b := 6) (n := 9) (f := fw_c) (K := K) (σ := σ) (G2 := fun i σ1 => G 2 [some (2, 21, 0), some (2, 6, 0), some (0, 0, i)] [] σ1) (by decide) (by decide) (fun a2 σ1 q => fs_cp_21_6_2 hG q) h)⟩)
theorem fm_cp_22_7 (hinj : nn_inj ad) : fw_H l cy ad wr cr D 50 0 (cp_k 22 7 324) := fw_mk hinj (⟨"NameNotes", "copyRow", "([I[I)V"⟩, prog_1_method_88_code, 3, (Option.none : Option Jvm.ClassFile.FieldType), 2, false, 4) rfl rfl nn_KI1_ok nn_KJ1_ok nn_PF1_ok nn_PS1_ok (by decide +kernel) rfl rfl (fun _ h => absurd h List.not_mem_nil) (fun as σ K h => by
  obtain ⟨rfl, h⟩ := h
  exact ⟨rfl, fun G hG => fs_cp_22_7_0 hG (cp_gen (a := 22) (b := 7) (n := 324) (f := fw_c) (K := K) (σ := σ) (G2 := fun i σ1 => G 2 [some (2, 22, 0), some (2, 7, 0), some (0, 0, i)] [] σ1) (by decide) (by decide) (fun a2 σ1 q => fs_cp_22_7_2 hG q) h)⟩)
theorem fm_cp_23_8 (hinj : nn_inj ad) : fw_H l cy ad wr cr D 50 0 (cp_k 23 8 6) := fw_mk hinj (⟨"NameNotes", "copyRow", "([I[I)V"⟩, prog_1_method_88_code, 3, (Option.none : Option Jvm.ClassFile.FieldType), 2, false, 4) rfl rfl nn_KI1_ok nn_KJ1_ok nn_PF1_ok nn_PS1_ok (by decide +kernel) rfl rfl (fun _ h => absurd h List.not_mem_nil) (fun as σ K h => by
  obtain ⟨rfl, h⟩ := h
  exact ⟨rfl, fun G hG => fs_cp_23_8_0 hG (cp_gen (a := 23) (b := 8) (n := 6) (f := fw_c) (K := K) (σ := σ) (G2 := fun i σ1 => G 2 [some (2, 23, 0), some (2, 8, 0), some (0, 0, i)] [] σ1) (by decide) (by decide) (fun a2 σ1 q => fs_cp_23_8_2 hG q) h)⟩)
theorem fm_cp_24_9 (hinj : nn_inj ad) : fw_H l cy ad wr cr D 50 0 (cp_k 24 9 45) := fw_mk hinj (⟨"NameNotes", "copyRow", "([I[I)V"⟩, prog_1_method_88_code, 3, (Option.none : Option Jvm.ClassFile.FieldType), 2, false, 4) rfl rfl nn_KI1_ok nn_KJ1_ok nn_PF1_ok nn_PS1_ok (by decide +kernel) rfl rfl (fun _ h => absurd h List.not_mem_nil) (fun as σ K h => by
  obtain ⟨rfl, h⟩ := h
  exact ⟨rfl, fun G hG => fs_cp_24_9_0 hG (cp_gen (a := 24) (b := 9) (n := 45) (f := fw_c) (K := K) (σ := σ) (G2 := fun i σ1 => G 2 [some (2, 24, 0), some (2, 9, 0), some (0, 0, i)] [] σ1) (by decide) (by decide) (fun a2 σ1 q => fs_cp_24_9_2 hG q) h)⟩)
theorem fm_cp_25_10 (hinj : nn_inj ad) : fw_H l cy ad wr cr D 50 0 (cp_k 25 10 5) := fw_mk hinj (⟨"NameNotes", "copyRow", "([I[I)V"⟩, prog_1_method_88_code, 3, (Option.none : Option Jvm.ClassFile.FieldType), 2, false, 4) rfl rfl nn_KI1_ok nn_KJ1_ok nn_PF1_ok nn_PS1_ok (by decide +kernel) rfl rfl (fun _ h => absurd h List.not_mem_nil) (fun as σ K h => by
  obtain ⟨rfl, h⟩ := h
  exact ⟨rfl, fun G hG => fs_cp_25_10_0 hG (cp_gen (a := 25) (b := 10) (n := 5) (f := fw_c) (K := K) (σ := σ) (G2 := fun i σ1 => G 2 [some (2, 25, 0), some (2, 10, 0), some (0, 0, i)] [] σ1) (by decide) (by decide) (fun a2 σ1 q => fs_cp_25_10_2 hG q) h)⟩)
theorem fm_cp_30_15 (hinj : nn_inj ad) : fw_H l cy ad wr cr D 50 0 (cp_k 30 15 64) := fw_mk hinj (⟨"NameNotes", "copyRow", "([I[I)V"⟩, prog_1_method_88_code, 3, (Option.none : Option Jvm.ClassFile.FieldType), 2, false, 4) rfl rfl nn_KI1_ok nn_KJ1_ok nn_PF1_ok nn_PS1_ok (by decide +kernel) rfl rfl (fun _ h => absurd h List.not_mem_nil) (fun as σ K h => by
  obtain ⟨rfl, h⟩ := h
  exact ⟨rfl, fun G hG => fs_cp_30_15_0 hG (cp_gen (a := 30) (b := 15) (n := 64) (f := fw_c) (K := K) (σ := σ) (G2 := fun i σ1 => G 2 [some (2, 30, 0), some (2, 15, 0), some (0, 0, i)] [] σ1) (by decide) (by decide) (fun a2 σ1 q => fs_cp_30_15_2 hG q) h)⟩)
theorem fm_cp_31_16 (hinj : nn_inj ad) : fw_H l cy ad wr cr D 50 0 (cp_k 31 16 64) := fw_mk hinj (⟨"NameNotes", "copyRow", "([I[I)V"⟩, prog_1_method_88_code, 3, (Option.none : Option Jvm.ClassFile.FieldType), 2, false, 4) rfl rfl nn_KI1_ok nn_KJ1_ok nn_PF1_ok nn_PS1_ok (by decide +kernel) rfl rfl (fun _ h => absurd h List.not_mem_nil) (fun as σ K h => by
  obtain ⟨rfl, h⟩ := h
  exact ⟨rfl, fun G hG => fs_cp_31_16_0 hG (cp_gen (a := 31) (b := 16) (n := 64) (f := fw_c) (K := K) (σ := σ) (G2 := fun i σ1 => G 2 [some (2, 31, 0), some (2, 16, 0), some (0, 0, i)] [] σ1) (by decide) (by decide) (fun a2 σ1 q => fs_cp_31_16_2 hG q) h)⟩)
theorem fm_cp_34_4 (hinj : nn_inj ad) : fw_H l cy ad wr cr D 50 0 (cp_k 34 4 81) := fw_mk hinj (⟨"NameNotes", "copyRow", "([I[I)V"⟩, prog_1_method_88_code, 3, (Option.none : Option Jvm.ClassFile.FieldType), 2, false, 4) rfl rfl nn_KI1_ok nn_KJ1_ok nn_PF1_ok nn_PS1_ok (by decide +kernel) rfl rfl (fun _ h => absurd h List.not_mem_nil) (fun as σ K h => by
  obtain ⟨rfl, h⟩ := h
  exact ⟨rfl, fun G hG => fs_cp_34_4_0 hG (cp_gen (a := 34) (b := 4) (n := 81) (f := fw_c) (K := K) (σ := σ) (G2 := fun i σ1 => G 2 [some (2, 34, 0), some (2, 4, 0), some (0, 0, i)] [] σ1) (by decide) (by decide) (fun a2 σ1 q => fs_cp_34_4_2 hG q) h)⟩)
theorem fm_cp_35_5 (hinj : nn_inj ad) : fw_H l cy ad wr cr D 50 0 (cp_k 35 5 81) := fw_mk hinj (⟨"NameNotes", "copyRow", "([I[I)V"⟩, prog_1_method_88_code, 3, (Option.none : Option Jvm.ClassFile.FieldType), 2, false, 4) rfl rfl nn_KI1_ok nn_KJ1_ok nn_PF1_ok nn_PS1_ok (by decide +kernel) rfl rfl (fun _ h => absurd h List.not_mem_nil) (fun as σ K h => by
  obtain ⟨rfl, h⟩ := h
  exact ⟨rfl, fun G hG => fs_cp_35_5_0 hG (cp_gen (a := 35) (b := 5) (n := 81) (f := fw_c) (K := K) (σ := σ) (G2 := fun i σ1 => G 2 [some (2, 35, 0), some (2, 5, 0), some (0, 0, i)] [] σ1) (by decide) (by decide) (fun a2 σ1 q => fs_cp_35_5_2 hG q) h)⟩)
theorem fm_cp_36_6 (hinj : nn_inj ad) : fw_H l cy ad wr cr D 50 0 (cp_k 36 6 9) := fw_mk hinj (⟨"NameNotes", "copyRow", "([I[I)V"⟩, prog_1_method_88_code, 3, (Option.none : Option Jvm.ClassFile.FieldType), 2, false, 4) rfl rfl nn_KI1_ok nn_KJ1_ok nn_PF1_ok nn_PS1_ok (by decide +kernel) rfl rfl (fun _ h => absurd h List.not_mem_nil) (fun as σ K h => by
  obtain ⟨rfl, h⟩ := h
  exact ⟨rfl, fun G hG => fs_cp_36_6_0 hG (cp_gen (a := 36) (b := 6) (n := 9) (f := fw_c) (K := K) (σ := σ) (G2 := fun i σ1 => G 2 [some (2, 36, 0), some (2, 6, 0), some (0, 0, i)] [] σ1) (by decide) (by decide) (fun a2 σ1 q => fs_cp_36_6_2 hG q) h)⟩)
theorem fm_cp_37_7 (hinj : nn_inj ad) : fw_H l cy ad wr cr D 50 0 (cp_k 37 7 324) := fw_mk hinj (⟨"NameNotes", "copyRow", "([I[I)V"⟩, prog_1_method_88_code, 3, (Option.none : Option Jvm.ClassFile.FieldType), 2, false, 4) rfl rfl nn_KI1_ok nn_KJ1_ok nn_PF1_ok nn_PS1_ok (by decide +kernel) rfl rfl (fun _ h => absurd h List.not_mem_nil) (fun as σ K h => by
  obtain ⟨rfl, h⟩ := h
  exact ⟨rfl, fun G hG => fs_cp_37_7_0 hG (cp_gen (a := 37) (b := 7) (n := 324) (f := fw_c) (K := K) (σ := σ) (G2 := fun i σ1 => G 2 [some (2, 37, 0), some (2, 7, 0), some (0, 0, i)] [] σ1) (by decide) (by decide) (fun a2 σ1 q => fs_cp_37_7_2 hG q) h)⟩)
theorem fm_cp_38_8 (hinj : nn_inj ad) : fw_H l cy ad wr cr D 50 0 (cp_k 38 8 6) := fw_mk hinj (⟨"NameNotes", "copyRow", "([I[I)V"⟩, prog_1_method_88_code, 3, (Option.none : Option Jvm.ClassFile.FieldType), 2, false, 4) rfl rfl nn_KI1_ok nn_KJ1_ok nn_PF1_ok nn_PS1_ok (by decide +kernel) rfl rfl (fun _ h => absurd h List.not_mem_nil) (fun as σ K h => by
  obtain ⟨rfl, h⟩ := h
  exact ⟨rfl, fun G hG => fs_cp_38_8_0 hG (cp_gen (a := 38) (b := 8) (n := 6) (f := fw_c) (K := K) (σ := σ) (G2 := fun i σ1 => G 2 [some (2, 38, 0), some (2, 8, 0), some (0, 0, i)] [] σ1) (by decide) (by decide) (fun a2 σ1 q => fs_cp_38_8_2 hG q) h)⟩)
theorem fm_cp_39_9 (hinj : nn_inj ad) : fw_H l cy ad wr cr D 50 0 (cp_k 39 9 45) := fw_mk hinj (⟨"NameNotes", "copyRow", "([I[I)V"⟩, prog_1_method_88_code, 3, (Option.none : Option Jvm.ClassFile.FieldType), 2, false, 4) rfl rfl nn_KI1_ok nn_KJ1_ok nn_PF1_ok nn_PS1_ok (by decide +kernel) rfl rfl (fun _ h => absurd h List.not_mem_nil) (fun as σ K h => by
  obtain ⟨rfl, h⟩ := h
  exact ⟨rfl, fun G hG => fs_cp_39_9_0 hG (cp_gen (a := 39) (b := 9) (n := 45) (f := fw_c) (K := K) (σ := σ) (G2 := fun i σ1 => G 2 [some (2, 39, 0), some (2, 9, 0), some (0, 0, i)] [] σ1) (by decide) (by decide) (fun a2 σ1 q => fs_cp_39_9_2 hG q) h)⟩)
theorem fm_cp_40_10 (hinj : nn_inj ad) : fw_H l cy ad wr cr D 50 0 (cp_k 40 10 5) := fw_mk hinj (⟨"NameNotes", "copyRow", "([I[I)V"⟩, prog_1_method_88_code, 3, (Option.none : Option Jvm.ClassFile.FieldType), 2, false, 4) rfl rfl nn_KI1_ok nn_KJ1_ok nn_PF1_ok nn_PS1_ok (by decide +kernel) rfl rfl (fun _ h => absurd h List.not_mem_nil) (fun as σ K h => by
  obtain ⟨rfl, h⟩ := h
  exact ⟨rfl, fun G hG => fs_cp_40_10_0 hG (cp_gen (a := 40) (b := 10) (n := 5) (f := fw_c) (K := K) (σ := σ) (G2 := fun i σ1 => G 2 [some (2, 40, 0), some (2, 10, 0), some (0, 0, i)] [] σ1) (by decide) (by decide) (fun a2 σ1 q => fs_cp_40_10_2 hG q) h)⟩)
theorem fm_cp_45_15 (hinj : nn_inj ad) : fw_H l cy ad wr cr D 50 0 (cp_k 45 15 64) := fw_mk hinj (⟨"NameNotes", "copyRow", "([I[I)V"⟩, prog_1_method_88_code, 3, (Option.none : Option Jvm.ClassFile.FieldType), 2, false, 4) rfl rfl nn_KI1_ok nn_KJ1_ok nn_PF1_ok nn_PS1_ok (by decide +kernel) rfl rfl (fun _ h => absurd h List.not_mem_nil) (fun as σ K h => by
  obtain ⟨rfl, h⟩ := h
  exact ⟨rfl, fun G hG => fs_cp_45_15_0 hG (cp_gen (a := 45) (b := 15) (n := 64) (f := fw_c) (K := K) (σ := σ) (G2 := fun i σ1 => G 2 [some (2, 45, 0), some (2, 15, 0), some (0, 0, i)] [] σ1) (by decide) (by decide) (fun a2 σ1 q => fs_cp_45_15_2 hG q) h)⟩)
theorem fm_cp_46_16 (hinj : nn_inj ad) : fw_H l cy ad wr cr D 50 0 (cp_k 46 16 64) := fw_mk hinj (⟨"NameNotes", "copyRow", "([I[I)V"⟩, prog_1_method_88_code, 3, (Option.none : Option Jvm.ClassFile.FieldType), 2, false, 4) rfl rfl nn_KI1_ok nn_KJ1_ok nn_PF1_ok nn_PS1_ok (by decide +kernel) rfl rfl (fun _ h => absurd h List.not_mem_nil) (fun as σ K h => by
  obtain ⟨rfl, h⟩ := h
  exact ⟨rfl, fun G hG => fs_cp_46_16_0 hG (cp_gen (a := 46) (b := 16) (n := 64) (f := fw_c) (K := K) (σ := σ) (G2 := fun i σ1 => G 2 [some (2, 46, 0), some (2, 16, 0), some (0, 0, i)] [] σ1) (by decide) (by decide) (fun a2 σ1 q => fs_cp_46_16_2 hG q) h)⟩)
theorem fm_cp (hinj : nn_inj ad) : fw_H l cy ad wr cr D 50 0 sp_cp := fw_H_o3 (List.forall_mem_cons.mpr ⟨fm_cp_50_4 hinj, (List.forall_mem_cons.mpr ⟨fm_cp_51_5 hinj, (List.forall_mem_cons.mpr ⟨fm_cp_52_6 hinj, (List.forall_mem_cons.mpr ⟨fm_cp_53_7 hinj, (List.forall_mem_cons.mpr ⟨fm_cp_54_8 hinj, (List.forall_mem_cons.mpr ⟨fm_cp_55_9 hinj, (List.forall_mem_cons.mpr ⟨fm_cp_56_10 hinj, (List.forall_mem_cons.mpr ⟨fm_cp_61_15 hinj, (List.forall_mem_cons.mpr ⟨fm_cp_62_16 hinj, (List.forall_mem_cons.mpr ⟨fm_cp_4_19 hinj, (List.forall_mem_cons.mpr ⟨fm_cp_5_20 hinj, (List.forall_mem_cons.mpr ⟨fm_cp_6_21 hinj, (List.forall_mem_cons.mpr ⟨fm_cp_7_22 hinj, (List.forall_mem_cons.mpr ⟨fm_cp_8_23 hinj, (List.forall_mem_cons.mpr ⟨fm_cp_9_24 hinj, (List.forall_mem_cons.mpr ⟨fm_cp_10_25 hinj, (List.forall_mem_cons.mpr ⟨fm_cp_15_30 hinj, (List.forall_mem_cons.mpr ⟨fm_cp_16_31 hinj, (List.forall_mem_cons.mpr ⟨fm_cp_4_34 hinj, (List.forall_mem_cons.mpr ⟨fm_cp_5_35 hinj, (List.forall_mem_cons.mpr ⟨fm_cp_6_36 hinj, (List.forall_mem_cons.mpr ⟨fm_cp_7_37 hinj, (List.forall_mem_cons.mpr ⟨fm_cp_8_38 hinj, (List.forall_mem_cons.mpr ⟨fm_cp_9_39 hinj, (List.forall_mem_cons.mpr ⟨fm_cp_10_40 hinj, (List.forall_mem_cons.mpr ⟨fm_cp_15_45 hinj, (List.forall_mem_cons.mpr ⟨fm_cp_16_46 hinj, (List.forall_mem_cons.mpr ⟨fm_cp_19_4 hinj, (List.forall_mem_cons.mpr ⟨fm_cp_20_5 hinj, (List.forall_mem_cons.mpr ⟨fm_cp_21_6 hinj, (List.forall_mem_cons.mpr ⟨fm_cp_22_7 hinj, (List.forall_mem_cons.mpr ⟨fm_cp_23_8 hinj, (List.forall_mem_cons.mpr ⟨fm_cp_24_9 hinj, (List.forall_mem_cons.mpr ⟨fm_cp_25_10 hinj, (List.forall_mem_cons.mpr ⟨fm_cp_30_15 hinj, (List.forall_mem_cons.mpr ⟨fm_cp_31_16 hinj, (List.forall_mem_cons.mpr ⟨fm_cp_34_4 hinj, (List.forall_mem_cons.mpr ⟨fm_cp_35_5 hinj, (List.forall_mem_cons.mpr ⟨fm_cp_36_6 hinj, (List.forall_mem_cons.mpr ⟨fm_cp_37_7 hinj, (List.forall_mem_cons.mpr ⟨fm_cp_38_8 hinj, (List.forall_mem_cons.mpr ⟨fm_cp_39_9 hinj, (List.forall_mem_cons.mpr ⟨fm_cp_40_10 hinj, (List.forall_mem_cons.mpr ⟨fm_cp_45_15 hinj, (List.forall_mem_cons.mpr ⟨fm_cp_46_16 hinj, (fun _ h => absurd h List.not_mem_nil)⟩)⟩)⟩)⟩)⟩)⟩)⟩)⟩)⟩)⟩)⟩)⟩)⟩)⟩)⟩)⟩)⟩)⟩)⟩)⟩)⟩)⟩)⟩)⟩)⟩)⟩)⟩)⟩)⟩)⟩)⟩)⟩)⟩)⟩)⟩)⟩)⟩)⟩)⟩)⟩)⟩)⟩)⟩)⟩)⟩)
theorem fm_cl_57_11 (hinj : nn_inj ad) : fw_H l cy ad wr cr D 51 0 (cl_k 57 11 9) := fw_mk hinj (⟨"NameNotes", "copyRow", "([J[J)V"⟩, prog_1_method_89_code, 3, (Option.none : Option Jvm.ClassFile.FieldType), 2, false, 4) rfl rfl nn_KI1_ok nn_KJ1_ok nn_PF1_ok nn_PS1_ok (by decide +kernel) rfl rfl (fun _ h => absurd h List.not_mem_nil) (fun as σ K h => by
  obtain ⟨rfl, h⟩ := h
  exact ⟨rfl, fun G hG => fs_cl_57_11_0 hG (cp_gen (a := 57) (b := 11) (n := 9) (f := fw_d) (K := K) (σ := σ) (G2 := fun i σ1 => G 2 [some (2, 57, 0), some (2, 11, 0), some (0, 0, i)] [] σ1) (by decide) (by decide) (fun a2 σ1 q => fs_cl_57_11_2 hG q) h)⟩)
theorem fm_cl_58_12 (hinj : nn_inj ad) : fw_H l cy ad wr cr D 51 0 (cl_k 58 12 6) := fw_mk hinj (⟨"NameNotes", "copyRow", "([J[J)V"⟩, prog_1_method_89_code, 3, (Option.none : Option Jvm.ClassFile.FieldType), 2, false, 4) rfl rfl nn_KI1_ok nn_KJ1_ok nn_PF1_ok nn_PS1_ok (by decide +kernel) rfl rfl (fun _ h => absurd h List.not_mem_nil) (fun as σ K h => by
  obtain ⟨rfl, h⟩ := h
  exact ⟨rfl, fun G hG => fs_cl_58_12_0 hG (cp_gen (a := 58) (b := 12) (n := 6) (f := fw_d) (K := K) (σ := σ) (G2 := fun i σ1 => G 2 [some (2, 58, 0), some (2, 12, 0), some (0, 0, i)] [] σ1) (by decide) (by decide) (fun a2 σ1 q => fs_cl_58_12_2 hG q) h)⟩)
theorem fm_cl_59_13 (hinj : nn_inj ad) : fw_H l cy ad wr cr D 51 0 (cl_k 59 13 5) := fw_mk hinj (⟨"NameNotes", "copyRow", "([J[J)V"⟩, prog_1_method_89_code, 3, (Option.none : Option Jvm.ClassFile.FieldType), 2, false, 4) rfl rfl nn_KI1_ok nn_KJ1_ok nn_PF1_ok nn_PS1_ok (by decide +kernel) rfl rfl (fun _ h => absurd h List.not_mem_nil) (fun as σ K h => by
  obtain ⟨rfl, h⟩ := h
  exact ⟨rfl, fun G hG => fs_cl_59_13_0 hG (cp_gen (a := 59) (b := 13) (n := 5) (f := fw_d) (K := K) (σ := σ) (G2 := fun i σ1 => G 2 [some (2, 59, 0), some (2, 13, 0), some (0, 0, i)] [] σ1) (by decide) (by decide) (fun a2 σ1 q => fs_cl_59_13_2 hG q) h)⟩)
theorem fm_cl_11_26 (hinj : nn_inj ad) : fw_H l cy ad wr cr D 51 0 (cl_k 11 26 9) := fw_mk hinj (⟨"NameNotes", "copyRow", "([J[J)V"⟩, prog_1_method_89_code, 3, (Option.none : Option Jvm.ClassFile.FieldType), 2, false, 4) rfl rfl nn_KI1_ok nn_KJ1_ok nn_PF1_ok nn_PS1_ok (by decide +kernel) rfl rfl (fun _ h => absurd h List.not_mem_nil) (fun as σ K h => by
  obtain ⟨rfl, h⟩ := h
  exact ⟨rfl, fun G hG => fs_cl_11_26_0 hG (cp_gen (a := 11) (b := 26) (n := 9) (f := fw_d) (K := K) (σ := σ) (G2 := fun i σ1 => G 2 [some (2, 11, 0), some (2, 26, 0), some (0, 0, i)] [] σ1) (by decide) (by decide) (fun a2 σ1 q => fs_cl_11_26_2 hG q) h)⟩)
theorem fm_cl_12_27 (hinj : nn_inj ad) : fw_H l cy ad wr cr D 51 0 (cl_k 12 27 6) := fw_mk hinj (⟨"NameNotes", "copyRow", "([J[J)V"⟩, prog_1_method_89_code, 3, (Option.none : Option Jvm.ClassFile.FieldType), 2, false, 4) rfl rfl nn_KI1_ok nn_KJ1_ok nn_PF1_ok nn_PS1_ok (by decide +kernel) rfl rfl (fun _ h => absurd h List.not_mem_nil) (fun as σ K h => by
  obtain ⟨rfl, h⟩ := h
  exact ⟨rfl, fun G hG => fs_cl_12_27_0 hG (cp_gen (a := 12) (b := 27) (n := 6) (f := fw_d) (K := K) (σ := σ) (G2 := fun i σ1 => G 2 [some (2, 12, 0), some (2, 27, 0), some (0, 0, i)] [] σ1) (by decide) (by decide) (fun a2 σ1 q => fs_cl_12_27_2 hG q) h)⟩)
theorem fm_cl_13_28 (hinj : nn_inj ad) : fw_H l cy ad wr cr D 51 0 (cl_k 13 28 5) := fw_mk hinj (⟨"NameNotes", "copyRow", "([J[J)V"⟩, prog_1_method_89_code, 3, (Option.none : Option Jvm.ClassFile.FieldType), 2, false, 4) rfl rfl nn_KI1_ok nn_KJ1_ok nn_PF1_ok nn_PS1_ok (by decide +kernel) rfl rfl (fun _ h => absurd h List.not_mem_nil) (fun as σ K h => by
  obtain ⟨rfl, h⟩ := h
  exact ⟨rfl, fun G hG => fs_cl_13_28_0 hG (cp_gen (a := 13) (b := 28) (n := 5) (f := fw_d) (K := K) (σ := σ) (G2 := fun i σ1 => G 2 [some (2, 13, 0), some (2, 28, 0), some (0, 0, i)] [] σ1) (by decide) (by decide) (fun a2 σ1 q => fs_cl_13_28_2 hG q) h)⟩)
theorem fm_cl_11_41 (hinj : nn_inj ad) : fw_H l cy ad wr cr D 51 0 (cl_k 11 41 9) := fw_mk hinj (⟨"NameNotes", "copyRow", "([J[J)V"⟩, prog_1_method_89_code, 3, (Option.none : Option Jvm.ClassFile.FieldType), 2, false, 4) rfl rfl nn_KI1_ok nn_KJ1_ok nn_PF1_ok nn_PS1_ok (by decide +kernel) rfl rfl (fun _ h => absurd h List.not_mem_nil) (fun as σ K h => by
  obtain ⟨rfl, h⟩ := h
  exact ⟨rfl, fun G hG => fs_cl_11_41_0 hG (cp_gen (a := 11) (b := 41) (n := 9) (f := fw_d) (K := K) (σ := σ) (G2 := fun i σ1 => G 2 [some (2, 11, 0), some (2, 41, 0), some (0, 0, i)] [] σ1) (by decide) (by decide) (fun a2 σ1 q => fs_cl_11_41_2 hG q) h)⟩)
theorem fm_cl_12_42 (hinj : nn_inj ad) : fw_H l cy ad wr cr D 51 0 (cl_k 12 42 6) := fw_mk hinj (⟨"NameNotes", "copyRow", "([J[J)V"⟩, prog_1_method_89_code, 3, (Option.none : Option Jvm.ClassFile.FieldType), 2, false, 4) rfl rfl nn_KI1_ok nn_KJ1_ok nn_PF1_ok nn_PS1_ok (by decide +kernel) rfl rfl (fun _ h => absurd h List.not_mem_nil) (fun as σ K h => by
  obtain ⟨rfl, h⟩ := h
  exact ⟨rfl, fun G hG => fs_cl_12_42_0 hG (cp_gen (a := 12) (b := 42) (n := 6) (f := fw_d) (K := K) (σ := σ) (G2 := fun i σ1 => G 2 [some (2, 12, 0), some (2, 42, 0), some (0, 0, i)] [] σ1) (by decide) (by decide) (fun a2 σ1 q => fs_cl_12_42_2 hG q) h)⟩)
theorem fm_cl_13_43 (hinj : nn_inj ad) : fw_H l cy ad wr cr D 51 0 (cl_k 13 43 5) := fw_mk hinj (⟨"NameNotes", "copyRow", "([J[J)V"⟩, prog_1_method_89_code, 3, (Option.none : Option Jvm.ClassFile.FieldType), 2, false, 4) rfl rfl nn_KI1_ok nn_KJ1_ok nn_PF1_ok nn_PS1_ok (by decide +kernel) rfl rfl (fun _ h => absurd h List.not_mem_nil) (fun as σ K h => by
  obtain ⟨rfl, h⟩ := h
  exact ⟨rfl, fun G hG => fs_cl_13_43_0 hG (cp_gen (a := 13) (b := 43) (n := 5) (f := fw_d) (K := K) (σ := σ) (G2 := fun i σ1 => G 2 [some (2, 13, 0), some (2, 43, 0), some (0, 0, i)] [] σ1) (by decide) (by decide) (fun a2 σ1 q => fs_cl_13_43_2 hG q) h)⟩)
theorem fm_cl_26_11 (hinj : nn_inj ad) : fw_H l cy ad wr cr D 51 0 (cl_k 26 11 9) := fw_mk hinj (⟨"NameNotes", "copyRow", "([J[J)V"⟩, prog_1_method_89_code, 3, (Option.none : Option Jvm.ClassFile.FieldType), 2, false, 4) rfl rfl nn_KI1_ok nn_KJ1_ok nn_PF1_ok nn_PS1_ok (by decide +kernel) rfl rfl (fun _ h => absurd h List.not_mem_nil) (fun as σ K h => by
  obtain ⟨rfl, h⟩ := h
  exact ⟨rfl, fun G hG => fs_cl_26_11_0 hG (cp_gen (a := 26) (b := 11) (n := 9) (f := fw_d) (K := K) (σ := σ) (G2 := fun i σ1 => G 2 [some (2, 26, 0), some (2, 11, 0), some (0, 0, i)] [] σ1) (by decide) (by decide) (fun a2 σ1 q => fs_cl_26_11_2 hG q) h)⟩)
theorem fm_cl_27_12 (hinj : nn_inj ad) : fw_H l cy ad wr cr D 51 0 (cl_k 27 12 6) := fw_mk hinj (⟨"NameNotes", "copyRow", "([J[J)V"⟩, prog_1_method_89_code, 3, (Option.none : Option Jvm.ClassFile.FieldType), 2, false, 4) rfl rfl nn_KI1_ok nn_KJ1_ok nn_PF1_ok nn_PS1_ok (by decide +kernel) rfl rfl (fun _ h => absurd h List.not_mem_nil) (fun as σ K h => by
  obtain ⟨rfl, h⟩ := h
  exact ⟨rfl, fun G hG => fs_cl_27_12_0 hG (cp_gen (a := 27) (b := 12) (n := 6) (f := fw_d) (K := K) (σ := σ) (G2 := fun i σ1 => G 2 [some (2, 27, 0), some (2, 12, 0), some (0, 0, i)] [] σ1) (by decide) (by decide) (fun a2 σ1 q => fs_cl_27_12_2 hG q) h)⟩)
theorem fm_cl_28_13 (hinj : nn_inj ad) : fw_H l cy ad wr cr D 51 0 (cl_k 28 13 5) := fw_mk hinj (⟨"NameNotes", "copyRow", "([J[J)V"⟩, prog_1_method_89_code, 3, (Option.none : Option Jvm.ClassFile.FieldType), 2, false, 4) rfl rfl nn_KI1_ok nn_KJ1_ok nn_PF1_ok nn_PS1_ok (by decide +kernel) rfl rfl (fun _ h => absurd h List.not_mem_nil) (fun as σ K h => by
  obtain ⟨rfl, h⟩ := h
  exact ⟨rfl, fun G hG => fs_cl_28_13_0 hG (cp_gen (a := 28) (b := 13) (n := 5) (f := fw_d) (K := K) (σ := σ) (G2 := fun i σ1 => G 2 [some (2, 28, 0), some (2, 13, 0), some (0, 0, i)] [] σ1) (by decide) (by decide) (fun a2 σ1 q => fs_cl_28_13_2 hG q) h)⟩)
theorem fm_cl_41_11 (hinj : nn_inj ad) : fw_H l cy ad wr cr D 51 0 (cl_k 41 11 9) := fw_mk hinj (⟨"NameNotes", "copyRow", "([J[J)V"⟩, prog_1_method_89_code, 3, (Option.none : Option Jvm.ClassFile.FieldType), 2, false, 4) rfl rfl nn_KI1_ok nn_KJ1_ok nn_PF1_ok nn_PS1_ok (by decide +kernel) rfl rfl (fun _ h => absurd h List.not_mem_nil) (fun as σ K h => by
  obtain ⟨rfl, h⟩ := h
  exact ⟨rfl, fun G hG => fs_cl_41_11_0 hG (cp_gen (a := 41) (b := 11) (n := 9) (f := fw_d) (K := K) (σ := σ) (G2 := fun i σ1 => G 2 [some (2, 41, 0), some (2, 11, 0), some (0, 0, i)] [] σ1) (by decide) (by decide) (fun a2 σ1 q => fs_cl_41_11_2 hG q) h)⟩)
theorem fm_cl_42_12 (hinj : nn_inj ad) : fw_H l cy ad wr cr D 51 0 (cl_k 42 12 6) := fw_mk hinj (⟨"NameNotes", "copyRow", "([J[J)V"⟩, prog_1_method_89_code, 3, (Option.none : Option Jvm.ClassFile.FieldType), 2, false, 4) rfl rfl nn_KI1_ok nn_KJ1_ok nn_PF1_ok nn_PS1_ok (by decide +kernel) rfl rfl (fun _ h => absurd h List.not_mem_nil) (fun as σ K h => by
  obtain ⟨rfl, h⟩ := h
  exact ⟨rfl, fun G hG => fs_cl_42_12_0 hG (cp_gen (a := 42) (b := 12) (n := 6) (f := fw_d) (K := K) (σ := σ) (G2 := fun i σ1 => G 2 [some (2, 42, 0), some (2, 12, 0), some (0, 0, i)] [] σ1) (by decide) (by decide) (fun a2 σ1 q => fs_cl_42_12_2 hG q) h)⟩)
theorem fm_cl_43_13 (hinj : nn_inj ad) : fw_H l cy ad wr cr D 51 0 (cl_k 43 13 5) := fw_mk hinj (⟨"NameNotes", "copyRow", "([J[J)V"⟩, prog_1_method_89_code, 3, (Option.none : Option Jvm.ClassFile.FieldType), 2, false, 4) rfl rfl nn_KI1_ok nn_KJ1_ok nn_PF1_ok nn_PS1_ok (by decide +kernel) rfl rfl (fun _ h => absurd h List.not_mem_nil) (fun as σ K h => by
  obtain ⟨rfl, h⟩ := h
  exact ⟨rfl, fun G hG => fs_cl_43_13_0 hG (cp_gen (a := 43) (b := 13) (n := 5) (f := fw_d) (K := K) (σ := σ) (G2 := fun i σ1 => G 2 [some (2, 43, 0), some (2, 13, 0), some (0, 0, i)] [] σ1) (by decide) (by decide) (fun a2 σ1 q => fs_cl_43_13_2 hG q) h)⟩)
theorem fm_cl (hinj : nn_inj ad) : fw_H l cy ad wr cr D 51 0 sp_cl := fw_H_o3 (List.forall_mem_cons.mpr ⟨fm_cl_57_11 hinj, (List.forall_mem_cons.mpr ⟨fm_cl_58_12 hinj, (List.forall_mem_cons.mpr ⟨fm_cl_59_13 hinj, (List.forall_mem_cons.mpr ⟨fm_cl_11_26 hinj, (List.forall_mem_cons.mpr ⟨fm_cl_12_27 hinj, (List.forall_mem_cons.mpr ⟨fm_cl_13_28 hinj, (List.forall_mem_cons.mpr ⟨fm_cl_11_41 hinj, (List.forall_mem_cons.mpr ⟨fm_cl_12_42 hinj, (List.forall_mem_cons.mpr ⟨fm_cl_13_43 hinj, (List.forall_mem_cons.mpr ⟨fm_cl_26_11 hinj, (List.forall_mem_cons.mpr ⟨fm_cl_27_12 hinj, (List.forall_mem_cons.mpr ⟨fm_cl_28_13 hinj, (List.forall_mem_cons.mpr ⟨fm_cl_41_11 hinj, (List.forall_mem_cons.mpr ⟨fm_cl_42_12 hinj, (List.forall_mem_cons.mpr ⟨fm_cl_43_13 hinj, (fun _ h => absurd h List.not_mem_nil)⟩)⟩)⟩)⟩)⟩)⟩)⟩)⟩)⟩)⟩)⟩)⟩)⟩)⟩)⟩)
theorem fm_scopy_49_3 (hinj : nn_inj ad) : fw_H l cy ad wr cr D 52 1 (sc_k 49 3) := fw_mk hinj (⟨"NameNotes$Sentence", "copy", "(LNameNotes$Sentence;)V"⟩, prog_7_method_3_code, 2, (Option.none : Option Jvm.ClassFile.FieldType), 1, true, 4) rfl rfl nn_KI5_ok nn_KJ5_ok nn_PF5_ok nn_PS5_ok (by decide +kernel) rfl rfl (List.forall_mem_cons.mpr ⟨fw_row nn_PM5_ok (x := 28) (k := 2) (mn := 50) (np := 2) (ob := false) (ci := 0) (⟨"NameNotes", "copyRow", "([I[I)V"⟩, prog_1_method_88_code, 3, (Option.none : Option Jvm.ClassFile.FieldType), 2, false, 4) rfl (by decide +kernel) rfl rfl (by decide) (fun q => by cases q) (fm_cp hinj), (fun _ h => absurd h List.not_mem_nil)⟩) (fun as σ K h => by
  obtain ⟨rfl, h⟩ := h
  refine ⟨rfl, fun G hG => fs_scopy_49_3_0 hG ⟨(61, 15, 64), by decide, rfl, fun σ1 M1 c1 => fs_scopy_49_3_11 hG ⟨(62, 16, 64), by decide, rfl, fun σ2 M2 c2 => fs_scopy_49_3_22 hG ?_⟩⟩⟩
  have M1 : ab_okM [(15, 1000000)] σ σ1 := M1
  have M2 : ab_okM [(16, 1000000)] σ1 σ2 := M2
  have c1 : ∀ j : Nat, j < 64 → σ1 15 j = fw_c (σ 61 j) := c1
  have c2 : ∀ j : Nat, j < 64 → σ2 16 j = fw_c (σ1 62 j) := c2
  have N2 : ab_okM [(15, 1000000), (16, 1000000)] σ σ2 := fw_okM_tr (fw_okM_tr (fw_okM_refl _ _) M1 (by decide)) M2 (by decide)
  refine h _ (fw_okM_ups (fw_okM_ups (fw_okM_tr (fw_okM_refl _ _) N2 (by decide)) (by decide)) (by decide)) ⟨fun j hj => ?_, fun j hj => ?_, ?_, ?_⟩
  · show ab_ups (ab_ups σ2 14 3 (fw_c (σ2 60 3))) 14 4 (fw_c (σ2 60 4)) 15 j = fw_c (σ 61 j)
    rw [ab_ups_ne (fun z => absurd z.1 (by decide)), ab_ups_ne (fun z => absurd z.1 (by decide)), show σ2 15 = σ1 15 from fw_okM_c M2 (by decide)]; exact c1 j hj
  · show ab_ups (ab_ups σ2 14 3 (fw_c (σ2 60 3))) 14 4 (fw_c (σ2 60 4)) 16 j = fw_c (σ 62 j)
    rw [ab_ups_ne (fun z => absurd z.1 (by decide)), ab_ups_ne (fun z => absurd z.1 (by decide)), c2 j hj, show σ1 62 = σ 62 from fw_okM_c M1 (by decide)]
  · show ab_ups (ab_ups σ2 14 3 (fw_c (σ2 60 3))) 14 4 (fw_c (σ2 60 4)) 14 3 = fw_c (σ 60 3)
    rw [ab_ups_ne (by decide), ab_ups_eq, show σ2 60 = σ 60 from fw_okM_c N2 (by decide)]
  · show ab_ups (ab_ups σ2 14 3 (fw_c (σ2 60 3))) 14 4 (fw_c (σ2 60 4)) 14 4 = fw_c (σ 60 4)
    rw [ab_ups_eq, show σ2 60 = σ 60 from fw_okM_c N2 (by decide)])
theorem fm_scopy_3_18 (hinj : nn_inj ad) : fw_H l cy ad wr cr D 52 1 (sc_k 3 18) := fw_mk hinj (⟨"NameNotes$Sentence", "copy", "(LNameNotes$Sentence;)V"⟩, prog_7_method_3_code, 2, (Option.none : Option Jvm.ClassFile.FieldType), 1, true, 4) rfl rfl nn_KI5_ok nn_KJ5_ok nn_PF5_ok nn_PS5_ok (by decide +kernel) rfl rfl (List.forall_mem_cons.mpr ⟨fw_row nn_PM5_ok (x := 28) (k := 2) (mn := 50) (np := 2) (ob := false) (ci := 0) (⟨"NameNotes", "copyRow", "([I[I)V"⟩, prog_1_method_88_code, 3, (Option.none : Option Jvm.ClassFile.FieldType), 2, false, 4) rfl (by decide +kernel) rfl rfl (by decide) (fun q => by cases q) (fm_cp hinj), (fun _ h => absurd h List.not_mem_nil)⟩) (fun as σ K h => by
  obtain ⟨rfl, h⟩ := h
  refine ⟨rfl, fun G hG => fs_scopy_3_18_0 hG ⟨(15, 30, 64), by decide, rfl, fun σ1 M1 c1 => fs_scopy_3_18_11 hG ⟨(16, 31, 64), by decide, rfl, fun σ2 M2 c2 => fs_scopy_3_18_22 hG ?_⟩⟩⟩
  have M1 : ab_okM [(30, 1000000)] σ σ1 := M1
  have M2 : ab_okM [(31, 1000000)] σ1 σ2 := M2
  have c1 : ∀ j : Nat, j < 64 → σ1 30 j = fw_c (σ 15 j) := c1
  have c2 : ∀ j : Nat, j < 64 → σ2 31 j = fw_c (σ1 16 j) := c2
  have N2 : ab_okM [(30, 1000000), (31, 1000000)] σ σ2 := fw_okM_tr (fw_okM_tr (fw_okM_refl _ _) M1 (by decide)) M2 (by decide)
  refine h _ (fw_okM_ups (fw_okM_ups (fw_okM_tr (fw_okM_refl _ _) N2 (by decide)) (by decide)) (by decide)) ⟨fun j hj => ?_, fun j hj => ?_, ?_, ?_⟩
  · show ab_ups (ab_ups σ2 29 3 (fw_c (σ2 14 3))) 29 4 (fw_c (σ2 14 4)) 30 j = fw_c (σ 15 j)
    rw [ab_ups_ne (fun z => absurd z.1 (by decide)), ab_ups_ne (fun z => absurd z.1 (by decide)), show σ2 30 = σ1 30 from fw_okM_c M2 (by decide)]; exact c1 j hj
  · show ab_ups (ab_ups σ2 29 3 (fw_c (σ2 14 3))) 29 4 (fw_c (σ2 14 4)) 31 j = fw_c (σ 16 j)
    rw [ab_ups_ne (fun z => absurd z.1 (by decide)), ab_ups_ne (fun z => absurd z.1 (by decide)), c2 j hj, show σ1 16 = σ 16 from fw_okM_c M1 (by decide)]
  · show ab_ups (ab_ups σ2 29 3 (fw_c (σ2 14 3))) 29 4 (fw_c (σ2 14 4)) 29 3 = fw_c (σ 14 3)
    rw [ab_ups_ne (by decide), ab_ups_eq, show σ2 14 = σ 14 from fw_okM_c N2 (by decide)]
  · show ab_ups (ab_ups σ2 29 3 (fw_c (σ2 14 3))) 29 4 (fw_c (σ2 14 4)) 29 4 = fw_c (σ 14 4)
    rw [ab_ups_eq, show σ2 14 = σ 14 from fw_okM_c N2 (by decide)])
theorem fm_scopy_3_33 (hinj : nn_inj ad) : fw_H l cy ad wr cr D 52 1 (sc_k 3 33) := fw_mk hinj (⟨"NameNotes$Sentence", "copy", "(LNameNotes$Sentence;)V"⟩, prog_7_method_3_code, 2, (Option.none : Option Jvm.ClassFile.FieldType), 1, true, 4) rfl rfl nn_KI5_ok nn_KJ5_ok nn_PF5_ok nn_PS5_ok (by decide +kernel) rfl rfl (List.forall_mem_cons.mpr ⟨fw_row nn_PM5_ok (x := 28) (k := 2) (mn := 50) (np := 2) (ob := false) (ci := 0) (⟨"NameNotes", "copyRow", "([I[I)V"⟩, prog_1_method_88_code, 3, (Option.none : Option Jvm.ClassFile.FieldType), 2, false, 4) rfl (by decide +kernel) rfl rfl (by decide) (fun q => by cases q) (fm_cp hinj), (fun _ h => absurd h List.not_mem_nil)⟩) (fun as σ K h => by
  obtain ⟨rfl, h⟩ := h
  refine ⟨rfl, fun G hG => fs_scopy_3_33_0 hG ⟨(15, 45, 64), by decide, rfl, fun σ1 M1 c1 => fs_scopy_3_33_11 hG ⟨(16, 46, 64), by decide, rfl, fun σ2 M2 c2 => fs_scopy_3_33_22 hG ?_⟩⟩⟩
  have M1 : ab_okM [(45, 1000000)] σ σ1 := M1
  have M2 : ab_okM [(46, 1000000)] σ1 σ2 := M2
  have c1 : ∀ j : Nat, j < 64 → σ1 45 j = fw_c (σ 15 j) := c1
  have c2 : ∀ j : Nat, j < 64 → σ2 46 j = fw_c (σ1 16 j) := c2
  have N2 : ab_okM [(45, 1000000), (46, 1000000)] σ σ2 := fw_okM_tr (fw_okM_tr (fw_okM_refl _ _) M1 (by decide)) M2 (by decide)
  refine h _ (fw_okM_ups (fw_okM_ups (fw_okM_tr (fw_okM_refl _ _) N2 (by decide)) (by decide)) (by decide)) ⟨fun j hj => ?_, fun j hj => ?_, ?_, ?_⟩
  · show ab_ups (ab_ups σ2 44 3 (fw_c (σ2 14 3))) 44 4 (fw_c (σ2 14 4)) 45 j = fw_c (σ 15 j)
    rw [ab_ups_ne (fun z => absurd z.1 (by decide)), ab_ups_ne (fun z => absurd z.1 (by decide)), show σ2 45 = σ1 45 from fw_okM_c M2 (by decide)]; exact c1 j hj
  · show ab_ups (ab_ups σ2 44 3 (fw_c (σ2 14 3))) 44 4 (fw_c (σ2 14 4)) 46 j = fw_c (σ 16 j)
    rw [ab_ups_ne (fun z => absurd z.1 (by decide)), ab_ups_ne (fun z => absurd z.1 (by decide)), c2 j hj, show σ1 16 = σ 16 from fw_okM_c M1 (by decide)]
  · show ab_ups (ab_ups σ2 44 3 (fw_c (σ2 14 3))) 44 4 (fw_c (σ2 14 4)) 44 3 = fw_c (σ 14 3)
    rw [ab_ups_ne (by decide), ab_ups_eq, show σ2 14 = σ 14 from fw_okM_c N2 (by decide)]
  · show ab_ups (ab_ups σ2 44 3 (fw_c (σ2 14 3))) 44 4 (fw_c (σ2 14 4)) 44 4 = fw_c (σ 14 4)
    rw [ab_ups_eq, show σ2 14 = σ 14 from fw_okM_c N2 (by decide)])
theorem fm_scopy_18_3 (hinj : nn_inj ad) : fw_H l cy ad wr cr D 52 1 (sc_k 18 3) := fw_mk hinj (⟨"NameNotes$Sentence", "copy", "(LNameNotes$Sentence;)V"⟩, prog_7_method_3_code, 2, (Option.none : Option Jvm.ClassFile.FieldType), 1, true, 4) rfl rfl nn_KI5_ok nn_KJ5_ok nn_PF5_ok nn_PS5_ok (by decide +kernel) rfl rfl (List.forall_mem_cons.mpr ⟨fw_row nn_PM5_ok (x := 28) (k := 2) (mn := 50) (np := 2) (ob := false) (ci := 0) (⟨"NameNotes", "copyRow", "([I[I)V"⟩, prog_1_method_88_code, 3, (Option.none : Option Jvm.ClassFile.FieldType), 2, false, 4) rfl (by decide +kernel) rfl rfl (by decide) (fun q => by cases q) (fm_cp hinj), (fun _ h => absurd h List.not_mem_nil)⟩) (fun as σ K h => by
  obtain ⟨rfl, h⟩ := h
  refine ⟨rfl, fun G hG => fs_scopy_18_3_0 hG ⟨(30, 15, 64), by decide, rfl, fun σ1 M1 c1 => fs_scopy_18_3_11 hG ⟨(31, 16, 64), by decide, rfl, fun σ2 M2 c2 => fs_scopy_18_3_22 hG ?_⟩⟩⟩
  have M1 : ab_okM [(15, 1000000)] σ σ1 := M1
  have M2 : ab_okM [(16, 1000000)] σ1 σ2 := M2
  have c1 : ∀ j : Nat, j < 64 → σ1 15 j = fw_c (σ 30 j) := c1
  have c2 : ∀ j : Nat, j < 64 → σ2 16 j = fw_c (σ1 31 j) := c2
  have N2 : ab_okM [(15, 1000000), (16, 1000000)] σ σ2 := fw_okM_tr (fw_okM_tr (fw_okM_refl _ _) M1 (by decide)) M2 (by decide)
  refine h _ (fw_okM_ups (fw_okM_ups (fw_okM_tr (fw_okM_refl _ _) N2 (by decide)) (by decide)) (by decide)) ⟨fun j hj => ?_, fun j hj => ?_, ?_, ?_⟩
  · show ab_ups (ab_ups σ2 14 3 (fw_c (σ2 29 3))) 14 4 (fw_c (σ2 29 4)) 15 j = fw_c (σ 30 j)
    rw [ab_ups_ne (fun z => absurd z.1 (by decide)), ab_ups_ne (fun z => absurd z.1 (by decide)), show σ2 15 = σ1 15 from fw_okM_c M2 (by decide)]; exact c1 j hj
  · show ab_ups (ab_ups σ2 14 3 (fw_c (σ2 29 3))) 14 4 (fw_c (σ2 29 4)) 16 j = fw_c (σ 31 j)
    rw [ab_ups_ne (fun z => absurd z.1 (by decide)), ab_ups_ne (fun z => absurd z.1 (by decide)), c2 j hj, show σ1 31 = σ 31 from fw_okM_c M1 (by decide)]
  · show ab_ups (ab_ups σ2 14 3 (fw_c (σ2 29 3))) 14 4 (fw_c (σ2 29 4)) 14 3 = fw_c (σ 29 3)
    rw [ab_ups_ne (by decide), ab_ups_eq, show σ2 29 = σ 29 from fw_okM_c N2 (by decide)]
  · show ab_ups (ab_ups σ2 14 3 (fw_c (σ2 29 3))) 14 4 (fw_c (σ2 29 4)) 14 4 = fw_c (σ 29 4)
    rw [ab_ups_eq, show σ2 29 = σ 29 from fw_okM_c N2 (by decide)])
theorem fm_scopy_33_3 (hinj : nn_inj ad) : fw_H l cy ad wr cr D 52 1 (sc_k 33 3) := fw_mk hinj (⟨"NameNotes$Sentence", "copy", "(LNameNotes$Sentence;)V"⟩, prog_7_method_3_code, 2, (Option.none : Option Jvm.ClassFile.FieldType), 1, true, 4) rfl rfl nn_KI5_ok nn_KJ5_ok nn_PF5_ok nn_PS5_ok (by decide +kernel) rfl rfl (List.forall_mem_cons.mpr ⟨fw_row nn_PM5_ok (x := 28) (k := 2) (mn := 50) (np := 2) (ob := false) (ci := 0) (⟨"NameNotes", "copyRow", "([I[I)V"⟩, prog_1_method_88_code, 3, (Option.none : Option Jvm.ClassFile.FieldType), 2, false, 4) rfl (by decide +kernel) rfl rfl (by decide) (fun q => by cases q) (fm_cp hinj), (fun _ h => absurd h List.not_mem_nil)⟩) (fun as σ K h => by
  obtain ⟨rfl, h⟩ := h
  refine ⟨rfl, fun G hG => fs_scopy_33_3_0 hG ⟨(45, 15, 64), by decide, rfl, fun σ1 M1 c1 => fs_scopy_33_3_11 hG ⟨(46, 16, 64), by decide, rfl, fun σ2 M2 c2 => fs_scopy_33_3_22 hG ?_⟩⟩⟩
  have M1 : ab_okM [(15, 1000000)] σ σ1 := M1
  have M2 : ab_okM [(16, 1000000)] σ1 σ2 := M2
  have c1 : ∀ j : Nat, j < 64 → σ1 15 j = fw_c (σ 45 j) := c1
  have c2 : ∀ j : Nat, j < 64 → σ2 16 j = fw_c (σ1 46 j) := c2
  have N2 : ab_okM [(15, 1000000), (16, 1000000)] σ σ2 := fw_okM_tr (fw_okM_tr (fw_okM_refl _ _) M1 (by decide)) M2 (by decide)
  refine h _ (fw_okM_ups (fw_okM_ups (fw_okM_tr (fw_okM_refl _ _) N2 (by decide)) (by decide)) (by decide)) ⟨fun j hj => ?_, fun j hj => ?_, ?_, ?_⟩
  · show ab_ups (ab_ups σ2 14 3 (fw_c (σ2 44 3))) 14 4 (fw_c (σ2 44 4)) 15 j = fw_c (σ 45 j)
    rw [ab_ups_ne (fun z => absurd z.1 (by decide)), ab_ups_ne (fun z => absurd z.1 (by decide)), show σ2 15 = σ1 15 from fw_okM_c M2 (by decide)]; exact c1 j hj
  · show ab_ups (ab_ups σ2 14 3 (fw_c (σ2 44 3))) 14 4 (fw_c (σ2 44 4)) 16 j = fw_c (σ 46 j)
    rw [ab_ups_ne (fun z => absurd z.1 (by decide)), ab_ups_ne (fun z => absurd z.1 (by decide)), c2 j hj, show σ1 46 = σ 46 from fw_okM_c M1 (by decide)]
  · show ab_ups (ab_ups σ2 14 3 (fw_c (σ2 44 3))) 14 4 (fw_c (σ2 44 4)) 14 3 = fw_c (σ 44 3)
    rw [ab_ups_ne (by decide), ab_ups_eq, show σ2 44 = σ 44 from fw_okM_c N2 (by decide)]
  · show ab_ups (ab_ups σ2 14 3 (fw_c (σ2 44 3))) 14 4 (fw_c (σ2 44 4)) 14 4 = fw_c (σ 44 4)
    rw [ab_ups_eq, show σ2 44 = σ 44 from fw_okM_c N2 (by decide)])
theorem fm_scopy (hinj : nn_inj ad) : fw_H l cy ad wr cr D 52 1 sp_scopy := fw_H_of (List.forall_mem_cons.mpr ⟨fm_scopy_49_3 hinj, (List.forall_mem_cons.mpr ⟨fm_scopy_3_18 hinj, (List.forall_mem_cons.mpr ⟨fm_scopy_3_33 hinj, (List.forall_mem_cons.mpr ⟨fm_scopy_18_3 hinj, (List.forall_mem_cons.mpr ⟨fm_scopy_33_3 hinj, (fun _ h => absurd h List.not_mem_nil)⟩)⟩)⟩)⟩)⟩)
theorem fm_copy_49_3 (hinj : nn_inj ad) : fw_H l cy ad wr cr D 49 2 (cy_k 49 3) := fw_mk hinj (⟨"NameNotes$Studio", "copy", "(LNameNotes$Studio;)V"⟩, prog_8_method_3_code, 2, (Option.none : Option Jvm.ClassFile.FieldType), 1, true, 4) rfl rfl nn_KI6_ok nn_KJ6_ok nn_PF6_ok nn_PS6_ok (by decide +kernel) rfl rfl (List.forall_mem_cons.mpr ⟨fw_row nn_PM6_ok (x := 70) (k := 2) (mn := 50) (np := 2) (ob := false) (ci := 0) (⟨"NameNotes", "copyRow", "([I[I)V"⟩, prog_1_method_88_code, 3, (Option.none : Option Jvm.ClassFile.FieldType), 2, false, 4) rfl (by decide +kernel) rfl rfl (by decide) (fun q => by cases q) (fm_cp hinj), (List.forall_mem_cons.mpr ⟨fw_row nn_PM6_ok (x := 74) (k := 2) (mn := 51) (np := 2) (ob := false) (ci := 0) (⟨"NameNotes", "copyRow", "([J[J)V"⟩, prog_1_method_89_code, 3, (Option.none : Option Jvm.ClassFile.FieldType), 2, false, 4) rfl (by decide +kernel) rfl rfl (by decide) (fun q => by cases q) (fm_cl hinj), (List.forall_mem_cons.mpr ⟨fw_row nn_PM6_ok (x := 77) (k := 0) (mn := 52) (np := 1) (ob := true) (ci := 5) (⟨"NameNotes$Sentence", "copy", "(LNameNotes$Sentence;)V"⟩, prog_7_method_3_code, 2, (Option.none : Option Jvm.ClassFile.FieldType), 1, true, 4) rfl (by decide +kernel) rfl rfl (by decide) (fun _ => ⟨_, _, rfl⟩) (fm_scopy hinj), (fun _ h => absurd h List.not_mem_nil)⟩)⟩)⟩) (fun as σ0 K h => by
  obtain ⟨rfl, h⟩ := h
  refine ⟨rfl, fun G hG => fs_copy_49_3_0 hG ⟨(50, 4, 81), by decide, rfl, fun σ1 M1 c1 => fs_copy_49_3_11 hG ⟨(51, 5, 81), by decide, rfl, fun σ2 M2 c2 => fs_copy_49_3_22 hG ⟨(52, 6, 9), by decide, rfl, fun σ3 M3 c3 => fs_copy_49_3_33 hG ⟨(53, 7, 324), by decide, rfl, fun σ4 M4 c4 => fs_copy_49_3_44 hG ⟨(54, 8, 6), by decide, rfl, fun σ5 M5 c5 => fs_copy_49_3_55 hG ⟨(55, 9, 45), by decide, rfl, fun σ6 M6 c6 => fs_copy_49_3_66 hG ⟨(56, 10, 5), by decide, rfl, fun σ7 M7 c7 => fs_copy_49_3_77 hG ⟨(57, 11, 9), by decide, rfl, fun σ8 M8 c8 => fs_copy_49_3_88 hG ⟨(58, 12, 6), by decide, rfl, fun σ9 M9 c9 => fs_copy_49_3_99 hG ⟨(59, 13, 5), by decide, rfl, fun σ10 M10 c10 => fs_copy_49_3_110 hG ⟨(49, 3), by decide, rfl, fun σ11 M11 c11 => fs_copy_49_3_121 hG ?_⟩⟩⟩⟩⟩⟩⟩⟩⟩⟩⟩⟩
  have M1 : ab_okM [(4, 1000000)] σ0 σ1 := M1
  have c1 : ∀ j : Nat, j < 81 → σ1 4 j = fw_c (σ0 50 j) := c1
  have M2 : ab_okM [(5, 1000000)] σ1 σ2 := M2
  have c2 : ∀ j : Nat, j < 81 → σ2 5 j = fw_c (σ1 51 j) := c2
  have M3 : ab_okM [(6, 1000000)] σ2 σ3 := M3
  have c3 : ∀ j : Nat, j < 9 → σ3 6 j = fw_c (σ2 52 j) := c3
  have M4 : ab_okM [(7, 1000000)] σ3 σ4 := M4
  have c4 : ∀ j : Nat, j < 324 → σ4 7 j = fw_c (σ3 53 j) := c4
  have M5 : ab_okM [(8, 1000000)] σ4 σ5 := M5
  have c5 : ∀ j : Nat, j < 6 → σ5 8 j = fw_c (σ4 54 j) := c5
  have M6 : ab_okM [(9, 1000000)] σ5 σ6 := M6
  have c6 : ∀ j : Nat, j < 45 → σ6 9 j = fw_c (σ5 55 j) := c6
  have M7 : ab_okM [(10, 1000000)] σ6 σ7 := M7
  have c7 : ∀ j : Nat, j < 5 → σ7 10 j = fw_c (σ6 56 j) := c7
  have M8 : ab_okM [(11, 1000000)] σ7 σ8 := M8
  have c8 : ∀ j : Nat, j < 9 → σ8 11 j = fw_d (σ7 57 j) := c8
  have M9 : ab_okM [(12, 1000000)] σ8 σ9 := M9
  have c9 : ∀ j : Nat, j < 6 → σ9 12 j = fw_d (σ8 58 j) := c9
  have M10 : ab_okM [(13, 1000000)] σ9 σ10 := M10
  have c10 : ∀ j : Nat, j < 5 → σ10 13 j = fw_d (σ9 59 j) := c10
  have M11 : ab_okM (sc_M 3) σ10 σ11 := M11
  have c11 : sc_is σ10 σ11 49 3 := c11
  have N1 : ab_okM ((4, 1000000) :: []) σ0 σ1 := fw_okM_tr (fw_okM_refl _ _) M1 (by decide)
  have N2 : ab_okM ((4, 1000000) :: (5, 1000000) :: []) σ0 σ2 := fw_okM_tr (fw_okM_tr (fw_okM_refl _ _) N1 (by decide)) M2 (by decide)
  have N3 : ab_okM ((4, 1000000) :: (5, 1000000) :: (6, 1000000) :: []) σ0 σ3 := fw_okM_tr (fw_okM_tr (fw_okM_refl _ _) N2 (by decide)) M3 (by decide)
  have N4 : ab_okM ((4, 1000000) :: (5, 1000000) :: (6, 1000000) :: (7, 1000000) :: []) σ0 σ4 := fw_okM_tr (fw_okM_tr (fw_okM_refl _ _) N3 (by decide)) M4 (by decide)
  have N5 : ab_okM ((4, 1000000) :: (5, 1000000) :: (6, 1000000) :: (7, 1000000) :: (8, 1000000) :: []) σ0 σ5 := fw_okM_tr (fw_okM_tr (fw_okM_refl _ _) N4 (by decide)) M5 (by decide)
  have N6 : ab_okM ((4, 1000000) :: (5, 1000000) :: (6, 1000000) :: (7, 1000000) :: (8, 1000000) :: (9, 1000000) :: []) σ0 σ6 := fw_okM_tr (fw_okM_tr (fw_okM_refl _ _) N5 (by decide)) M6 (by decide)
  have N7 : ab_okM ((4, 1000000) :: (5, 1000000) :: (6, 1000000) :: (7, 1000000) :: (8, 1000000) :: (9, 1000000) :: (10, 1000000) :: []) σ0 σ7 := fw_okM_tr (fw_okM_tr (fw_okM_refl _ _) N6 (by decide)) M7 (by decide)
  have N8 : ab_okM ((4, 1000000) :: (5, 1000000) :: (6, 1000000) :: (7, 1000000) :: (8, 1000000) :: (9, 1000000) :: (10, 1000000) :: (11, 1000000) :: []) σ0 σ8 := fw_okM_tr (fw_okM_tr (fw_okM_refl _ _) N7 (by decide)) M8 (by decide)
  have N9 : ab_okM ((4, 1000000) :: (5, 1000000) :: (6, 1000000) :: (7, 1000000) :: (8, 1000000) :: (9, 1000000) :: (10, 1000000) :: (11, 1000000) :: (12, 1000000) :: []) σ0 σ9 := fw_okM_tr (fw_okM_tr (fw_okM_refl _ _) N8 (by decide)) M9 (by decide)
  have N10 : ab_okM ((4, 1000000) :: (5, 1000000) :: (6, 1000000) :: (7, 1000000) :: (8, 1000000) :: (9, 1000000) :: (10, 1000000) :: (11, 1000000) :: (12, 1000000) :: (13, 1000000) :: []) σ0 σ10 := fw_okM_tr (fw_okM_tr (fw_okM_refl _ _) N9 (by decide)) M10 (by decide)
  have N11 : ab_okM ((4, 1000000) :: (5, 1000000) :: (6, 1000000) :: (7, 1000000) :: (8, 1000000) :: (9, 1000000) :: (10, 1000000) :: (11, 1000000) :: (12, 1000000) :: (13, 1000000) :: sc_M 3) σ0 σ11 := fw_okM_tr (fw_okM_tr (fw_okM_refl _ _) N10 (by decide)) M11 (by decide)
  have Q11 : ab_okM ([]) σ11 σ11 := fw_okM_refl _ _
  have Q10 : ab_okM (sc_M 3) σ10 σ11 := fw_okM_tr (fw_okM_tr (fw_okM_refl _ _) M11 (by decide)) Q11 (by decide)
  have Q9 : ab_okM ((13, 1000000) :: sc_M 3) σ9 σ11 := fw_okM_tr (fw_okM_tr (fw_okM_refl _ _) M10 (by decide)) Q10 (by decide)
  have Q8 : ab_okM ((12, 1000000) :: (13, 1000000) :: sc_M 3) σ8 σ11 := fw_okM_tr (fw_okM_tr (fw_okM_refl _ _) M9 (by decide)) Q9 (by decide)
  have Q7 : ab_okM ((11, 1000000) :: (12, 1000000) :: (13, 1000000) :: sc_M 3) σ7 σ11 := fw_okM_tr (fw_okM_tr (fw_okM_refl _ _) M8 (by decide)) Q8 (by decide)
  have Q6 : ab_okM ((10, 1000000) :: (11, 1000000) :: (12, 1000000) :: (13, 1000000) :: sc_M 3) σ6 σ11 := fw_okM_tr (fw_okM_tr (fw_okM_refl _ _) M7 (by decide)) Q7 (by decide)
  have Q5 : ab_okM ((9, 1000000) :: (10, 1000000) :: (11, 1000000) :: (12, 1000000) :: (13, 1000000) :: sc_M 3) σ5 σ11 := fw_okM_tr (fw_okM_tr (fw_okM_refl _ _) M6 (by decide)) Q6 (by decide)
  have Q4 : ab_okM ((8, 1000000) :: (9, 1000000) :: (10, 1000000) :: (11, 1000000) :: (12, 1000000) :: (13, 1000000) :: sc_M 3) σ4 σ11 := fw_okM_tr (fw_okM_tr (fw_okM_refl _ _) M5 (by decide)) Q5 (by decide)
  have Q3 : ab_okM ((7, 1000000) :: (8, 1000000) :: (9, 1000000) :: (10, 1000000) :: (11, 1000000) :: (12, 1000000) :: (13, 1000000) :: sc_M 3) σ3 σ11 := fw_okM_tr (fw_okM_tr (fw_okM_refl _ _) M4 (by decide)) Q4 (by decide)
  have Q2 : ab_okM ((6, 1000000) :: (7, 1000000) :: (8, 1000000) :: (9, 1000000) :: (10, 1000000) :: (11, 1000000) :: (12, 1000000) :: (13, 1000000) :: sc_M 3) σ2 σ11 := fw_okM_tr (fw_okM_tr (fw_okM_refl _ _) M3 (by decide)) Q3 (by decide)
  have Q1 : ab_okM ((5, 1000000) :: (6, 1000000) :: (7, 1000000) :: (8, 1000000) :: (9, 1000000) :: (10, 1000000) :: (11, 1000000) :: (12, 1000000) :: (13, 1000000) :: sc_M 3) σ1 σ11 := fw_okM_tr (fw_okM_tr (fw_okM_refl _ _) M2 (by decide)) Q2 (by decide)
  have rr : ∀ k : Nat, k ≠ 3 → (ab_ups (ab_ups (ab_ups (ab_ups (ab_ups σ11 3 11 (fw_c (σ11 49 11))) 3 12 (fw_c (σ11 49 12))) 3 13 (fw_c (σ11 49 13))) 3 14 (fw_c (σ11 49 14))) 3 15 (fw_c (σ11 49 15))) k = σ11 k := fun k hk => by rw [ab_ups_row hk, ab_ups_row hk, ab_ups_row hk, ab_ups_row hk, ab_ups_row hk]
  have ff : ∀ j : Nat, j = 11 ∨ j = 12 ∨ j = 13 ∨ j = 14 ∨ j = 15 → (ab_ups (ab_ups (ab_ups (ab_ups (ab_ups σ11 3 11 (fw_c (σ11 49 11))) 3 12 (fw_c (σ11 49 12))) 3 13 (fw_c (σ11 49 13))) 3 14 (fw_c (σ11 49 14))) 3 15 (fw_c (σ11 49 15))) 3 j = fw_c (σ0 49 j) := fun j hj => by
    have e1 : σ11 49 = σ0 49 := fw_okM_c N11 (by decide)
    rw [e1]
    rcases hj with rfl | rfl | rfl | rfl | rfl
    · rw [ab_ups_ne (by decide), ab_ups_ne (by decide), ab_ups_ne (by decide), ab_ups_ne (by decide), ab_ups_eq]
    · rw [ab_ups_ne (by decide), ab_ups_ne (by decide), ab_ups_ne (by decide), ab_ups_eq]
    · rw [ab_ups_ne (by decide), ab_ups_ne (by decide), ab_ups_eq]
    · rw [ab_ups_ne (by decide), ab_ups_eq]
    · rw [ab_ups_eq]
  refine h _ (fw_okM_ups (fw_okM_ups (fw_okM_ups (fw_okM_ups (fw_okM_ups (fw_okM_tr (fw_okM_refl _ _) N11 (by decide)) (by decide)) (by decide)) (by decide)) (by decide)) (by decide)) ⟨fun j hj => ?_, fun j hj => ?_, fun j hj => ?_, fun j hj => ?_, fun j hj => ?_, fun j hj => ?_, fun j hj => ?_, fun j hj => ?_, fun j hj => ?_, fun j hj => ?_, ?_, ff 11 (by decide), ff 12 (by decide), ff 13 (by decide), ff 14 (by decide), ff 15 (by decide)⟩
  · show (ab_ups (ab_ups (ab_ups (ab_ups (ab_ups σ11 3 11 (fw_c (σ11 49 11))) 3 12 (fw_c (σ11 49 12))) 3 13 (fw_c (σ11 49 13))) 3 14 (fw_c (σ11 49 14))) 3 15 (fw_c (σ11 49 15))) 4 j = fw_c (σ0 50 j)
    rw [rr 4 (by decide), show σ11 4 = σ1 4 from fw_okM_c Q1 (by decide), c1 j hj]
  · show (ab_ups (ab_ups (ab_ups (ab_ups (ab_ups σ11 3 11 (fw_c (σ11 49 11))) 3 12 (fw_c (σ11 49 12))) 3 13 (fw_c (σ11 49 13))) 3 14 (fw_c (σ11 49 14))) 3 15 (fw_c (σ11 49 15))) 5 j = fw_c (σ0 51 j)
    rw [rr 5 (by decide), show σ11 5 = σ2 5 from fw_okM_c Q2 (by decide), c2 j hj, show σ1 51 = σ0 51 from fw_okM_c N1 (by decide)]
  · show (ab_ups (ab_ups (ab_ups (ab_ups (ab_ups σ11 3 11 (fw_c (σ11 49 11))) 3 12 (fw_c (σ11 49 12))) 3 13 (fw_c (σ11 49 13))) 3 14 (fw_c (σ11 49 14))) 3 15 (fw_c (σ11 49 15))) 6 j = fw_c (σ0 52 j)
    rw [rr 6 (by decide), show σ11 6 = σ3 6 from fw_okM_c Q3 (by decide), c3 j hj, show σ2 52 = σ0 52 from fw_okM_c N2 (by decide)]
  · show (ab_ups (ab_ups (ab_ups (ab_ups (ab_ups σ11 3 11 (fw_c (σ11 49 11))) 3 12 (fw_c (σ11 49 12))) 3 13 (fw_c (σ11 49 13))) 3 14 (fw_c (σ11 49 14))) 3 15 (fw_c (σ11 49 15))) 7 j = fw_c (σ0 53 j)
    rw [rr 7 (by decide), show σ11 7 = σ4 7 from fw_okM_c Q4 (by decide), c4 j hj, show σ3 53 = σ0 53 from fw_okM_c N3 (by decide)]
  · show (ab_ups (ab_ups (ab_ups (ab_ups (ab_ups σ11 3 11 (fw_c (σ11 49 11))) 3 12 (fw_c (σ11 49 12))) 3 13 (fw_c (σ11 49 13))) 3 14 (fw_c (σ11 49 14))) 3 15 (fw_c (σ11 49 15))) 8 j = fw_c (σ0 54 j)
    rw [rr 8 (by decide), show σ11 8 = σ5 8 from fw_okM_c Q5 (by decide), c5 j hj, show σ4 54 = σ0 54 from fw_okM_c N4 (by decide)]
  · show (ab_ups (ab_ups (ab_ups (ab_ups (ab_ups σ11 3 11 (fw_c (σ11 49 11))) 3 12 (fw_c (σ11 49 12))) 3 13 (fw_c (σ11 49 13))) 3 14 (fw_c (σ11 49 14))) 3 15 (fw_c (σ11 49 15))) 9 j = fw_c (σ0 55 j)
    rw [rr 9 (by decide), show σ11 9 = σ6 9 from fw_okM_c Q6 (by decide), c6 j hj, show σ5 55 = σ0 55 from fw_okM_c N5 (by decide)]
  · show (ab_ups (ab_ups (ab_ups (ab_ups (ab_ups σ11 3 11 (fw_c (σ11 49 11))) 3 12 (fw_c (σ11 49 12))) 3 13 (fw_c (σ11 49 13))) 3 14 (fw_c (σ11 49 14))) 3 15 (fw_c (σ11 49 15))) 10 j = fw_c (σ0 56 j)
    rw [rr 10 (by decide), show σ11 10 = σ7 10 from fw_okM_c Q7 (by decide), c7 j hj, show σ6 56 = σ0 56 from fw_okM_c N6 (by decide)]
  · show (ab_ups (ab_ups (ab_ups (ab_ups (ab_ups σ11 3 11 (fw_c (σ11 49 11))) 3 12 (fw_c (σ11 49 12))) 3 13 (fw_c (σ11 49 13))) 3 14 (fw_c (σ11 49 14))) 3 15 (fw_c (σ11 49 15))) 11 j = fw_d (σ0 57 j)
    rw [rr 11 (by decide), show σ11 11 = σ8 11 from fw_okM_c Q8 (by decide), c8 j hj, show σ7 57 = σ0 57 from fw_okM_c N7 (by decide)]
  · show (ab_ups (ab_ups (ab_ups (ab_ups (ab_ups σ11 3 11 (fw_c (σ11 49 11))) 3 12 (fw_c (σ11 49 12))) 3 13 (fw_c (σ11 49 13))) 3 14 (fw_c (σ11 49 14))) 3 15 (fw_c (σ11 49 15))) 12 j = fw_d (σ0 58 j)
    rw [rr 12 (by decide), show σ11 12 = σ9 12 from fw_okM_c Q9 (by decide), c9 j hj, show σ8 58 = σ0 58 from fw_okM_c N8 (by decide)]
  · show (ab_ups (ab_ups (ab_ups (ab_ups (ab_ups σ11 3 11 (fw_c (σ11 49 11))) 3 12 (fw_c (σ11 49 12))) 3 13 (fw_c (σ11 49 13))) 3 14 (fw_c (σ11 49 14))) 3 15 (fw_c (σ11 49 15))) 13 j = fw_d (σ0 59 j)
    rw [rr 13 (by decide), show σ11 13 = σ10 13 from fw_okM_c Q10 (by decide), c10 j hj, show σ9 59 = σ0 59 from fw_okM_c N9 (by decide)]
  · obtain ⟨s1, s2, s3, s4⟩ := c11
    refine ⟨fun j hj => ?_, fun j hj => ?_, ?_, ?_⟩
    · show (ab_ups (ab_ups (ab_ups (ab_ups (ab_ups σ11 3 11 (fw_c (σ11 49 11))) 3 12 (fw_c (σ11 49 12))) 3 13 (fw_c (σ11 49 13))) 3 14 (fw_c (σ11 49 14))) 3 15 (fw_c (σ11 49 15))) 15 j = fw_c (σ0 61 j)
      rw [rr 15 (by decide), show σ0 61 = σ10 61 from (fw_okM_c N10 (by decide)).symm]; exact s1 j hj
    · show (ab_ups (ab_ups (ab_ups (ab_ups (ab_ups σ11 3 11 (fw_c (σ11 49 11))) 3 12 (fw_c (σ11 49 12))) 3 13 (fw_c (σ11 49 13))) 3 14 (fw_c (σ11 49 14))) 3 15 (fw_c (σ11 49 15))) 16 j = fw_c (σ0 62 j)
      rw [rr 16 (by decide), show σ0 62 = σ10 62 from (fw_okM_c N10 (by decide)).symm]; exact s2 j hj
    · show (ab_ups (ab_ups (ab_ups (ab_ups (ab_ups σ11 3 11 (fw_c (σ11 49 11))) 3 12 (fw_c (σ11 49 12))) 3 13 (fw_c (σ11 49 13))) 3 14 (fw_c (σ11 49 14))) 3 15 (fw_c (σ11 49 15))) 14 3 = fw_c (σ0 60 3)
      rw [rr 14 (by decide), show σ0 60 = σ10 60 from (fw_okM_c N10 (by decide)).symm]; exact s3
    · show (ab_ups (ab_ups (ab_ups (ab_ups (ab_ups σ11 3 11 (fw_c (σ11 49 11))) 3 12 (fw_c (σ11 49 12))) 3 13 (fw_c (σ11 49 13))) 3 14 (fw_c (σ11 49 14))) 3 15 (fw_c (σ11 49 15))) 14 4 = fw_c (σ0 60 4)
      rw [rr 14 (by decide), show σ0 60 = σ10 60 from (fw_okM_c N10 (by decide)).symm]; exact s4)
theorem fm_copy_3_18 (hinj : nn_inj ad) : fw_H l cy ad wr cr D 49 2 (cy_k 3 18) := fw_mk hinj (⟨"NameNotes$Studio", "copy", "(LNameNotes$Studio;)V"⟩, prog_8_method_3_code, 2, (Option.none : Option Jvm.ClassFile.FieldType), 1, true, 4) rfl rfl nn_KI6_ok nn_KJ6_ok nn_PF6_ok nn_PS6_ok (by decide +kernel) rfl rfl (List.forall_mem_cons.mpr ⟨fw_row nn_PM6_ok (x := 70) (k := 2) (mn := 50) (np := 2) (ob := false) (ci := 0) (⟨"NameNotes", "copyRow", "([I[I)V"⟩, prog_1_method_88_code, 3, (Option.none : Option Jvm.ClassFile.FieldType), 2, false, 4) rfl (by decide +kernel) rfl rfl (by decide) (fun q => by cases q) (fm_cp hinj), (List.forall_mem_cons.mpr ⟨fw_row nn_PM6_ok (x := 74) (k := 2) (mn := 51) (np := 2) (ob := false) (ci := 0) (⟨"NameNotes", "copyRow", "([J[J)V"⟩, prog_1_method_89_code, 3, (Option.none : Option Jvm.ClassFile.FieldType), 2, false, 4) rfl (by decide +kernel) rfl rfl (by decide) (fun q => by cases q) (fm_cl hinj), (List.forall_mem_cons.mpr ⟨fw_row nn_PM6_ok (x := 77) (k := 0) (mn := 52) (np := 1) (ob := true) (ci := 5) (⟨"NameNotes$Sentence", "copy", "(LNameNotes$Sentence;)V"⟩, prog_7_method_3_code, 2, (Option.none : Option Jvm.ClassFile.FieldType), 1, true, 4) rfl (by decide +kernel) rfl rfl (by decide) (fun _ => ⟨_, _, rfl⟩) (fm_scopy hinj), (fun _ h => absurd h List.not_mem_nil)⟩)⟩)⟩) (fun as σ0 K h => by
  obtain ⟨rfl, h⟩ := h
  refine ⟨rfl, fun G hG => fs_copy_3_18_0 hG ⟨(4, 19, 81), by decide, rfl, fun σ1 M1 c1 => fs_copy_3_18_11 hG ⟨(5, 20, 81), by decide, rfl, fun σ2 M2 c2 => fs_copy_3_18_22 hG ⟨(6, 21, 9), by decide, rfl, fun σ3 M3 c3 => fs_copy_3_18_33 hG ⟨(7, 22, 324), by decide, rfl, fun σ4 M4 c4 => fs_copy_3_18_44 hG ⟨(8, 23, 6), by decide, rfl, fun σ5 M5 c5 => fs_copy_3_18_55 hG ⟨(9, 24, 45), by decide, rfl, fun σ6 M6 c6 => fs_copy_3_18_66 hG ⟨(10, 25, 5), by decide, rfl, fun σ7 M7 c7 => fs_copy_3_18_77 hG ⟨(11, 26, 9), by decide, rfl, fun σ8 M8 c8 => fs_copy_3_18_88 hG ⟨(12, 27, 6), by decide, rfl, fun σ9 M9 c9 => fs_copy_3_18_99 hG ⟨(13, 28, 5), by decide, rfl, fun σ10 M10 c10 => fs_copy_3_18_110 hG ⟨(3, 18), by decide, rfl, fun σ11 M11 c11 => fs_copy_3_18_121 hG ?_⟩⟩⟩⟩⟩⟩⟩⟩⟩⟩⟩⟩
  have M1 : ab_okM [(19, 1000000)] σ0 σ1 := M1
  have c1 : ∀ j : Nat, j < 81 → σ1 19 j = fw_c (σ0 4 j) := c1
  have M2 : ab_okM [(20, 1000000)] σ1 σ2 := M2
  have c2 : ∀ j : Nat, j < 81 → σ2 20 j = fw_c (σ1 5 j) := c2
  have M3 : ab_okM [(21, 1000000)] σ2 σ3 := M3
  have c3 : ∀ j : Nat, j < 9 → σ3 21 j = fw_c (σ2 6 j) := c3
  have M4 : ab_okM [(22, 1000000)] σ3 σ4 := M4
  have c4 : ∀ j : Nat, j < 324 → σ4 22 j = fw_c (σ3 7 j) := c4
  have M5 : ab_okM [(23, 1000000)] σ4 σ5 := M5
  have c5 : ∀ j : Nat, j < 6 → σ5 23 j = fw_c (σ4 8 j) := c5
  have M6 : ab_okM [(24, 1000000)] σ5 σ6 := M6
  have c6 : ∀ j : Nat, j < 45 → σ6 24 j = fw_c (σ5 9 j) := c6
  have M7 : ab_okM [(25, 1000000)] σ6 σ7 := M7
  have c7 : ∀ j : Nat, j < 5 → σ7 25 j = fw_c (σ6 10 j) := c7
  have M8 : ab_okM [(26, 1000000)] σ7 σ8 := M8
  have c8 : ∀ j : Nat, j < 9 → σ8 26 j = fw_d (σ7 11 j) := c8
  have M9 : ab_okM [(27, 1000000)] σ8 σ9 := M9
  have c9 : ∀ j : Nat, j < 6 → σ9 27 j = fw_d (σ8 12 j) := c9
  have M10 : ab_okM [(28, 1000000)] σ9 σ10 := M10
  have c10 : ∀ j : Nat, j < 5 → σ10 28 j = fw_d (σ9 13 j) := c10
  have M11 : ab_okM (sc_M 18) σ10 σ11 := M11
  have c11 : sc_is σ10 σ11 3 18 := c11
  have N1 : ab_okM ((19, 1000000) :: []) σ0 σ1 := fw_okM_tr (fw_okM_refl _ _) M1 (by decide)
  have N2 : ab_okM ((19, 1000000) :: (20, 1000000) :: []) σ0 σ2 := fw_okM_tr (fw_okM_tr (fw_okM_refl _ _) N1 (by decide)) M2 (by decide)
  have N3 : ab_okM ((19, 1000000) :: (20, 1000000) :: (21, 1000000) :: []) σ0 σ3 := fw_okM_tr (fw_okM_tr (fw_okM_refl _ _) N2 (by decide)) M3 (by decide)
  have N4 : ab_okM ((19, 1000000) :: (20, 1000000) :: (21, 1000000) :: (22, 1000000) :: []) σ0 σ4 := fw_okM_tr (fw_okM_tr (fw_okM_refl _ _) N3 (by decide)) M4 (by decide)
  have N5 : ab_okM ((19, 1000000) :: (20, 1000000) :: (21, 1000000) :: (22, 1000000) :: (23, 1000000) :: []) σ0 σ5 := fw_okM_tr (fw_okM_tr (fw_okM_refl _ _) N4 (by decide)) M5 (by decide)
  have N6 : ab_okM ((19, 1000000) :: (20, 1000000) :: (21, 1000000) :: (22, 1000000) :: (23, 1000000) :: (24, 1000000) :: []) σ0 σ6 := fw_okM_tr (fw_okM_tr (fw_okM_refl _ _) N5 (by decide)) M6 (by decide)
  have N7 : ab_okM ((19, 1000000) :: (20, 1000000) :: (21, 1000000) :: (22, 1000000) :: (23, 1000000) :: (24, 1000000) :: (25, 1000000) :: []) σ0 σ7 := fw_okM_tr (fw_okM_tr (fw_okM_refl _ _) N6 (by decide)) M7 (by decide)
  have N8 : ab_okM ((19, 1000000) :: (20, 1000000) :: (21, 1000000) :: (22, 1000000) :: (23, 1000000) :: (24, 1000000) :: (25, 1000000) :: (26, 1000000) :: []) σ0 σ8 := fw_okM_tr (fw_okM_tr (fw_okM_refl _ _) N7 (by decide)) M8 (by decide)
  have N9 : ab_okM ((19, 1000000) :: (20, 1000000) :: (21, 1000000) :: (22, 1000000) :: (23, 1000000) :: (24, 1000000) :: (25, 1000000) :: (26, 1000000) :: (27, 1000000) :: []) σ0 σ9 := fw_okM_tr (fw_okM_tr (fw_okM_refl _ _) N8 (by decide)) M9 (by decide)
  have N10 : ab_okM ((19, 1000000) :: (20, 1000000) :: (21, 1000000) :: (22, 1000000) :: (23, 1000000) :: (24, 1000000) :: (25, 1000000) :: (26, 1000000) :: (27, 1000000) :: (28, 1000000) :: []) σ0 σ10 := fw_okM_tr (fw_okM_tr (fw_okM_refl _ _) N9 (by decide)) M10 (by decide)
  have N11 : ab_okM ((19, 1000000) :: (20, 1000000) :: (21, 1000000) :: (22, 1000000) :: (23, 1000000) :: (24, 1000000) :: (25, 1000000) :: (26, 1000000) :: (27, 1000000) :: (28, 1000000) :: sc_M 18) σ0 σ11 := fw_okM_tr (fw_okM_tr (fw_okM_refl _ _) N10 (by decide)) M11 (by decide)
  have Q11 : ab_okM ([]) σ11 σ11 := fw_okM_refl _ _
  have Q10 : ab_okM (sc_M 18) σ10 σ11 := fw_okM_tr (fw_okM_tr (fw_okM_refl _ _) M11 (by decide)) Q11 (by decide)
  have Q9 : ab_okM ((28, 1000000) :: sc_M 18) σ9 σ11 := fw_okM_tr (fw_okM_tr (fw_okM_refl _ _) M10 (by decide)) Q10 (by decide)
  have Q8 : ab_okM ((27, 1000000) :: (28, 1000000) :: sc_M 18) σ8 σ11 := fw_okM_tr (fw_okM_tr (fw_okM_refl _ _) M9 (by decide)) Q9 (by decide)
  have Q7 : ab_okM ((26, 1000000) :: (27, 1000000) :: (28, 1000000) :: sc_M 18) σ7 σ11 := fw_okM_tr (fw_okM_tr (fw_okM_refl _ _) M8 (by decide)) Q8 (by decide)
  have Q6 : ab_okM ((25, 1000000) :: (26, 1000000) :: (27, 1000000) :: (28, 1000000) :: sc_M 18) σ6 σ11 := fw_okM_tr (fw_okM_tr (fw_okM_refl _ _) M7 (by decide)) Q7 (by decide)
  have Q5 : ab_okM ((24, 1000000) :: (25, 1000000) :: (26, 1000000) :: (27, 1000000) :: (28, 1000000) :: sc_M 18) σ5 σ11 := fw_okM_tr (fw_okM_tr (fw_okM_refl _ _) M6 (by decide)) Q6 (by decide)
  have Q4 : ab_okM ((23, 1000000) :: (24, 1000000) :: (25, 1000000) :: (26, 1000000) :: (27, 1000000) :: (28, 1000000) :: sc_M 18) σ4 σ11 := fw_okM_tr (fw_okM_tr (fw_okM_refl _ _) M5 (by decide)) Q5 (by decide)
  have Q3 : ab_okM ((22, 1000000) :: (23, 1000000) :: (24, 1000000) :: (25, 1000000) :: (26, 1000000) :: (27, 1000000) :: (28, 1000000) :: sc_M 18) σ3 σ11 := fw_okM_tr (fw_okM_tr (fw_okM_refl _ _) M4 (by decide)) Q4 (by decide)
  have Q2 : ab_okM ((21, 1000000) :: (22, 1000000) :: (23, 1000000) :: (24, 1000000) :: (25, 1000000) :: (26, 1000000) :: (27, 1000000) :: (28, 1000000) :: sc_M 18) σ2 σ11 := fw_okM_tr (fw_okM_tr (fw_okM_refl _ _) M3 (by decide)) Q3 (by decide)
  have Q1 : ab_okM ((20, 1000000) :: (21, 1000000) :: (22, 1000000) :: (23, 1000000) :: (24, 1000000) :: (25, 1000000) :: (26, 1000000) :: (27, 1000000) :: (28, 1000000) :: sc_M 18) σ1 σ11 := fw_okM_tr (fw_okM_tr (fw_okM_refl _ _) M2 (by decide)) Q2 (by decide)
  have rr : ∀ k : Nat, k ≠ 18 → (ab_ups (ab_ups (ab_ups (ab_ups (ab_ups σ11 18 11 (fw_c (σ11 3 11))) 18 12 (fw_c (σ11 3 12))) 18 13 (fw_c (σ11 3 13))) 18 14 (fw_c (σ11 3 14))) 18 15 (fw_c (σ11 3 15))) k = σ11 k := fun k hk => by rw [ab_ups_row hk, ab_ups_row hk, ab_ups_row hk, ab_ups_row hk, ab_ups_row hk]
  have ff : ∀ j : Nat, j = 11 ∨ j = 12 ∨ j = 13 ∨ j = 14 ∨ j = 15 → (ab_ups (ab_ups (ab_ups (ab_ups (ab_ups σ11 18 11 (fw_c (σ11 3 11))) 18 12 (fw_c (σ11 3 12))) 18 13 (fw_c (σ11 3 13))) 18 14 (fw_c (σ11 3 14))) 18 15 (fw_c (σ11 3 15))) 18 j = fw_c (σ0 3 j) := fun j hj => by
    have e1 : σ11 3 = σ0 3 := fw_okM_c N11 (by decide)
    rw [e1]
    rcases hj with rfl | rfl | rfl | rfl | rfl
    · rw [ab_ups_ne (by decide), ab_ups_ne (by decide), ab_ups_ne (by decide), ab_ups_ne (by decide), ab_ups_eq]
    · rw [ab_ups_ne (by decide), ab_ups_ne (by decide), ab_ups_ne (by decide), ab_ups_eq]
    · rw [ab_ups_ne (by decide), ab_ups_ne (by decide), ab_ups_eq]
    · rw [ab_ups_ne (by decide), ab_ups_eq]
    · rw [ab_ups_eq]
  refine h _ (fw_okM_ups (fw_okM_ups (fw_okM_ups (fw_okM_ups (fw_okM_ups (fw_okM_tr (fw_okM_refl _ _) N11 (by decide)) (by decide)) (by decide)) (by decide)) (by decide)) (by decide)) ⟨fun j hj => ?_, fun j hj => ?_, fun j hj => ?_, fun j hj => ?_, fun j hj => ?_, fun j hj => ?_, fun j hj => ?_, fun j hj => ?_, fun j hj => ?_, fun j hj => ?_, ?_, ff 11 (by decide), ff 12 (by decide), ff 13 (by decide), ff 14 (by decide), ff 15 (by decide)⟩
  · show (ab_ups (ab_ups (ab_ups (ab_ups (ab_ups σ11 18 11 (fw_c (σ11 3 11))) 18 12 (fw_c (σ11 3 12))) 18 13 (fw_c (σ11 3 13))) 18 14 (fw_c (σ11 3 14))) 18 15 (fw_c (σ11 3 15))) 19 j = fw_c (σ0 4 j)
    rw [rr 19 (by decide), show σ11 19 = σ1 19 from fw_okM_c Q1 (by decide), c1 j hj]
  · show (ab_ups (ab_ups (ab_ups (ab_ups (ab_ups σ11 18 11 (fw_c (σ11 3 11))) 18 12 (fw_c (σ11 3 12))) 18 13 (fw_c (σ11 3 13))) 18 14 (fw_c (σ11 3 14))) 18 15 (fw_c (σ11 3 15))) 20 j = fw_c (σ0 5 j)
    rw [rr 20 (by decide), show σ11 20 = σ2 20 from fw_okM_c Q2 (by decide), c2 j hj, show σ1 5 = σ0 5 from fw_okM_c N1 (by decide)]
  · show (ab_ups (ab_ups (ab_ups (ab_ups (ab_ups σ11 18 11 (fw_c (σ11 3 11))) 18 12 (fw_c (σ11 3 12))) 18 13 (fw_c (σ11 3 13))) 18 14 (fw_c (σ11 3 14))) 18 15 (fw_c (σ11 3 15))) 21 j = fw_c (σ0 6 j)
    rw [rr 21 (by decide), show σ11 21 = σ3 21 from fw_okM_c Q3 (by decide), c3 j hj, show σ2 6 = σ0 6 from fw_okM_c N2 (by decide)]
  · show (ab_ups (ab_ups (ab_ups (ab_ups (ab_ups σ11 18 11 (fw_c (σ11 3 11))) 18 12 (fw_c (σ11 3 12))) 18 13 (fw_c (σ11 3 13))) 18 14 (fw_c (σ11 3 14))) 18 15 (fw_c (σ11 3 15))) 22 j = fw_c (σ0 7 j)
    rw [rr 22 (by decide), show σ11 22 = σ4 22 from fw_okM_c Q4 (by decide), c4 j hj, show σ3 7 = σ0 7 from fw_okM_c N3 (by decide)]
  · show (ab_ups (ab_ups (ab_ups (ab_ups (ab_ups σ11 18 11 (fw_c (σ11 3 11))) 18 12 (fw_c (σ11 3 12))) 18 13 (fw_c (σ11 3 13))) 18 14 (fw_c (σ11 3 14))) 18 15 (fw_c (σ11 3 15))) 23 j = fw_c (σ0 8 j)
    rw [rr 23 (by decide), show σ11 23 = σ5 23 from fw_okM_c Q5 (by decide), c5 j hj, show σ4 8 = σ0 8 from fw_okM_c N4 (by decide)]
  · show (ab_ups (ab_ups (ab_ups (ab_ups (ab_ups σ11 18 11 (fw_c (σ11 3 11))) 18 12 (fw_c (σ11 3 12))) 18 13 (fw_c (σ11 3 13))) 18 14 (fw_c (σ11 3 14))) 18 15 (fw_c (σ11 3 15))) 24 j = fw_c (σ0 9 j)
    rw [rr 24 (by decide), show σ11 24 = σ6 24 from fw_okM_c Q6 (by decide), c6 j hj, show σ5 9 = σ0 9 from fw_okM_c N5 (by decide)]
  · show (ab_ups (ab_ups (ab_ups (ab_ups (ab_ups σ11 18 11 (fw_c (σ11 3 11))) 18 12 (fw_c (σ11 3 12))) 18 13 (fw_c (σ11 3 13))) 18 14 (fw_c (σ11 3 14))) 18 15 (fw_c (σ11 3 15))) 25 j = fw_c (σ0 10 j)
    rw [rr 25 (by decide), show σ11 25 = σ7 25 from fw_okM_c Q7 (by decide), c7 j hj, show σ6 10 = σ0 10 from fw_okM_c N6 (by decide)]
  · show (ab_ups (ab_ups (ab_ups (ab_ups (ab_ups σ11 18 11 (fw_c (σ11 3 11))) 18 12 (fw_c (σ11 3 12))) 18 13 (fw_c (σ11 3 13))) 18 14 (fw_c (σ11 3 14))) 18 15 (fw_c (σ11 3 15))) 26 j = fw_d (σ0 11 j)
    rw [rr 26 (by decide), show σ11 26 = σ8 26 from fw_okM_c Q8 (by decide), c8 j hj, show σ7 11 = σ0 11 from fw_okM_c N7 (by decide)]
  · show (ab_ups (ab_ups (ab_ups (ab_ups (ab_ups σ11 18 11 (fw_c (σ11 3 11))) 18 12 (fw_c (σ11 3 12))) 18 13 (fw_c (σ11 3 13))) 18 14 (fw_c (σ11 3 14))) 18 15 (fw_c (σ11 3 15))) 27 j = fw_d (σ0 12 j)
    rw [rr 27 (by decide), show σ11 27 = σ9 27 from fw_okM_c Q9 (by decide), c9 j hj, show σ8 12 = σ0 12 from fw_okM_c N8 (by decide)]
  · show (ab_ups (ab_ups (ab_ups (ab_ups (ab_ups σ11 18 11 (fw_c (σ11 3 11))) 18 12 (fw_c (σ11 3 12))) 18 13 (fw_c (σ11 3 13))) 18 14 (fw_c (σ11 3 14))) 18 15 (fw_c (σ11 3 15))) 28 j = fw_d (σ0 13 j)
    rw [rr 28 (by decide), show σ11 28 = σ10 28 from fw_okM_c Q10 (by decide), c10 j hj, show σ9 13 = σ0 13 from fw_okM_c N9 (by decide)]
  · obtain ⟨s1, s2, s3, s4⟩ := c11
    refine ⟨fun j hj => ?_, fun j hj => ?_, ?_, ?_⟩
    · show (ab_ups (ab_ups (ab_ups (ab_ups (ab_ups σ11 18 11 (fw_c (σ11 3 11))) 18 12 (fw_c (σ11 3 12))) 18 13 (fw_c (σ11 3 13))) 18 14 (fw_c (σ11 3 14))) 18 15 (fw_c (σ11 3 15))) 30 j = fw_c (σ0 15 j)
      rw [rr 30 (by decide), show σ0 15 = σ10 15 from (fw_okM_c N10 (by decide)).symm]; exact s1 j hj
    · show (ab_ups (ab_ups (ab_ups (ab_ups (ab_ups σ11 18 11 (fw_c (σ11 3 11))) 18 12 (fw_c (σ11 3 12))) 18 13 (fw_c (σ11 3 13))) 18 14 (fw_c (σ11 3 14))) 18 15 (fw_c (σ11 3 15))) 31 j = fw_c (σ0 16 j)
      rw [rr 31 (by decide), show σ0 16 = σ10 16 from (fw_okM_c N10 (by decide)).symm]; exact s2 j hj
    · show (ab_ups (ab_ups (ab_ups (ab_ups (ab_ups σ11 18 11 (fw_c (σ11 3 11))) 18 12 (fw_c (σ11 3 12))) 18 13 (fw_c (σ11 3 13))) 18 14 (fw_c (σ11 3 14))) 18 15 (fw_c (σ11 3 15))) 29 3 = fw_c (σ0 14 3)
      rw [rr 29 (by decide), show σ0 14 = σ10 14 from (fw_okM_c N10 (by decide)).symm]; exact s3
    · show (ab_ups (ab_ups (ab_ups (ab_ups (ab_ups σ11 18 11 (fw_c (σ11 3 11))) 18 12 (fw_c (σ11 3 12))) 18 13 (fw_c (σ11 3 13))) 18 14 (fw_c (σ11 3 14))) 18 15 (fw_c (σ11 3 15))) 29 4 = fw_c (σ0 14 4)
      rw [rr 29 (by decide), show σ0 14 = σ10 14 from (fw_okM_c N10 (by decide)).symm]; exact s4)
theorem fm_copy_3_33 (hinj : nn_inj ad) : fw_H l cy ad wr cr D 49 2 (cy_k 3 33) := fw_mk hinj (⟨"NameNotes$Studio", "copy", "(LNameNotes$Studio;)V"⟩, prog_8_method_3_code, 2, (Option.none : Option Jvm.ClassFile.FieldType), 1, true, 4) rfl rfl nn_KI6_ok nn_KJ6_ok nn_PF6_ok nn_PS6_ok (by decide +kernel) rfl rfl (List.forall_mem_cons.mpr ⟨fw_row nn_PM6_ok (x := 70) (k := 2) (mn := 50) (np := 2) (ob := false) (ci := 0) (⟨"NameNotes", "copyRow", "([I[I)V"⟩, prog_1_method_88_code, 3, (Option.none : Option Jvm.ClassFile.FieldType), 2, false, 4) rfl (by decide +kernel) rfl rfl (by decide) (fun q => by cases q) (fm_cp hinj), (List.forall_mem_cons.mpr ⟨fw_row nn_PM6_ok (x := 74) (k := 2) (mn := 51) (np := 2) (ob := false) (ci := 0) (⟨"NameNotes", "copyRow", "([J[J)V"⟩, prog_1_method_89_code, 3, (Option.none : Option Jvm.ClassFile.FieldType), 2, false, 4) rfl (by decide +kernel) rfl rfl (by decide) (fun q => by cases q) (fm_cl hinj), (List.forall_mem_cons.mpr ⟨fw_row nn_PM6_ok (x := 77) (k := 0) (mn := 52) (np := 1) (ob := true) (ci := 5) (⟨"NameNotes$Sentence", "copy", "(LNameNotes$Sentence;)V"⟩, prog_7_method_3_code, 2, (Option.none : Option Jvm.ClassFile.FieldType), 1, true, 4) rfl (by decide +kernel) rfl rfl (by decide) (fun _ => ⟨_, _, rfl⟩) (fm_scopy hinj), (fun _ h => absurd h List.not_mem_nil)⟩)⟩)⟩) (fun as σ0 K h => by
  obtain ⟨rfl, h⟩ := h
  refine ⟨rfl, fun G hG => fs_copy_3_33_0 hG ⟨(4, 34, 81), by decide, rfl, fun σ1 M1 c1 => fs_copy_3_33_11 hG ⟨(5, 35, 81), by decide, rfl, fun σ2 M2 c2 => fs_copy_3_33_22 hG ⟨(6, 36, 9), by decide, rfl, fun σ3 M3 c3 => fs_copy_3_33_33 hG ⟨(7, 37, 324), by decide, rfl, fun σ4 M4 c4 => fs_copy_3_33_44 hG ⟨(8, 38, 6), by decide, rfl, fun σ5 M5 c5 => fs_copy_3_33_55 hG ⟨(9, 39, 45), by decide, rfl, fun σ6 M6 c6 => fs_copy_3_33_66 hG ⟨(10, 40, 5), by decide, rfl, fun σ7 M7 c7 => fs_copy_3_33_77 hG ⟨(11, 41, 9), by decide, rfl, fun σ8 M8 c8 => fs_copy_3_33_88 hG ⟨(12, 42, 6), by decide, rfl, fun σ9 M9 c9 => fs_copy_3_33_99 hG ⟨(13, 43, 5), by decide, rfl, fun σ10 M10 c10 => fs_copy_3_33_110 hG ⟨(3, 33), by decide, rfl, fun σ11 M11 c11 => fs_copy_3_33_121 hG ?_⟩⟩⟩⟩⟩⟩⟩⟩⟩⟩⟩⟩
  have M1 : ab_okM [(34, 1000000)] σ0 σ1 := M1
  have c1 : ∀ j : Nat, j < 81 → σ1 34 j = fw_c (σ0 4 j) := c1
  have M2 : ab_okM [(35, 1000000)] σ1 σ2 := M2
  have c2 : ∀ j : Nat, j < 81 → σ2 35 j = fw_c (σ1 5 j) := c2
  have M3 : ab_okM [(36, 1000000)] σ2 σ3 := M3
  have c3 : ∀ j : Nat, j < 9 → σ3 36 j = fw_c (σ2 6 j) := c3
  have M4 : ab_okM [(37, 1000000)] σ3 σ4 := M4
  have c4 : ∀ j : Nat, j < 324 → σ4 37 j = fw_c (σ3 7 j) := c4
  have M5 : ab_okM [(38, 1000000)] σ4 σ5 := M5
  have c5 : ∀ j : Nat, j < 6 → σ5 38 j = fw_c (σ4 8 j) := c5
  have M6 : ab_okM [(39, 1000000)] σ5 σ6 := M6
  have c6 : ∀ j : Nat, j < 45 → σ6 39 j = fw_c (σ5 9 j) := c6
  have M7 : ab_okM [(40, 1000000)] σ6 σ7 := M7
  have c7 : ∀ j : Nat, j < 5 → σ7 40 j = fw_c (σ6 10 j) := c7
  have M8 : ab_okM [(41, 1000000)] σ7 σ8 := M8
  have c8 : ∀ j : Nat, j < 9 → σ8 41 j = fw_d (σ7 11 j) := c8
  have M9 : ab_okM [(42, 1000000)] σ8 σ9 := M9
  have c9 : ∀ j : Nat, j < 6 → σ9 42 j = fw_d (σ8 12 j) := c9
  have M10 : ab_okM [(43, 1000000)] σ9 σ10 := M10
  have c10 : ∀ j : Nat, j < 5 → σ10 43 j = fw_d (σ9 13 j) := c10
  have M11 : ab_okM (sc_M 33) σ10 σ11 := M11
  have c11 : sc_is σ10 σ11 3 33 := c11
  have N1 : ab_okM ((34, 1000000) :: []) σ0 σ1 := fw_okM_tr (fw_okM_refl _ _) M1 (by decide)
  have N2 : ab_okM ((34, 1000000) :: (35, 1000000) :: []) σ0 σ2 := fw_okM_tr (fw_okM_tr (fw_okM_refl _ _) N1 (by decide)) M2 (by decide)
  have N3 : ab_okM ((34, 1000000) :: (35, 1000000) :: (36, 1000000) :: []) σ0 σ3 := fw_okM_tr (fw_okM_tr (fw_okM_refl _ _) N2 (by decide)) M3 (by decide)
  have N4 : ab_okM ((34, 1000000) :: (35, 1000000) :: (36, 1000000) :: (37, 1000000) :: []) σ0 σ4 := fw_okM_tr (fw_okM_tr (fw_okM_refl _ _) N3 (by decide)) M4 (by decide)
  have N5 : ab_okM ((34, 1000000) :: (35, 1000000) :: (36, 1000000) :: (37, 1000000) :: (38, 1000000) :: []) σ0 σ5 := fw_okM_tr (fw_okM_tr (fw_okM_refl _ _) N4 (by decide)) M5 (by decide)
  have N6 : ab_okM ((34, 1000000) :: (35, 1000000) :: (36, 1000000) :: (37, 1000000) :: (38, 1000000) :: (39, 1000000) :: []) σ0 σ6 := fw_okM_tr (fw_okM_tr (fw_okM_refl _ _) N5 (by decide)) M6 (by decide)
  have N7 : ab_okM ((34, 1000000) :: (35, 1000000) :: (36, 1000000) :: (37, 1000000) :: (38, 1000000) :: (39, 1000000) :: (40, 1000000) :: []) σ0 σ7 := fw_okM_tr (fw_okM_tr (fw_okM_refl _ _) N6 (by decide)) M7 (by decide)
  have N8 : ab_okM ((34, 1000000) :: (35, 1000000) :: (36, 1000000) :: (37, 1000000) :: (38, 1000000) :: (39, 1000000) :: (40, 1000000) :: (41, 1000000) :: []) σ0 σ8 := fw_okM_tr (fw_okM_tr (fw_okM_refl _ _) N7 (by decide)) M8 (by decide)
  have N9 : ab_okM ((34, 1000000) :: (35, 1000000) :: (36, 1000000) :: (37, 1000000) :: (38, 1000000) :: (39, 1000000) :: (40, 1000000) :: (41, 1000000) :: (42, 1000000) :: []) σ0 σ9 := fw_okM_tr (fw_okM_tr (fw_okM_refl _ _) N8 (by decide)) M9 (by decide)
  have N10 : ab_okM ((34, 1000000) :: (35, 1000000) :: (36, 1000000) :: (37, 1000000) :: (38, 1000000) :: (39, 1000000) :: (40, 1000000) :: (41, 1000000) :: (42, 1000000) :: (43, 1000000) :: []) σ0 σ10 := fw_okM_tr (fw_okM_tr (fw_okM_refl _ _) N9 (by decide)) M10 (by decide)
  have N11 : ab_okM ((34, 1000000) :: (35, 1000000) :: (36, 1000000) :: (37, 1000000) :: (38, 1000000) :: (39, 1000000) :: (40, 1000000) :: (41, 1000000) :: (42, 1000000) :: (43, 1000000) :: sc_M 33) σ0 σ11 := fw_okM_tr (fw_okM_tr (fw_okM_refl _ _) N10 (by decide)) M11 (by decide)
  have Q11 : ab_okM ([]) σ11 σ11 := fw_okM_refl _ _
  have Q10 : ab_okM (sc_M 33) σ10 σ11 := fw_okM_tr (fw_okM_tr (fw_okM_refl _ _) M11 (by decide)) Q11 (by decide)
  have Q9 : ab_okM ((43, 1000000) :: sc_M 33) σ9 σ11 := fw_okM_tr (fw_okM_tr (fw_okM_refl _ _) M10 (by decide)) Q10 (by decide)
  have Q8 : ab_okM ((42, 1000000) :: (43, 1000000) :: sc_M 33) σ8 σ11 := fw_okM_tr (fw_okM_tr (fw_okM_refl _ _) M9 (by decide)) Q9 (by decide)
  have Q7 : ab_okM ((41, 1000000) :: (42, 1000000) :: (43, 1000000) :: sc_M 33) σ7 σ11 := fw_okM_tr (fw_okM_tr (fw_okM_refl _ _) M8 (by decide)) Q8 (by decide)
  have Q6 : ab_okM ((40, 1000000) :: (41, 1000000) :: (42, 1000000) :: (43, 1000000) :: sc_M 33) σ6 σ11 := fw_okM_tr (fw_okM_tr (fw_okM_refl _ _) M7 (by decide)) Q7 (by decide)
  have Q5 : ab_okM ((39, 1000000) :: (40, 1000000) :: (41, 1000000) :: (42, 1000000) :: (43, 1000000) :: sc_M 33) σ5 σ11 := fw_okM_tr (fw_okM_tr (fw_okM_refl _ _) M6 (by decide)) Q6 (by decide)
  have Q4 : ab_okM ((38, 1000000) :: (39, 1000000) :: (40, 1000000) :: (41, 1000000) :: (42, 1000000) :: (43, 1000000) :: sc_M 33) σ4 σ11 := fw_okM_tr (fw_okM_tr (fw_okM_refl _ _) M5 (by decide)) Q5 (by decide)
  have Q3 : ab_okM ((37, 1000000) :: (38, 1000000) :: (39, 1000000) :: (40, 1000000) :: (41, 1000000) :: (42, 1000000) :: (43, 1000000) :: sc_M 33) σ3 σ11 := fw_okM_tr (fw_okM_tr (fw_okM_refl _ _) M4 (by decide)) Q4 (by decide)
  have Q2 : ab_okM ((36, 1000000) :: (37, 1000000) :: (38, 1000000) :: (39, 1000000) :: (40, 1000000) :: (41, 1000000) :: (42, 1000000) :: (43, 1000000) :: sc_M 33) σ2 σ11 := fw_okM_tr (fw_okM_tr (fw_okM_refl _ _) M3 (by decide)) Q3 (by decide)
  have Q1 : ab_okM ((35, 1000000) :: (36, 1000000) :: (37, 1000000) :: (38, 1000000) :: (39, 1000000) :: (40, 1000000) :: (41, 1000000) :: (42, 1000000) :: (43, 1000000) :: sc_M 33) σ1 σ11 := fw_okM_tr (fw_okM_tr (fw_okM_refl _ _) M2 (by decide)) Q2 (by decide)
  have rr : ∀ k : Nat, k ≠ 33 → (ab_ups (ab_ups (ab_ups (ab_ups (ab_ups σ11 33 11 (fw_c (σ11 3 11))) 33 12 (fw_c (σ11 3 12))) 33 13 (fw_c (σ11 3 13))) 33 14 (fw_c (σ11 3 14))) 33 15 (fw_c (σ11 3 15))) k = σ11 k := fun k hk => by rw [ab_ups_row hk, ab_ups_row hk, ab_ups_row hk, ab_ups_row hk, ab_ups_row hk]
  have ff : ∀ j : Nat, j = 11 ∨ j = 12 ∨ j = 13 ∨ j = 14 ∨ j = 15 → (ab_ups (ab_ups (ab_ups (ab_ups (ab_ups σ11 33 11 (fw_c (σ11 3 11))) 33 12 (fw_c (σ11 3 12))) 33 13 (fw_c (σ11 3 13))) 33 14 (fw_c (σ11 3 14))) 33 15 (fw_c (σ11 3 15))) 33 j = fw_c (σ0 3 j) := fun j hj => by
    have e1 : σ11 3 = σ0 3 := fw_okM_c N11 (by decide)
    rw [e1]
    rcases hj with rfl | rfl | rfl | rfl | rfl
    · rw [ab_ups_ne (by decide), ab_ups_ne (by decide), ab_ups_ne (by decide), ab_ups_ne (by decide), ab_ups_eq]
    · rw [ab_ups_ne (by decide), ab_ups_ne (by decide), ab_ups_ne (by decide), ab_ups_eq]
    · rw [ab_ups_ne (by decide), ab_ups_ne (by decide), ab_ups_eq]
    · rw [ab_ups_ne (by decide), ab_ups_eq]
    · rw [ab_ups_eq]
  refine h _ (fw_okM_ups (fw_okM_ups (fw_okM_ups (fw_okM_ups (fw_okM_ups (fw_okM_tr (fw_okM_refl _ _) N11 (by decide)) (by decide)) (by decide)) (by decide)) (by decide)) (by decide)) ⟨fun j hj => ?_, fun j hj => ?_, fun j hj => ?_, fun j hj => ?_, fun j hj => ?_, fun j hj => ?_, fun j hj => ?_, fun j hj => ?_, fun j hj => ?_, fun j hj => ?_, ?_, ff 11 (by decide), ff 12 (by decide), ff 13 (by decide), ff 14 (by decide), ff 15 (by decide)⟩
  · show (ab_ups (ab_ups (ab_ups (ab_ups (ab_ups σ11 33 11 (fw_c (σ11 3 11))) 33 12 (fw_c (σ11 3 12))) 33 13 (fw_c (σ11 3 13))) 33 14 (fw_c (σ11 3 14))) 33 15 (fw_c (σ11 3 15))) 34 j = fw_c (σ0 4 j)
    rw [rr 34 (by decide), show σ11 34 = σ1 34 from fw_okM_c Q1 (by decide), c1 j hj]
  · show (ab_ups (ab_ups (ab_ups (ab_ups (ab_ups σ11 33 11 (fw_c (σ11 3 11))) 33 12 (fw_c (σ11 3 12))) 33 13 (fw_c (σ11 3 13))) 33 14 (fw_c (σ11 3 14))) 33 15 (fw_c (σ11 3 15))) 35 j = fw_c (σ0 5 j)
    rw [rr 35 (by decide), show σ11 35 = σ2 35 from fw_okM_c Q2 (by decide), c2 j hj, show σ1 5 = σ0 5 from fw_okM_c N1 (by decide)]
  · show (ab_ups (ab_ups (ab_ups (ab_ups (ab_ups σ11 33 11 (fw_c (σ11 3 11))) 33 12 (fw_c (σ11 3 12))) 33 13 (fw_c (σ11 3 13))) 33 14 (fw_c (σ11 3 14))) 33 15 (fw_c (σ11 3 15))) 36 j = fw_c (σ0 6 j)
    rw [rr 36 (by decide), show σ11 36 = σ3 36 from fw_okM_c Q3 (by decide), c3 j hj, show σ2 6 = σ0 6 from fw_okM_c N2 (by decide)]
  · show (ab_ups (ab_ups (ab_ups (ab_ups (ab_ups σ11 33 11 (fw_c (σ11 3 11))) 33 12 (fw_c (σ11 3 12))) 33 13 (fw_c (σ11 3 13))) 33 14 (fw_c (σ11 3 14))) 33 15 (fw_c (σ11 3 15))) 37 j = fw_c (σ0 7 j)
    rw [rr 37 (by decide), show σ11 37 = σ4 37 from fw_okM_c Q4 (by decide), c4 j hj, show σ3 7 = σ0 7 from fw_okM_c N3 (by decide)]
  · show (ab_ups (ab_ups (ab_ups (ab_ups (ab_ups σ11 33 11 (fw_c (σ11 3 11))) 33 12 (fw_c (σ11 3 12))) 33 13 (fw_c (σ11 3 13))) 33 14 (fw_c (σ11 3 14))) 33 15 (fw_c (σ11 3 15))) 38 j = fw_c (σ0 8 j)
    rw [rr 38 (by decide), show σ11 38 = σ5 38 from fw_okM_c Q5 (by decide), c5 j hj, show σ4 8 = σ0 8 from fw_okM_c N4 (by decide)]
  · show (ab_ups (ab_ups (ab_ups (ab_ups (ab_ups σ11 33 11 (fw_c (σ11 3 11))) 33 12 (fw_c (σ11 3 12))) 33 13 (fw_c (σ11 3 13))) 33 14 (fw_c (σ11 3 14))) 33 15 (fw_c (σ11 3 15))) 39 j = fw_c (σ0 9 j)
    rw [rr 39 (by decide), show σ11 39 = σ6 39 from fw_okM_c Q6 (by decide), c6 j hj, show σ5 9 = σ0 9 from fw_okM_c N5 (by decide)]
  · show (ab_ups (ab_ups (ab_ups (ab_ups (ab_ups σ11 33 11 (fw_c (σ11 3 11))) 33 12 (fw_c (σ11 3 12))) 33 13 (fw_c (σ11 3 13))) 33 14 (fw_c (σ11 3 14))) 33 15 (fw_c (σ11 3 15))) 40 j = fw_c (σ0 10 j)
    rw [rr 40 (by decide), show σ11 40 = σ7 40 from fw_okM_c Q7 (by decide), c7 j hj, show σ6 10 = σ0 10 from fw_okM_c N6 (by decide)]
  · show (ab_ups (ab_ups (ab_ups (ab_ups (ab_ups σ11 33 11 (fw_c (σ11 3 11))) 33 12 (fw_c (σ11 3 12))) 33 13 (fw_c (σ11 3 13))) 33 14 (fw_c (σ11 3 14))) 33 15 (fw_c (σ11 3 15))) 41 j = fw_d (σ0 11 j)
    rw [rr 41 (by decide), show σ11 41 = σ8 41 from fw_okM_c Q8 (by decide), c8 j hj, show σ7 11 = σ0 11 from fw_okM_c N7 (by decide)]
  · show (ab_ups (ab_ups (ab_ups (ab_ups (ab_ups σ11 33 11 (fw_c (σ11 3 11))) 33 12 (fw_c (σ11 3 12))) 33 13 (fw_c (σ11 3 13))) 33 14 (fw_c (σ11 3 14))) 33 15 (fw_c (σ11 3 15))) 42 j = fw_d (σ0 12 j)
    rw [rr 42 (by decide), show σ11 42 = σ9 42 from fw_okM_c Q9 (by decide), c9 j hj, show σ8 12 = σ0 12 from fw_okM_c N8 (by decide)]
  · show (ab_ups (ab_ups (ab_ups (ab_ups (ab_ups σ11 33 11 (fw_c (σ11 3 11))) 33 12 (fw_c (σ11 3 12))) 33 13 (fw_c (σ11 3 13))) 33 14 (fw_c (σ11 3 14))) 33 15 (fw_c (σ11 3 15))) 43 j = fw_d (σ0 13 j)
    rw [rr 43 (by decide), show σ11 43 = σ10 43 from fw_okM_c Q10 (by decide), c10 j hj, show σ9 13 = σ0 13 from fw_okM_c N9 (by decide)]
  · obtain ⟨s1, s2, s3, s4⟩ := c11
    refine ⟨fun j hj => ?_, fun j hj => ?_, ?_, ?_⟩
    · show (ab_ups (ab_ups (ab_ups (ab_ups (ab_ups σ11 33 11 (fw_c (σ11 3 11))) 33 12 (fw_c (σ11 3 12))) 33 13 (fw_c (σ11 3 13))) 33 14 (fw_c (σ11 3 14))) 33 15 (fw_c (σ11 3 15))) 45 j = fw_c (σ0 15 j)
      rw [rr 45 (by decide), show σ0 15 = σ10 15 from (fw_okM_c N10 (by decide)).symm]; exact s1 j hj
    · show (ab_ups (ab_ups (ab_ups (ab_ups (ab_ups σ11 33 11 (fw_c (σ11 3 11))) 33 12 (fw_c (σ11 3 12))) 33 13 (fw_c (σ11 3 13))) 33 14 (fw_c (σ11 3 14))) 33 15 (fw_c (σ11 3 15))) 46 j = fw_c (σ0 16 j)
      rw [rr 46 (by decide), show σ0 16 = σ10 16 from (fw_okM_c N10 (by decide)).symm]; exact s2 j hj
    · show (ab_ups (ab_ups (ab_ups (ab_ups (ab_ups σ11 33 11 (fw_c (σ11 3 11))) 33 12 (fw_c (σ11 3 12))) 33 13 (fw_c (σ11 3 13))) 33 14 (fw_c (σ11 3 14))) 33 15 (fw_c (σ11 3 15))) 44 3 = fw_c (σ0 14 3)
      rw [rr 44 (by decide), show σ0 14 = σ10 14 from (fw_okM_c N10 (by decide)).symm]; exact s3
    · show (ab_ups (ab_ups (ab_ups (ab_ups (ab_ups σ11 33 11 (fw_c (σ11 3 11))) 33 12 (fw_c (σ11 3 12))) 33 13 (fw_c (σ11 3 13))) 33 14 (fw_c (σ11 3 14))) 33 15 (fw_c (σ11 3 15))) 44 4 = fw_c (σ0 14 4)
      rw [rr 44 (by decide), show σ0 14 = σ10 14 from (fw_okM_c N10 (by decide)).symm]; exact s4)
theorem fm_copy_18_3 (hinj : nn_inj ad) : fw_H l cy ad wr cr D 49 2 (cy_k 18 3) := fw_mk hinj (⟨"NameNotes$Studio", "copy", "(LNameNotes$Studio;)V"⟩, prog_8_method_3_code, 2, (Option.none : Option Jvm.ClassFile.FieldType), 1, true, 4) rfl rfl nn_KI6_ok nn_KJ6_ok nn_PF6_ok nn_PS6_ok (by decide +kernel) rfl rfl (List.forall_mem_cons.mpr ⟨fw_row nn_PM6_ok (x := 70) (k := 2) (mn := 50) (np := 2) (ob := false) (ci := 0) (⟨"NameNotes", "copyRow", "([I[I)V"⟩, prog_1_method_88_code, 3, (Option.none : Option Jvm.ClassFile.FieldType), 2, false, 4) rfl (by decide +kernel) rfl rfl (by decide) (fun q => by cases q) (fm_cp hinj), (List.forall_mem_cons.mpr ⟨fw_row nn_PM6_ok (x := 74) (k := 2) (mn := 51) (np := 2) (ob := false) (ci := 0) (⟨"NameNotes", "copyRow", "([J[J)V"⟩, prog_1_method_89_code, 3, (Option.none : Option Jvm.ClassFile.FieldType), 2, false, 4) rfl (by decide +kernel) rfl rfl (by decide) (fun q => by cases q) (fm_cl hinj), (List.forall_mem_cons.mpr ⟨fw_row nn_PM6_ok (x := 77) (k := 0) (mn := 52) (np := 1) (ob := true) (ci := 5) (⟨"NameNotes$Sentence", "copy", "(LNameNotes$Sentence;)V"⟩, prog_7_method_3_code, 2, (Option.none : Option Jvm.ClassFile.FieldType), 1, true, 4) rfl (by decide +kernel) rfl rfl (by decide) (fun _ => ⟨_, _, rfl⟩) (fm_scopy hinj), (fun _ h => absurd h List.not_mem_nil)⟩)⟩)⟩) (fun as σ0 K h => by
  obtain ⟨rfl, h⟩ := h
  refine ⟨rfl, fun G hG => fs_copy_18_3_0 hG ⟨(19, 4, 81), by decide, rfl, fun σ1 M1 c1 => fs_copy_18_3_11 hG ⟨(20, 5, 81), by decide, rfl, fun σ2 M2 c2 => fs_copy_18_3_22 hG ⟨(21, 6, 9), by decide, rfl, fun σ3 M3 c3 => fs_copy_18_3_33 hG ⟨(22, 7, 324), by decide, rfl, fun σ4 M4 c4 => fs_copy_18_3_44 hG ⟨(23, 8, 6), by decide, rfl, fun σ5 M5 c5 => fs_copy_18_3_55 hG ⟨(24, 9, 45), by decide, rfl, fun σ6 M6 c6 => fs_copy_18_3_66 hG ⟨(25, 10, 5), by decide, rfl, fun σ7 M7 c7 => fs_copy_18_3_77 hG ⟨(26, 11, 9), by decide, rfl, fun σ8 M8 c8 => fs_copy_18_3_88 hG ⟨(27, 12, 6), by decide, rfl, fun σ9 M9 c9 => fs_copy_18_3_99 hG ⟨(28, 13, 5), by decide, rfl, fun σ10 M10 c10 => fs_copy_18_3_110 hG ⟨(18, 3), by decide, rfl, fun σ11 M11 c11 => fs_copy_18_3_121 hG ?_⟩⟩⟩⟩⟩⟩⟩⟩⟩⟩⟩⟩
  have M1 : ab_okM [(4, 1000000)] σ0 σ1 := M1
  have c1 : ∀ j : Nat, j < 81 → σ1 4 j = fw_c (σ0 19 j) := c1
  have M2 : ab_okM [(5, 1000000)] σ1 σ2 := M2
  have c2 : ∀ j : Nat, j < 81 → σ2 5 j = fw_c (σ1 20 j) := c2
  have M3 : ab_okM [(6, 1000000)] σ2 σ3 := M3
  have c3 : ∀ j : Nat, j < 9 → σ3 6 j = fw_c (σ2 21 j) := c3
  have M4 : ab_okM [(7, 1000000)] σ3 σ4 := M4
  have c4 : ∀ j : Nat, j < 324 → σ4 7 j = fw_c (σ3 22 j) := c4
  have M5 : ab_okM [(8, 1000000)] σ4 σ5 := M5
  have c5 : ∀ j : Nat, j < 6 → σ5 8 j = fw_c (σ4 23 j) := c5
  have M6 : ab_okM [(9, 1000000)] σ5 σ6 := M6
  have c6 : ∀ j : Nat, j < 45 → σ6 9 j = fw_c (σ5 24 j) := c6
  have M7 : ab_okM [(10, 1000000)] σ6 σ7 := M7
  have c7 : ∀ j : Nat, j < 5 → σ7 10 j = fw_c (σ6 25 j) := c7
  have M8 : ab_okM [(11, 1000000)] σ7 σ8 := M8
  have c8 : ∀ j : Nat, j < 9 → σ8 11 j = fw_d (σ7 26 j) := c8
  have M9 : ab_okM [(12, 1000000)] σ8 σ9 := M9
  have c9 : ∀ j : Nat, j < 6 → σ9 12 j = fw_d (σ8 27 j) := c9
  have M10 : ab_okM [(13, 1000000)] σ9 σ10 := M10
  have c10 : ∀ j : Nat, j < 5 → σ10 13 j = fw_d (σ9 28 j) := c10
  have M11 : ab_okM (sc_M 3) σ10 σ11 := M11
  have c11 : sc_is σ10 σ11 18 3 := c11
  have N1 : ab_okM ((4, 1000000) :: []) σ0 σ1 := fw_okM_tr (fw_okM_refl _ _) M1 (by decide)
  have N2 : ab_okM ((4, 1000000) :: (5, 1000000) :: []) σ0 σ2 := fw_okM_tr (fw_okM_tr (fw_okM_refl _ _) N1 (by decide)) M2 (by decide)
  have N3 : ab_okM ((4, 1000000) :: (5, 1000000) :: (6, 1000000) :: []) σ0 σ3 := fw_okM_tr (fw_okM_tr (fw_okM_refl _ _) N2 (by decide)) M3 (by decide)
  have N4 : ab_okM ((4, 1000000) :: (5, 1000000) :: (6, 1000000) :: (7, 1000000) :: []) σ0 σ4 := fw_okM_tr (fw_okM_tr (fw_okM_refl _ _) N3 (by decide)) M4 (by decide)
  have N5 : ab_okM ((4, 1000000) :: (5, 1000000) :: (6, 1000000) :: (7, 1000000) :: (8, 1000000) :: []) σ0 σ5 := fw_okM_tr (fw_okM_tr (fw_okM_refl _ _) N4 (by decide)) M5 (by decide)
  have N6 : ab_okM ((4, 1000000) :: (5, 1000000) :: (6, 1000000) :: (7, 1000000) :: (8, 1000000) :: (9, 1000000) :: []) σ0 σ6 := fw_okM_tr (fw_okM_tr (fw_okM_refl _ _) N5 (by decide)) M6 (by decide)
  have N7 : ab_okM ((4, 1000000) :: (5, 1000000) :: (6, 1000000) :: (7, 1000000) :: (8, 1000000) :: (9, 1000000) :: (10, 1000000) :: []) σ0 σ7 := fw_okM_tr (fw_okM_tr (fw_okM_refl _ _) N6 (by decide)) M7 (by decide)
  have N8 : ab_okM ((4, 1000000) :: (5, 1000000) :: (6, 1000000) :: (7, 1000000) :: (8, 1000000) :: (9, 1000000) :: (10, 1000000) :: (11, 1000000) :: []) σ0 σ8 := fw_okM_tr (fw_okM_tr (fw_okM_refl _ _) N7 (by decide)) M8 (by decide)
  have N9 : ab_okM ((4, 1000000) :: (5, 1000000) :: (6, 1000000) :: (7, 1000000) :: (8, 1000000) :: (9, 1000000) :: (10, 1000000) :: (11, 1000000) :: (12, 1000000) :: []) σ0 σ9 := fw_okM_tr (fw_okM_tr (fw_okM_refl _ _) N8 (by decide)) M9 (by decide)
  have N10 : ab_okM ((4, 1000000) :: (5, 1000000) :: (6, 1000000) :: (7, 1000000) :: (8, 1000000) :: (9, 1000000) :: (10, 1000000) :: (11, 1000000) :: (12, 1000000) :: (13, 1000000) :: []) σ0 σ10 := fw_okM_tr (fw_okM_tr (fw_okM_refl _ _) N9 (by decide)) M10 (by decide)
  have N11 : ab_okM ((4, 1000000) :: (5, 1000000) :: (6, 1000000) :: (7, 1000000) :: (8, 1000000) :: (9, 1000000) :: (10, 1000000) :: (11, 1000000) :: (12, 1000000) :: (13, 1000000) :: sc_M 3) σ0 σ11 := fw_okM_tr (fw_okM_tr (fw_okM_refl _ _) N10 (by decide)) M11 (by decide)
  have Q11 : ab_okM ([]) σ11 σ11 := fw_okM_refl _ _
  have Q10 : ab_okM (sc_M 3) σ10 σ11 := fw_okM_tr (fw_okM_tr (fw_okM_refl _ _) M11 (by decide)) Q11 (by decide)
  have Q9 : ab_okM ((13, 1000000) :: sc_M 3) σ9 σ11 := fw_okM_tr (fw_okM_tr (fw_okM_refl _ _) M10 (by decide)) Q10 (by decide)
  have Q8 : ab_okM ((12, 1000000) :: (13, 1000000) :: sc_M 3) σ8 σ11 := fw_okM_tr (fw_okM_tr (fw_okM_refl _ _) M9 (by decide)) Q9 (by decide)
  have Q7 : ab_okM ((11, 1000000) :: (12, 1000000) :: (13, 1000000) :: sc_M 3) σ7 σ11 := fw_okM_tr (fw_okM_tr (fw_okM_refl _ _) M8 (by decide)) Q8 (by decide)
  have Q6 : ab_okM ((10, 1000000) :: (11, 1000000) :: (12, 1000000) :: (13, 1000000) :: sc_M 3) σ6 σ11 := fw_okM_tr (fw_okM_tr (fw_okM_refl _ _) M7 (by decide)) Q7 (by decide)
  have Q5 : ab_okM ((9, 1000000) :: (10, 1000000) :: (11, 1000000) :: (12, 1000000) :: (13, 1000000) :: sc_M 3) σ5 σ11 := fw_okM_tr (fw_okM_tr (fw_okM_refl _ _) M6 (by decide)) Q6 (by decide)
  have Q4 : ab_okM ((8, 1000000) :: (9, 1000000) :: (10, 1000000) :: (11, 1000000) :: (12, 1000000) :: (13, 1000000) :: sc_M 3) σ4 σ11 := fw_okM_tr (fw_okM_tr (fw_okM_refl _ _) M5 (by decide)) Q5 (by decide)
  have Q3 : ab_okM ((7, 1000000) :: (8, 1000000) :: (9, 1000000) :: (10, 1000000) :: (11, 1000000) :: (12, 1000000) :: (13, 1000000) :: sc_M 3) σ3 σ11 := fw_okM_tr (fw_okM_tr (fw_okM_refl _ _) M4 (by decide)) Q4 (by decide)
  have Q2 : ab_okM ((6, 1000000) :: (7, 1000000) :: (8, 1000000) :: (9, 1000000) :: (10, 1000000) :: (11, 1000000) :: (12, 1000000) :: (13, 1000000) :: sc_M 3) σ2 σ11 := fw_okM_tr (fw_okM_tr (fw_okM_refl _ _) M3 (by decide)) Q3 (by decide)
  have Q1 : ab_okM ((5, 1000000) :: (6, 1000000) :: (7, 1000000) :: (8, 1000000) :: (9, 1000000) :: (10, 1000000) :: (11, 1000000) :: (12, 1000000) :: (13, 1000000) :: sc_M 3) σ1 σ11 := fw_okM_tr (fw_okM_tr (fw_okM_refl _ _) M2 (by decide)) Q2 (by decide)
  have rr : ∀ k : Nat, k ≠ 3 → (ab_ups (ab_ups (ab_ups (ab_ups (ab_ups σ11 3 11 (fw_c (σ11 18 11))) 3 12 (fw_c (σ11 18 12))) 3 13 (fw_c (σ11 18 13))) 3 14 (fw_c (σ11 18 14))) 3 15 (fw_c (σ11 18 15))) k = σ11 k := fun k hk => by rw [ab_ups_row hk, ab_ups_row hk, ab_ups_row hk, ab_ups_row hk, ab_ups_row hk]
  have ff : ∀ j : Nat, j = 11 ∨ j = 12 ∨ j = 13 ∨ j = 14 ∨ j = 15 → (ab_ups (ab_ups (ab_ups (ab_ups (ab_ups σ11 3 11 (fw_c (σ11 18 11))) 3 12 (fw_c (σ11 18 12))) 3 13 (fw_c (σ11 18 13))) 3 14 (fw_c (σ11 18 14))) 3 15 (fw_c (σ11 18 15))) 3 j = fw_c (σ0 18 j) := fun j hj => by
    have e1 : σ11 18 = σ0 18 := fw_okM_c N11 (by decide)
    rw [e1]
    rcases hj with rfl | rfl | rfl | rfl | rfl
    · rw [ab_ups_ne (by decide), ab_ups_ne (by decide), ab_ups_ne (by decide), ab_ups_ne (by decide), ab_ups_eq]
    · rw [ab_ups_ne (by decide), ab_ups_ne (by decide), ab_ups_ne (by decide), ab_ups_eq]
    · rw [ab_ups_ne (by decide), ab_ups_ne (by decide), ab_ups_eq]
    · rw [ab_ups_ne (by decide), ab_ups_eq]
    · rw [ab_ups_eq]
  refine h _ (fw_okM_ups (fw_okM_ups (fw_okM_ups (fw_okM_ups (fw_okM_ups (fw_okM_tr (fw_okM_refl _ _) N11 (by decide)) (by decide)) (by decide)) (by decide)) (by decide)) (by decide)) ⟨fun j hj => ?_, fun j hj => ?_, fun j hj => ?_, fun j hj => ?_, fun j hj => ?_, fun j hj => ?_, fun j hj => ?_, fun j hj => ?_, fun j hj => ?_, fun j hj => ?_, ?_, ff 11 (by decide), ff 12 (by decide), ff 13 (by decide), ff 14 (by decide), ff 15 (by decide)⟩
  · show (ab_ups (ab_ups (ab_ups (ab_ups (ab_ups σ11 3 11 (fw_c (σ11 18 11))) 3 12 (fw_c (σ11 18 12))) 3 13 (fw_c (σ11 18 13))) 3 14 (fw_c (σ11 18 14))) 3 15 (fw_c (σ11 18 15))) 4 j = fw_c (σ0 19 j)
    rw [rr 4 (by decide), show σ11 4 = σ1 4 from fw_okM_c Q1 (by decide), c1 j hj]
  · show (ab_ups (ab_ups (ab_ups (ab_ups (ab_ups σ11 3 11 (fw_c (σ11 18 11))) 3 12 (fw_c (σ11 18 12))) 3 13 (fw_c (σ11 18 13))) 3 14 (fw_c (σ11 18 14))) 3 15 (fw_c (σ11 18 15))) 5 j = fw_c (σ0 20 j)
    rw [rr 5 (by decide), show σ11 5 = σ2 5 from fw_okM_c Q2 (by decide), c2 j hj, show σ1 20 = σ0 20 from fw_okM_c N1 (by decide)]
  · show (ab_ups (ab_ups (ab_ups (ab_ups (ab_ups σ11 3 11 (fw_c (σ11 18 11))) 3 12 (fw_c (σ11 18 12))) 3 13 (fw_c (σ11 18 13))) 3 14 (fw_c (σ11 18 14))) 3 15 (fw_c (σ11 18 15))) 6 j = fw_c (σ0 21 j)
    rw [rr 6 (by decide), show σ11 6 = σ3 6 from fw_okM_c Q3 (by decide), c3 j hj, show σ2 21 = σ0 21 from fw_okM_c N2 (by decide)]
  · show (ab_ups (ab_ups (ab_ups (ab_ups (ab_ups σ11 3 11 (fw_c (σ11 18 11))) 3 12 (fw_c (σ11 18 12))) 3 13 (fw_c (σ11 18 13))) 3 14 (fw_c (σ11 18 14))) 3 15 (fw_c (σ11 18 15))) 7 j = fw_c (σ0 22 j)
    rw [rr 7 (by decide), show σ11 7 = σ4 7 from fw_okM_c Q4 (by decide), c4 j hj, show σ3 22 = σ0 22 from fw_okM_c N3 (by decide)]
  · show (ab_ups (ab_ups (ab_ups (ab_ups (ab_ups σ11 3 11 (fw_c (σ11 18 11))) 3 12 (fw_c (σ11 18 12))) 3 13 (fw_c (σ11 18 13))) 3 14 (fw_c (σ11 18 14))) 3 15 (fw_c (σ11 18 15))) 8 j = fw_c (σ0 23 j)
    rw [rr 8 (by decide), show σ11 8 = σ5 8 from fw_okM_c Q5 (by decide), c5 j hj, show σ4 23 = σ0 23 from fw_okM_c N4 (by decide)]
  · show (ab_ups (ab_ups (ab_ups (ab_ups (ab_ups σ11 3 11 (fw_c (σ11 18 11))) 3 12 (fw_c (σ11 18 12))) 3 13 (fw_c (σ11 18 13))) 3 14 (fw_c (σ11 18 14))) 3 15 (fw_c (σ11 18 15))) 9 j = fw_c (σ0 24 j)
    rw [rr 9 (by decide), show σ11 9 = σ6 9 from fw_okM_c Q6 (by decide), c6 j hj, show σ5 24 = σ0 24 from fw_okM_c N5 (by decide)]
  · show (ab_ups (ab_ups (ab_ups (ab_ups (ab_ups σ11 3 11 (fw_c (σ11 18 11))) 3 12 (fw_c (σ11 18 12))) 3 13 (fw_c (σ11 18 13))) 3 14 (fw_c (σ11 18 14))) 3 15 (fw_c (σ11 18 15))) 10 j = fw_c (σ0 25 j)
    rw [rr 10 (by decide), show σ11 10 = σ7 10 from fw_okM_c Q7 (by decide), c7 j hj, show σ6 25 = σ0 25 from fw_okM_c N6 (by decide)]
  · show (ab_ups (ab_ups (ab_ups (ab_ups (ab_ups σ11 3 11 (fw_c (σ11 18 11))) 3 12 (fw_c (σ11 18 12))) 3 13 (fw_c (σ11 18 13))) 3 14 (fw_c (σ11 18 14))) 3 15 (fw_c (σ11 18 15))) 11 j = fw_d (σ0 26 j)
    rw [rr 11 (by decide), show σ11 11 = σ8 11 from fw_okM_c Q8 (by decide), c8 j hj, show σ7 26 = σ0 26 from fw_okM_c N7 (by decide)]
  · show (ab_ups (ab_ups (ab_ups (ab_ups (ab_ups σ11 3 11 (fw_c (σ11 18 11))) 3 12 (fw_c (σ11 18 12))) 3 13 (fw_c (σ11 18 13))) 3 14 (fw_c (σ11 18 14))) 3 15 (fw_c (σ11 18 15))) 12 j = fw_d (σ0 27 j)
    rw [rr 12 (by decide), show σ11 12 = σ9 12 from fw_okM_c Q9 (by decide), c9 j hj, show σ8 27 = σ0 27 from fw_okM_c N8 (by decide)]
  · show (ab_ups (ab_ups (ab_ups (ab_ups (ab_ups σ11 3 11 (fw_c (σ11 18 11))) 3 12 (fw_c (σ11 18 12))) 3 13 (fw_c (σ11 18 13))) 3 14 (fw_c (σ11 18 14))) 3 15 (fw_c (σ11 18 15))) 13 j = fw_d (σ0 28 j)
    rw [rr 13 (by decide), show σ11 13 = σ10 13 from fw_okM_c Q10 (by decide), c10 j hj, show σ9 28 = σ0 28 from fw_okM_c N9 (by decide)]
  · obtain ⟨s1, s2, s3, s4⟩ := c11
    refine ⟨fun j hj => ?_, fun j hj => ?_, ?_, ?_⟩
    · show (ab_ups (ab_ups (ab_ups (ab_ups (ab_ups σ11 3 11 (fw_c (σ11 18 11))) 3 12 (fw_c (σ11 18 12))) 3 13 (fw_c (σ11 18 13))) 3 14 (fw_c (σ11 18 14))) 3 15 (fw_c (σ11 18 15))) 15 j = fw_c (σ0 30 j)
      rw [rr 15 (by decide), show σ0 30 = σ10 30 from (fw_okM_c N10 (by decide)).symm]; exact s1 j hj
    · show (ab_ups (ab_ups (ab_ups (ab_ups (ab_ups σ11 3 11 (fw_c (σ11 18 11))) 3 12 (fw_c (σ11 18 12))) 3 13 (fw_c (σ11 18 13))) 3 14 (fw_c (σ11 18 14))) 3 15 (fw_c (σ11 18 15))) 16 j = fw_c (σ0 31 j)
      rw [rr 16 (by decide), show σ0 31 = σ10 31 from (fw_okM_c N10 (by decide)).symm]; exact s2 j hj
    · show (ab_ups (ab_ups (ab_ups (ab_ups (ab_ups σ11 3 11 (fw_c (σ11 18 11))) 3 12 (fw_c (σ11 18 12))) 3 13 (fw_c (σ11 18 13))) 3 14 (fw_c (σ11 18 14))) 3 15 (fw_c (σ11 18 15))) 14 3 = fw_c (σ0 29 3)
      rw [rr 14 (by decide), show σ0 29 = σ10 29 from (fw_okM_c N10 (by decide)).symm]; exact s3
    · show (ab_ups (ab_ups (ab_ups (ab_ups (ab_ups σ11 3 11 (fw_c (σ11 18 11))) 3 12 (fw_c (σ11 18 12))) 3 13 (fw_c (σ11 18 13))) 3 14 (fw_c (σ11 18 14))) 3 15 (fw_c (σ11 18 15))) 14 4 = fw_c (σ0 29 4)
      rw [rr 14 (by decide), show σ0 29 = σ10 29 from (fw_okM_c N10 (by decide)).symm]; exact s4)
theorem fm_copy_33_3 (hinj : nn_inj ad) : fw_H l cy ad wr cr D 49 2 (cy_k 33 3) := fw_mk hinj (⟨"NameNotes$Studio", "copy", "(LNameNotes$Studio;)V"⟩, prog_8_method_3_code, 2, (Option.none : Option Jvm.ClassFile.FieldType), 1, true, 4) rfl rfl nn_KI6_ok nn_KJ6_ok nn_PF6_ok nn_PS6_ok (by decide +kernel) rfl rfl (List.forall_mem_cons.mpr ⟨fw_row nn_PM6_ok (x := 70) (k := 2) (mn := 50) (np := 2) (ob := false) (ci := 0) (⟨"NameNotes", "copyRow", "([I[I)V"⟩, prog_1_method_88_code, 3, (Option.none : Option Jvm.ClassFile.FieldType), 2, false, 4) rfl (by decide +kernel) rfl rfl (by decide) (fun q => by cases q) (fm_cp hinj), (List.forall_mem_cons.mpr ⟨fw_row nn_PM6_ok (x := 74) (k := 2) (mn := 51) (np := 2) (ob := false) (ci := 0) (⟨"NameNotes", "copyRow", "([J[J)V"⟩, prog_1_method_89_code, 3, (Option.none : Option Jvm.ClassFile.FieldType), 2, false, 4) rfl (by decide +kernel) rfl rfl (by decide) (fun q => by cases q) (fm_cl hinj), (List.forall_mem_cons.mpr ⟨fw_row nn_PM6_ok (x := 77) (k := 0) (mn := 52) (np := 1) (ob := true) (ci := 5) (⟨"NameNotes$Sentence", "copy", "(LNameNotes$Sentence;)V"⟩, prog_7_method_3_code, 2, (Option.none : Option Jvm.ClassFile.FieldType), 1, true, 4) rfl (by decide +kernel) rfl rfl (by decide) (fun _ => ⟨_, _, rfl⟩) (fm_scopy hinj), (fun _ h => absurd h List.not_mem_nil)⟩)⟩)⟩) (fun as σ0 K h => by
  obtain ⟨rfl, h⟩ := h
  refine ⟨rfl, fun G hG => fs_copy_33_3_0 hG ⟨(34, 4, 81), by decide, rfl, fun σ1 M1 c1 => fs_copy_33_3_11 hG ⟨(35, 5, 81), by decide, rfl, fun σ2 M2 c2 => fs_copy_33_3_22 hG ⟨(36, 6, 9), by decide, rfl, fun σ3 M3 c3 => fs_copy_33_3_33 hG ⟨(37, 7, 324), by decide, rfl, fun σ4 M4 c4 => fs_copy_33_3_44 hG ⟨(38, 8, 6), by decide, rfl, fun σ5 M5 c5 => fs_copy_33_3_55 hG ⟨(39, 9, 45), by decide, rfl, fun σ6 M6 c6 => fs_copy_33_3_66 hG ⟨(40, 10, 5), by decide, rfl, fun σ7 M7 c7 => fs_copy_33_3_77 hG ⟨(41, 11, 9), by decide, rfl, fun σ8 M8 c8 => fs_copy_33_3_88 hG ⟨(42, 12, 6), by decide, rfl, fun σ9 M9 c9 => fs_copy_33_3_99 hG ⟨(43, 13, 5), by decide, rfl, fun σ10 M10 c10 => fs_copy_33_3_110 hG ⟨(33, 3), by decide, rfl, fun σ11 M11 c11 => fs_copy_33_3_121 hG ?_⟩⟩⟩⟩⟩⟩⟩⟩⟩⟩⟩⟩
  have M1 : ab_okM [(4, 1000000)] σ0 σ1 := M1
  have c1 : ∀ j : Nat, j < 81 → σ1 4 j = fw_c (σ0 34 j) := c1
  have M2 : ab_okM [(5, 1000000)] σ1 σ2 := M2
  have c2 : ∀ j : Nat, j < 81 → σ2 5 j = fw_c (σ1 35 j) := c2
  have M3 : ab_okM [(6, 1000000)] σ2 σ3 := M3
  have c3 : ∀ j : Nat, j < 9 → σ3 6 j = fw_c (σ2 36 j) := c3
  have M4 : ab_okM [(7, 1000000)] σ3 σ4 := M4
  have c4 : ∀ j : Nat, j < 324 → σ4 7 j = fw_c (σ3 37 j) := c4
  have M5 : ab_okM [(8, 1000000)] σ4 σ5 := M5
  have c5 : ∀ j : Nat, j < 6 → σ5 8 j = fw_c (σ4 38 j) := c5
  have M6 : ab_okM [(9, 1000000)] σ5 σ6 := M6
  have c6 : ∀ j : Nat, j < 45 → σ6 9 j = fw_c (σ5 39 j) := c6
  have M7 : ab_okM [(10, 1000000)] σ6 σ7 := M7
  have c7 : ∀ j : Nat, j < 5 → σ7 10 j = fw_c (σ6 40 j) := c7
  have M8 : ab_okM [(11, 1000000)] σ7 σ8 := M8
  have c8 : ∀ j : Nat, j < 9 → σ8 11 j = fw_d (σ7 41 j) := c8
  have M9 : ab_okM [(12, 1000000)] σ8 σ9 := M9
  have c9 : ∀ j : Nat, j < 6 → σ9 12 j = fw_d (σ8 42 j) := c9
  have M10 : ab_okM [(13, 1000000)] σ9 σ10 := M10
  have c10 : ∀ j : Nat, j < 5 → σ10 13 j = fw_d (σ9 43 j) := c10
  have M11 : ab_okM (sc_M 3) σ10 σ11 := M11
  have c11 : sc_is σ10 σ11 33 3 := c11
  have N1 : ab_okM ((4, 1000000) :: []) σ0 σ1 := fw_okM_tr (fw_okM_refl _ _) M1 (by decide)
  have N2 : ab_okM ((4, 1000000) :: (5, 1000000) :: []) σ0 σ2 := fw_okM_tr (fw_okM_tr (fw_okM_refl _ _) N1 (by decide)) M2 (by decide)
  have N3 : ab_okM ((4, 1000000) :: (5, 1000000) :: (6, 1000000) :: []) σ0 σ3 := fw_okM_tr (fw_okM_tr (fw_okM_refl _ _) N2 (by decide)) M3 (by decide)
  have N4 : ab_okM ((4, 1000000) :: (5, 1000000) :: (6, 1000000) :: (7, 1000000) :: []) σ0 σ4 := fw_okM_tr (fw_okM_tr (fw_okM_refl _ _) N3 (by decide)) M4 (by decide)
  have N5 : ab_okM ((4, 1000000) :: (5, 1000000) :: (6, 1000000) :: (7, 1000000) :: (8, 1000000) :: []) σ0 σ5 := fw_okM_tr (fw_okM_tr (fw_okM_refl _ _) N4 (by decide)) M5 (by decide)
  have N6 : ab_okM ((4, 1000000) :: (5, 1000000) :: (6, 1000000) :: (7, 1000000) :: (8, 1000000) :: (9, 1000000) :: []) σ0 σ6 := fw_okM_tr (fw_okM_tr (fw_okM_refl _ _) N5 (by decide)) M6 (by decide)
  have N7 : ab_okM ((4, 1000000) :: (5, 1000000) :: (6, 1000000) :: (7, 1000000) :: (8, 1000000) :: (9, 1000000) :: (10, 1000000) :: []) σ0 σ7 := fw_okM_tr (fw_okM_tr (fw_okM_refl _ _) N6 (by decide)) M7 (by decide)
  have N8 : ab_okM ((4, 1000000) :: (5, 1000000) :: (6, 1000000) :: (7, 1000000) :: (8, 1000000) :: (9, 1000000) :: (10, 1000000) :: (11, 1000000) :: []) σ0 σ8 := fw_okM_tr (fw_okM_tr (fw_okM_refl _ _) N7 (by decide)) M8 (by decide)
  have N9 : ab_okM ((4, 1000000) :: (5, 1000000) :: (6, 1000000) :: (7, 1000000) :: (8, 1000000) :: (9, 1000000) :: (10, 1000000) :: (11, 1000000) :: (12, 1000000) :: []) σ0 σ9 := fw_okM_tr (fw_okM_tr (fw_okM_refl _ _) N8 (by decide)) M9 (by decide)
  have N10 : ab_okM ((4, 1000000) :: (5, 1000000) :: (6, 1000000) :: (7, 1000000) :: (8, 1000000) :: (9, 1000000) :: (10, 1000000) :: (11, 1000000) :: (12, 1000000) :: (13, 1000000) :: []) σ0 σ10 := fw_okM_tr (fw_okM_tr (fw_okM_refl _ _) N9 (by decide)) M10 (by decide)
  have N11 : ab_okM ((4, 1000000) :: (5, 1000000) :: (6, 1000000) :: (7, 1000000) :: (8, 1000000) :: (9, 1000000) :: (10, 1000000) :: (11, 1000000) :: (12, 1000000) :: (13, 1000000) :: sc_M 3) σ0 σ11 := fw_okM_tr (fw_okM_tr (fw_okM_refl _ _) N10 (by decide)) M11 (by decide)
  have Q11 : ab_okM ([]) σ11 σ11 := fw_okM_refl _ _
  have Q10 : ab_okM (sc_M 3) σ10 σ11 := fw_okM_tr (fw_okM_tr (fw_okM_refl _ _) M11 (by decide)) Q11 (by decide)
  have Q9 : ab_okM ((13, 1000000) :: sc_M 3) σ9 σ11 := fw_okM_tr (fw_okM_tr (fw_okM_refl _ _) M10 (by decide)) Q10 (by decide)
  have Q8 : ab_okM ((12, 1000000) :: (13, 1000000) :: sc_M 3) σ8 σ11 := fw_okM_tr (fw_okM_tr (fw_okM_refl _ _) M9 (by decide)) Q9 (by decide)
  have Q7 : ab_okM ((11, 1000000) :: (12, 1000000) :: (13, 1000000) :: sc_M 3) σ7 σ11 := fw_okM_tr (fw_okM_tr (fw_okM_refl _ _) M8 (by decide)) Q8 (by decide)
  have Q6 : ab_okM ((10, 1000000) :: (11, 1000000) :: (12, 1000000) :: (13, 1000000) :: sc_M 3) σ6 σ11 := fw_okM_tr (fw_okM_tr (fw_okM_refl _ _) M7 (by decide)) Q7 (by decide)
  have Q5 : ab_okM ((9, 1000000) :: (10, 1000000) :: (11, 1000000) :: (12, 1000000) :: (13, 1000000) :: sc_M 3) σ5 σ11 := fw_okM_tr (fw_okM_tr (fw_okM_refl _ _) M6 (by decide)) Q6 (by decide)
  have Q4 : ab_okM ((8, 1000000) :: (9, 1000000) :: (10, 1000000) :: (11, 1000000) :: (12, 1000000) :: (13, 1000000) :: sc_M 3) σ4 σ11 := fw_okM_tr (fw_okM_tr (fw_okM_refl _ _) M5 (by decide)) Q5 (by decide)
  have Q3 : ab_okM ((7, 1000000) :: (8, 1000000) :: (9, 1000000) :: (10, 1000000) :: (11, 1000000) :: (12, 1000000) :: (13, 1000000) :: sc_M 3) σ3 σ11 := fw_okM_tr (fw_okM_tr (fw_okM_refl _ _) M4 (by decide)) Q4 (by decide)
  have Q2 : ab_okM ((6, 1000000) :: (7, 1000000) :: (8, 1000000) :: (9, 1000000) :: (10, 1000000) :: (11, 1000000) :: (12, 1000000) :: (13, 1000000) :: sc_M 3) σ2 σ11 := fw_okM_tr (fw_okM_tr (fw_okM_refl _ _) M3 (by decide)) Q3 (by decide)
  have Q1 : ab_okM ((5, 1000000) :: (6, 1000000) :: (7, 1000000) :: (8, 1000000) :: (9, 1000000) :: (10, 1000000) :: (11, 1000000) :: (12, 1000000) :: (13, 1000000) :: sc_M 3) σ1 σ11 := fw_okM_tr (fw_okM_tr (fw_okM_refl _ _) M2 (by decide)) Q2 (by decide)
  have rr : ∀ k : Nat, k ≠ 3 → (ab_ups (ab_ups (ab_ups (ab_ups (ab_ups σ11 3 11 (fw_c (σ11 33 11))) 3 12 (fw_c (σ11 33 12))) 3 13 (fw_c (σ11 33 13))) 3 14 (fw_c (σ11 33 14))) 3 15 (fw_c (σ11 33 15))) k = σ11 k := fun k hk => by rw [ab_ups_row hk, ab_ups_row hk, ab_ups_row hk, ab_ups_row hk, ab_ups_row hk]
  have ff : ∀ j : Nat, j = 11 ∨ j = 12 ∨ j = 13 ∨ j = 14 ∨ j = 15 → (ab_ups (ab_ups (ab_ups (ab_ups (ab_ups σ11 3 11 (fw_c (σ11 33 11))) 3 12 (fw_c (σ11 33 12))) 3 13 (fw_c (σ11 33 13))) 3 14 (fw_c (σ11 33 14))) 3 15 (fw_c (σ11 33 15))) 3 j = fw_c (σ0 33 j) := fun j hj => by
    have e1 : σ11 33 = σ0 33 := fw_okM_c N11 (by decide)
    rw [e1]
    rcases hj with rfl | rfl | rfl | rfl | rfl
    · rw [ab_ups_ne (by decide), ab_ups_ne (by decide), ab_ups_ne (by decide), ab_ups_ne (by decide), ab_ups_eq]
    · rw [ab_ups_ne (by decide), ab_ups_ne (by decide), ab_ups_ne (by decide), ab_ups_eq]
    · rw [ab_ups_ne (by decide), ab_ups_ne (by decide), ab_ups_eq]
    · rw [ab_ups_ne (by decide), ab_ups_eq]
    · rw [ab_ups_eq]
  refine h _ (fw_okM_ups (fw_okM_ups (fw_okM_ups (fw_okM_ups (fw_okM_ups (fw_okM_tr (fw_okM_refl _ _) N11 (by decide)) (by decide)) (by decide)) (by decide)) (by decide)) (by decide)) ⟨fun j hj => ?_, fun j hj => ?_, fun j hj => ?_, fun j hj => ?_, fun j hj => ?_, fun j hj => ?_, fun j hj => ?_, fun j hj => ?_, fun j hj => ?_, fun j hj => ?_, ?_, ff 11 (by decide), ff 12 (by decide), ff 13 (by decide), ff 14 (by decide), ff 15 (by decide)⟩
  · show (ab_ups (ab_ups (ab_ups (ab_ups (ab_ups σ11 3 11 (fw_c (σ11 33 11))) 3 12 (fw_c (σ11 33 12))) 3 13 (fw_c (σ11 33 13))) 3 14 (fw_c (σ11 33 14))) 3 15 (fw_c (σ11 33 15))) 4 j = fw_c (σ0 34 j)
    rw [rr 4 (by decide), show σ11 4 = σ1 4 from fw_okM_c Q1 (by decide), c1 j hj]
  · show (ab_ups (ab_ups (ab_ups (ab_ups (ab_ups σ11 3 11 (fw_c (σ11 33 11))) 3 12 (fw_c (σ11 33 12))) 3 13 (fw_c (σ11 33 13))) 3 14 (fw_c (σ11 33 14))) 3 15 (fw_c (σ11 33 15))) 5 j = fw_c (σ0 35 j)
    rw [rr 5 (by decide), show σ11 5 = σ2 5 from fw_okM_c Q2 (by decide), c2 j hj, show σ1 35 = σ0 35 from fw_okM_c N1 (by decide)]
  · show (ab_ups (ab_ups (ab_ups (ab_ups (ab_ups σ11 3 11 (fw_c (σ11 33 11))) 3 12 (fw_c (σ11 33 12))) 3 13 (fw_c (σ11 33 13))) 3 14 (fw_c (σ11 33 14))) 3 15 (fw_c (σ11 33 15))) 6 j = fw_c (σ0 36 j)
    rw [rr 6 (by decide), show σ11 6 = σ3 6 from fw_okM_c Q3 (by decide), c3 j hj, show σ2 36 = σ0 36 from fw_okM_c N2 (by decide)]
  · show (ab_ups (ab_ups (ab_ups (ab_ups (ab_ups σ11 3 11 (fw_c (σ11 33 11))) 3 12 (fw_c (σ11 33 12))) 3 13 (fw_c (σ11 33 13))) 3 14 (fw_c (σ11 33 14))) 3 15 (fw_c (σ11 33 15))) 7 j = fw_c (σ0 37 j)
    rw [rr 7 (by decide), show σ11 7 = σ4 7 from fw_okM_c Q4 (by decide), c4 j hj, show σ3 37 = σ0 37 from fw_okM_c N3 (by decide)]
  · show (ab_ups (ab_ups (ab_ups (ab_ups (ab_ups σ11 3 11 (fw_c (σ11 33 11))) 3 12 (fw_c (σ11 33 12))) 3 13 (fw_c (σ11 33 13))) 3 14 (fw_c (σ11 33 14))) 3 15 (fw_c (σ11 33 15))) 8 j = fw_c (σ0 38 j)
    rw [rr 8 (by decide), show σ11 8 = σ5 8 from fw_okM_c Q5 (by decide), c5 j hj, show σ4 38 = σ0 38 from fw_okM_c N4 (by decide)]
  · show (ab_ups (ab_ups (ab_ups (ab_ups (ab_ups σ11 3 11 (fw_c (σ11 33 11))) 3 12 (fw_c (σ11 33 12))) 3 13 (fw_c (σ11 33 13))) 3 14 (fw_c (σ11 33 14))) 3 15 (fw_c (σ11 33 15))) 9 j = fw_c (σ0 39 j)
    rw [rr 9 (by decide), show σ11 9 = σ6 9 from fw_okM_c Q6 (by decide), c6 j hj, show σ5 39 = σ0 39 from fw_okM_c N5 (by decide)]
  · show (ab_ups (ab_ups (ab_ups (ab_ups (ab_ups σ11 3 11 (fw_c (σ11 33 11))) 3 12 (fw_c (σ11 33 12))) 3 13 (fw_c (σ11 33 13))) 3 14 (fw_c (σ11 33 14))) 3 15 (fw_c (σ11 33 15))) 10 j = fw_c (σ0 40 j)
    rw [rr 10 (by decide), show σ11 10 = σ7 10 from fw_okM_c Q7 (by decide), c7 j hj, show σ6 40 = σ0 40 from fw_okM_c N6 (by decide)]
  · show (ab_ups (ab_ups (ab_ups (ab_ups (ab_ups σ11 3 11 (fw_c (σ11 33 11))) 3 12 (fw_c (σ11 33 12))) 3 13 (fw_c (σ11 33 13))) 3 14 (fw_c (σ11 33 14))) 3 15 (fw_c (σ11 33 15))) 11 j = fw_d (σ0 41 j)
    rw [rr 11 (by decide), show σ11 11 = σ8 11 from fw_okM_c Q8 (by decide), c8 j hj, show σ7 41 = σ0 41 from fw_okM_c N7 (by decide)]
  · show (ab_ups (ab_ups (ab_ups (ab_ups (ab_ups σ11 3 11 (fw_c (σ11 33 11))) 3 12 (fw_c (σ11 33 12))) 3 13 (fw_c (σ11 33 13))) 3 14 (fw_c (σ11 33 14))) 3 15 (fw_c (σ11 33 15))) 12 j = fw_d (σ0 42 j)
    rw [rr 12 (by decide), show σ11 12 = σ9 12 from fw_okM_c Q9 (by decide), c9 j hj, show σ8 42 = σ0 42 from fw_okM_c N8 (by decide)]
  · show (ab_ups (ab_ups (ab_ups (ab_ups (ab_ups σ11 3 11 (fw_c (σ11 33 11))) 3 12 (fw_c (σ11 33 12))) 3 13 (fw_c (σ11 33 13))) 3 14 (fw_c (σ11 33 14))) 3 15 (fw_c (σ11 33 15))) 13 j = fw_d (σ0 43 j)
    rw [rr 13 (by decide), show σ11 13 = σ10 13 from fw_okM_c Q10 (by decide), c10 j hj, show σ9 43 = σ0 43 from fw_okM_c N9 (by decide)]
  · obtain ⟨s1, s2, s3, s4⟩ := c11
    refine ⟨fun j hj => ?_, fun j hj => ?_, ?_, ?_⟩
    · show (ab_ups (ab_ups (ab_ups (ab_ups (ab_ups σ11 3 11 (fw_c (σ11 33 11))) 3 12 (fw_c (σ11 33 12))) 3 13 (fw_c (σ11 33 13))) 3 14 (fw_c (σ11 33 14))) 3 15 (fw_c (σ11 33 15))) 15 j = fw_c (σ0 45 j)
      rw [rr 15 (by decide), show σ0 45 = σ10 45 from (fw_okM_c N10 (by decide)).symm]; exact s1 j hj
    · show (ab_ups (ab_ups (ab_ups (ab_ups (ab_ups σ11 3 11 (fw_c (σ11 33 11))) 3 12 (fw_c (σ11 33 12))) 3 13 (fw_c (σ11 33 13))) 3 14 (fw_c (σ11 33 14))) 3 15 (fw_c (σ11 33 15))) 16 j = fw_c (σ0 46 j)
      rw [rr 16 (by decide), show σ0 46 = σ10 46 from (fw_okM_c N10 (by decide)).symm]; exact s2 j hj
    · show (ab_ups (ab_ups (ab_ups (ab_ups (ab_ups σ11 3 11 (fw_c (σ11 33 11))) 3 12 (fw_c (σ11 33 12))) 3 13 (fw_c (σ11 33 13))) 3 14 (fw_c (σ11 33 14))) 3 15 (fw_c (σ11 33 15))) 14 3 = fw_c (σ0 44 3)
      rw [rr 14 (by decide), show σ0 44 = σ10 44 from (fw_okM_c N10 (by decide)).symm]; exact s3
    · show (ab_ups (ab_ups (ab_ups (ab_ups (ab_ups σ11 3 11 (fw_c (σ11 33 11))) 3 12 (fw_c (σ11 33 12))) 3 13 (fw_c (σ11 33 13))) 3 14 (fw_c (σ11 33 14))) 3 15 (fw_c (σ11 33 15))) 14 4 = fw_c (σ0 44 4)
      rw [rr 14 (by decide), show σ0 44 = σ10 44 from (fw_okM_c N10 (by decide)).symm]; exact s4)
theorem fm_copy (hinj : nn_inj ad) : fw_H l cy ad wr cr D 49 2 sp_copy := fw_H_of (List.forall_mem_cons.mpr ⟨fm_copy_49_3 hinj, (List.forall_mem_cons.mpr ⟨fm_copy_3_18 hinj, (List.forall_mem_cons.mpr ⟨fm_copy_3_33 hinj, (List.forall_mem_cons.mpr ⟨fm_copy_18_3 hinj, (List.forall_mem_cons.mpr ⟨fm_copy_33_3 hinj, (fun _ h => absurd h List.not_mem_nil)⟩)⟩)⟩)⟩)⟩)
end
