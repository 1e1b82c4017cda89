/-! the reference's lines: each -/
def pr_fin (e : tk_E) (r : pr_R) : pr_R := if r.1 ≠ 0 then r else if (tk e r.2.2).1 ≠ 59 then (1, r.2.1, r.2.2) else (0, r.2.1, tn e r.2.2)
theorem pr_lns_fin (A : ab_SG) (e : tk_E) (p : Nat) : pr_lns A e p = pr_fin e (pr_line A e p) := rfl
theorem tw_k {e : tk_E} {p : Nat} (h : 0 ≤ tw e p) : (tk e p).1 = 2 := by
  unfold tw at h
  by_cases c : (tk e p).1 = 2
  · exact c
  · rw [if_neg c] at h
    exact absurd h (by decide)
/-! where a line ends -/
theorem pr_note_p {A : ab_SG} {e : tk_E} {x : Int} {p : Nat} (h : p ≤ e.2.1) (q : (pr_note A e x p).1 = 0) : p ≤ (pr_note A e x p).2.2 ∧ (pr_note A e x p).2.2 ≤ e.2.1 := by
  have g1 := tn_le h
  have g2 := tn_le g1.2
  unfold pr_note at q ⊢
  by_cases c1 : pr_nm e p 0 24 ≠ 0
  · rw [if_pos c1] at q; exact absurd q c1
  rw [if_neg c1] at q ⊢
  by_cases c2 : 9 ≤ A 52 x.toNat
  · rw [if_pos c2] at q; exact absurd q (show ¬ (4 : Int) = 0 by decide)
  rw [if_neg c2] at q ⊢
  by_cases c3 : pr_nm e (tn e p) 1 9 ≠ 0
  · rw [if_pos c3] at q; exact absurd q c3
  rw [if_neg c3]
  exact ⟨Nat.le_trans g1.1 g2.1, g2.2⟩
theorem pr_notes_p {e : tk_E} {x : Int} : ∀ (f : Nat) (A : ab_SG) (p : Nat), p ≤ e.2.1 → (pr_notes e x f A p).1 = 0 → p ≤ (pr_notes e x f A p).2.2 ∧ (pr_notes e x f A p).2.2 ≤ e.2.1 := by
  intro f
  induction f with
  | zero => intro A p h _; exact ⟨Nat.le_refl _, h⟩
  | succ f ih =>
    intro A p h q
    unfold pr_notes at q ⊢
    by_cases c1 : (tk e p).1 ≠ 3
    · rw [if_pos c1]; exact ⟨Nat.le_refl _, h⟩
    rw [if_neg c1] at q ⊢
    by_cases c2 : (pr_note A e x p).1 ≠ 0
    · rw [if_pos c2] at q; exact absurd q c2
    rw [if_neg c2] at q ⊢
    have g := pr_note_p h (Classical.not_not.mp c2)
    have g2 := ih _ _ g.2 q
    exact ⟨Nat.le_trans g.1 g2.1, g2.2⟩
theorem pr_left_p {A : ab_SG} {e : tk_E} {x : Int} {p : Nat} (h : p ≤ e.2.1) (q : (pr_left A e x p).1 = 0) : p ≤ (pr_left A e x p).2.2 ∧ (pr_left A e x p).2.2 ≤ e.2.1 := by
  have g1 := tn_le h
  unfold pr_left at q ⊢
  by_cases c1 : pr_sk A e 57 (A 49 11) p ≠ 0
  · rw [if_pos c1] at q; exact absurd q c1
  rw [if_neg c1] at q ⊢
  by_cases c2 : pr_hs (A 54 x.toNat) (pr_ix A e 57 (A 49 11) p) = true
  · rw [if_pos c2] at q; exact absurd q (show ¬ (3 : Int) = 0 by decide)
  rw [if_neg c2]
  exact g1
theorem pr_lefts_p {e : tk_E} {x : Int} : ∀ (f : Nat) (A : ab_SG) (p : Nat), p ≤ e.2.1 → (pr_lefts e x f A p).1 = 0 → p ≤ (pr_lefts e x f A p).2.2 ∧ (pr_lefts e x f A p).2.2 ≤ e.2.1 := by
  intro f
  induction f with
  | zero => intro A p h _; exact ⟨Nat.le_refl _, h⟩
  | succ f ih =>
    intro A p h q
    unfold pr_lefts at q ⊢
    by_cases c1 : (tk e p).1 ≠ 2
    · rw [if_pos c1]; exact ⟨Nat.le_refl _, h⟩
    rw [if_neg c1] at q ⊢
    by_cases c2 : (pr_left A e x p).1 ≠ 0
    · rw [if_pos c2] at q; exact absurd q c2
    rw [if_neg c2] at q ⊢
    have g := pr_left_p h (Classical.not_not.mp c2)
    have g2 := ih _ _ g.2 q
    exact ⟨Nat.le_trans g.1 g2.1, g2.2⟩
theorem pr_tune_p {A : ab_SG} {e : tk_E} {p : Nat} (h : p ≤ e.2.1) (q : (pr_tune A e p).1 = 0) : tn e p ≤ (pr_tune A e p).2.2 ∧ (pr_tune A e p).2.2 ≤ e.2.1 := by
  have g1 := tn_le h
  have g2 := tn_le g1.2
  unfold pr_tune at q ⊢
  by_cases c1 : 9 ≤ A 49 11
  · rw [if_pos c1] at q; exact absurd q (show ¬ (4 : Int) = 0 by decide)
  rw [if_neg c1] at q ⊢
  by_cases c2 : pr_new A e (tn e p) ≠ 0
  · rw [if_pos c2] at q; exact absurd q c2
  rw [if_neg c2] at q ⊢
  dsimp only at q ⊢
  generalize ab_ups (ab_ups (ab_ups A 57 (A 49 11).toNat (pr_wd e (tn e p))) 52 (A 49 11).toNat 0) 49 11 (A 49 11 + 1) = A1 at q ⊢
  by_cases c3 : (pr_note A1 e (A 49 11) (tn e (tn e p))).1 ≠ 0
  · rw [if_pos c3] at q; exact absurd q c3
  rw [if_neg c3] at q ⊢
  have g3 := pr_note_p g2.2 (Classical.not_not.mp c3)
  have g4 := pr_notes_p 9 _ _ g3.2 q
  exact ⟨Nat.le_trans g2.1 (Nat.le_trans g3.1 g4.1), g4.2⟩
theorem pr_clue_p {A : ab_SG} {e : tk_E} {p : Nat} (h : p ≤ e.2.1) (q : (pr_clue A e p).1 = 0) : tn e p ≤ (pr_clue A e p).2.2 ∧ (pr_clue A e p).2.2 ≤ e.2.1 := by
  have g1 := tn_le h
  have g2 := tn_le g1.2
  unfold pr_clue at q ⊢
  by_cases c1 : 6 ≤ A 49 12
  · rw [if_pos c1] at q; exact absurd q (show ¬ (4 : Int) = 0 by decide)
  rw [if_neg c1] at q ⊢
  by_cases c2 : pr_new A e (tn e p) ≠ 0
  · rw [if_pos c2] at q; exact absurd q c2
  rw [if_neg c2] at q ⊢
  dsimp only at q ⊢
  generalize ab_ups (ab_ups (ab_ups A 58 (A 49 12).toNat (pr_wd e (tn e p))) 54 (A 49 12).toNat 0) 49 12 (A 49 12 + 1) = A1 at q ⊢
  by_cases c3 : (pr_left A1 e (A 49 12) (tn e (tn e p))).1 ≠ 0
  · rw [if_pos c3] at q; exact absurd q c3
  rw [if_neg c3] at q ⊢
  have g3 := pr_left_p g2.2 (Classical.not_not.mp c3)
  have g4 := pr_lefts_p 9 _ _ g3.2 q
  exact ⟨Nat.le_trans g2.1 (Nat.le_trans g3.1 g4.1), g4.2⟩
theorem pr_person_p {A : ab_SG} {e : tk_E} {p : Nat} (h : p ≤ e.2.1) (q : (pr_person A e p).1 = 0) : tn e p ≤ (pr_person A e p).2.2 ∧ (pr_person A e p).2.2 ≤ e.2.1 := by
  have g1 := tn_le h
  have g2 := tn_le g1.2
  unfold pr_person at q ⊢
  by_cases c1 : 5 ≤ A 49 13
  · rw [if_pos c1] at q; exact absurd q (show ¬ (4 : Int) = 0 by decide)
  rw [if_neg c1] at q ⊢
  by_cases c2 : pr_new A e (tn e p) ≠ 0
  · rw [if_pos c2] at q; exact absurd q c2
  rw [if_neg c2]
  exact g2
theorem pr_knows_p {A : ab_SG} {e : tk_E} {p : Nat} (h : p ≤ e.2.1) (q : (pr_knows A e p).1 = 0) : tn e p ≤ (pr_knows A e p).2.2 ∧ (pr_knows A e p).2.2 ≤ e.2.1 := by
  have g1 := tn_le h
  have g2 := tn_le g1.2
  have g3 := tn_le g2.2
  have g4 := tn_le g3.2
  unfold pr_knows at q ⊢
  by_cases c1 : pr_sk A e 59 (A 49 13) (tn e p) ≠ 0
  · rw [if_pos c1] at q; exact absurd q c1
  rw [if_neg c1] at q ⊢
  by_cases c2 : pr_sk A e 57 (A 49 11) (tn e (tn e p)) ≠ 0
  · rw [if_pos c2] at q; exact absurd q c2
  rw [if_neg c2] at q ⊢
  by_cases c3 : pr_hs (A 64 (pr_ix A e 59 (A 49 13) (tn e p)).toNat) (pr_ix A e 57 (A 49 11) (tn e (tn e p))) = true
  · rw [if_pos c3] at q; exact absurd q (show ¬ (3 : Int) = 0 by decide)
  rw [if_neg c3] at q ⊢
  by_cases c4 : pr_nm e (tn e (tn e (tn e p))) 0 9 ≠ 0
  · rw [if_pos c4] at q; exact absurd q c4
  rw [if_neg c4]
  exact ⟨Nat.le_trans g2.1 (Nat.le_trans g3.1 g4.1), g4.2⟩
theorem pr_dare_p {A : ab_SG} {e : tk_E} {p : Nat} (h : p ≤ e.2.1) (q : (pr_dare A e p).1 = 0) : tn e p ≤ (pr_dare A e p).2.2 ∧ (pr_dare A e p).2.2 ≤ e.2.1 := by
  have g1 := tn_le h
  have g2 := tn_le g1.2
  have g3 := tn_le g2.2
  unfold pr_dare at q ⊢
  by_cases c1 : pr_sk A e 59 (A 49 13) (tn e p) ≠ 0
  · rw [if_pos c1] at q; exact absurd q c1
  rw [if_neg c1] at q ⊢
  by_cases c3 : pr_hs (A 48 3) (pr_ix A e 59 (A 49 13) (tn e p)) = true
  · rw [if_pos c3] at q; exact absurd q (show ¬ (3 : Int) = 0 by decide)
  rw [if_neg c3] at q ⊢
  by_cases c4 : pr_nm e (tn e (tn e p)) 0 9 ≠ 0
  · rw [if_pos c4] at q; exact absurd q c4
  rw [if_neg c4]
  exact ⟨Nat.le_trans g2.1 g3.1, g3.2⟩
theorem pr_from_p {A : ab_SG} {e : tk_E} {p : Nat} (h : p ≤ e.2.1) (q : (pr_from A e p).1 = 0) : tn e p ≤ (pr_from A e p).2.2 ∧ (pr_from A e p).2.2 ≤ e.2.1 := by
  have g1 := tn_le h
  have g2 := tn_le g1.2
  unfold pr_from at q ⊢
  by_cases c1 : A 48 4 ≠ 0
  · rw [if_pos c1] at q; exact absurd q (show ¬ (3 : Int) = 0 by decide)
  rw [if_neg c1] at q ⊢
  by_cases c4 : pr_nm e (tn e p) 1 9 ≠ 0
  · rw [if_pos c4] at q; exact absurd q c4
  rw [if_neg c4]
  exact g2
theorem pr_line_p {A : ab_SG} {e : tk_E} {p : Nat} (h : p ≤ e.2.1) (q : (pr_line A e p).1 = 0) : 0 ≤ tw e p ∧ tn e p ≤ (pr_line A e p).2.2 ∧ (pr_line A e p).2.2 ≤ e.2.1 := by
  unfold pr_line at q ⊢
  by_cases c0 : tw e p = 0
  · rw [if_pos c0] at q ⊢; exact ⟨by omega, pr_tune_p h q⟩
  rw [if_neg c0] at q ⊢
  by_cases c1 : tw e p = 1
  · rw [if_pos c1] at q ⊢; exact ⟨by omega, pr_clue_p h q⟩
  rw [if_neg c1] at q ⊢
  by_cases c2 : tw e p = 2
  · rw [if_pos c2] at q ⊢; exact ⟨by omega, pr_person_p h q⟩
  rw [if_neg c2] at q ⊢
  by_cases c3 : tw e p = 3
  · rw [if_pos c3] at q ⊢; exact ⟨by omega, pr_knows_p h q⟩
  rw [if_neg c3] at q ⊢
  by_cases c4 : tw e p = 4
  · rw [if_pos c4] at q ⊢; exact ⟨by omega, pr_dare_p h q⟩
  rw [if_neg c4] at q ⊢
  by_cases c5 : tw e p = 5
  · rw [if_pos c5] at q ⊢; exact ⟨by omega, pr_from_p h q⟩
  rw [if_neg c5] at q
  exact absurd q (show ¬ (1 : Int) = 0 by decide)
/-- a line has two bytes at least -/
theorem pr_lns_p {A : ab_SG} {e : tk_E} {p : Nat} (h : p ≤ e.2.1) (q : (pr_lns A e p).1 = 0) : p + 2 ≤ (pr_lns A e p).2.2 ∧ (pr_lns A e p).2.2 ≤ e.2.1 := by
  unfold pr_lns at q ⊢
  by_cases c0 : (pr_line A e p).1 ≠ 0
  · rw [if_pos c0] at q; exact absurd q c0
  rw [if_neg c0] at q ⊢
  have g := pr_line_p h (Classical.not_not.mp c0)
  by_cases c1 : (tk e (pr_line A e p).2.2).1 ≠ 59
  · rw [if_pos c1] at q; exact absurd q (show ¬ (1 : Int) = 0 by decide)
  rw [if_neg c1]
  have k1 := tn_lt h (by rw [tw_k g.1]; decide)
  have k2 := tn_lt g.2.2 (by rw [Classical.not_not.mp c1]; decide)
  have g2 := tn_le g.2.2
  exact ⟨by show p + 2 ≤ tn e (pr_line A e p).2.2; omega, g2.2⟩
def sp_m_readLine : fw_SP := fun as σ K => ∃ (A : ab_SG) (e : tk_E) (p : Nat), as = [(2, 93, 0)] ∧ RM σ A e p ∧ md_post σ (pr_lns A e p) e K
abbrev fk_m_readLine : List fw_CR := [(168, 1, true, 11, 0, sp_m_bad), (225, 1, true, 11, 2, sp_m_isWord), (228, 0, true, 11, 4, sp_m_readTune), (231, 0, true, 11, 4, sp_m_readClue), (234, 0, true, 11, 4, sp_m_readPerson), (237, 0, true, 11, 4, sp_m_readKnows), (240, 0, true, 11, 4, sp_m_readDare), (243, 0, true, 11, 4, sp_m_readFrom), (246, 0, true, 11, 2, sp_m_readEnd)]
abbrev st_m_readLine : fw_K → fw_KR → fw_K := fw_st vwCl nn_sh nn_kd fw_kv fw_wc (nn_KI20.map (fun x => x.1)) (nn_KJ20.map (fun x => x.1)) (nn_PF20.map (fun x => x.1)) (nn_PS20.map (fun x => x.1)) fk_m_readLine 5 nn_dt216 2 1
theorem fs_m_readLine_0 {G : fw_K} {R : fw_KR} (hG : fw_cls st_m_readLine R G) {σ : ab_SG} (h : sp_m_isWord [(2, 93, 0), (0, 0, 0)] σ (fun rv σ2 => G 5 [some (2, 93, 0), none] (rv.toList ++ []) σ2)) : G 0 [some (2, 93, 0), none] [] σ := fw_on hG [5, 12, 21, 28, 37, 44, 53, 60, 69, 76, 85, 92, 100, 101, 109] 200 h
theorem fs_m_readLine_5 {G : fw_K} {R : fw_KR} (hG : fw_cls st_m_readLine R G) {b0 : Int} {σ : ab_SG} (h : (fw_c b0 = 0 → sp_m_isWord [(2, 93, 0), (0, 0, 1)] σ (fun rv σ2 => G 21 [some (2, 93, 0), none] (rv.toList ++ []) σ2)) ∧ (fw_c b0 ≠ 0 → sp_m_readTune [(2, 93, 0)] σ (fun rv σ2 => G 12 [some (2, 93, 0), none] (rv.toList ++ []) σ2))) : G 5 [some (2, 93, 0), none] [(0, 0, b0)] σ := fw_on hG [5, 12, 21, 28, 37, 44, 53, 60, 69, 76, 85, 92, 100, 101, 109] 200 h
theorem fs_m_readLine_21 {G : fw_K} {R : fw_KR} (hG : fw_cls st_m_readLine R G) {b0 : Int} {σ : ab_SG} (h : (fw_c b0 = 0 → sp_m_isWord [(2, 93, 0), (0, 0, 2)] σ (fun rv σ2 => G 37 [some (2, 93, 0), none] (rv.toList ++ []) σ2)) ∧ (fw_c b0 ≠ 0 → sp_m_readClue [(2, 93, 0)] σ (fun rv σ2 => G 28 [some (2, 93, 0), none] (rv.toList ++ []) σ2))) : G 21 [some (2, 93, 0), none] [(0, 0, b0)] σ := fw_on hG [5, 12, 21, 28, 37, 44, 53, 60, 69, 76, 85, 92, 100, 101, 109] 200 h
theorem fs_m_readLine_12 {G : fw_K} {R : fw_KR} (hG : fw_cls st_m_readLine R G) {b0 : Int} {σ : ab_SG} (h : G 101 [some (2, 93, 0), some (0, 0, b0)] [] σ) : G 12 [some (2, 93, 0), none] [(0, 0, b0)] σ := fw_on hG [5, 12, 21, 28, 37, 44, 53, 60, 69, 76, 85, 92, 100, 101, 109] 200 h
theorem fs_m_readLine_37 {G : fw_K} {R : fw_KR} (hG : fw_cls st_m_readLine R G) {b0 : Int} {σ : ab_SG} (h : (fw_c b0 = 0 → sp_m_isWord [(2, 93, 0), (0, 0, 3)] σ (fun rv σ2 => G 53 [some (2, 93, 0), none] (rv.toList ++ []) σ2)) ∧ (fw_c b0 ≠ 0 → sp_m_readPerson [(2, 93, 0)] σ (fun rv σ2 => G 44 [some (2, 93, 0), none] (rv.toList ++ []) σ2))) : G 37 [some (2, 93, 0), none] [(0, 0, b0)] σ := fw_on hG [5, 12, 21, 28, 37, 44, 53, 60, 69, 76, 85, 92, 100, 101, 109] 200 h
theorem fs_m_readLine_28 {G : fw_K} {R : fw_KR} (hG : fw_cls st_m_readLine R G) {b0 : Int} {σ : ab_SG} (h : G 101 [some (2, 93, 0), some (0, 0, b0)] [] σ) : G 28 [some (2, 93, 0), none] [(0, 0, b0)] σ := fw_on hG [5, 12, 21, 28, 37, 44, 53, 60, 69, 76, 85, 92, 100, 101, 109] 200 h
theorem fs_m_readLine_101 {G : fw_K} {R : fw_KR} (hG : fw_cls st_m_readLine R G) {a1 : Int} {σ : ab_SG} (h : (fw_c a1 = 0 → (0 ≤ fw_c 0 ∧ fw_c 0 ≤ 1) ∧ R (some (0, 0, 0)) σ) ∧ (fw_c a1 ≠ 0 → sp_m_readEnd [(2, 93, 0)] σ (fun rv σ2 => G 109 [some (2, 93, 0), some (0, 0, a1)] (rv.toList ++ []) σ2))) : G 101 [some (2, 93, 0), some (0, 0, a1)] [] σ := fw_on hG [5, 12, 21, 28, 37, 44, 53, 60, 69, 76, 85, 92, 100, 101, 109] 200 h
theorem fs_m_readLine_53 {G : fw_K} {R : fw_KR} (hG : fw_cls st_m_readLine R G) {b0 : Int} {σ : ab_SG} (h : (fw_c b0 = 0 → sp_m_isWord [(2, 93, 0), (0, 0, 4)] σ (fun rv σ2 => G 69 [some (2, 93, 0), none] (rv.toList ++ []) σ2)) ∧ (fw_c b0 ≠ 0 → sp_m_readKnows [(2, 93, 0)] σ (fun rv σ2 => G 60 [some (2, 93, 0), none] (rv.toList ++ []) σ2))) : G 53 [some (2, 93, 0), none] [(0, 0, b0)] σ := fw_on hG [5, 12, 21, 28, 37, 44, 53, 60, 69, 76, 85, 92, 100, 101, 109] 200 h
theorem fs_m_readLine_44 {G : fw_K} {R : fw_KR} (hG : fw_cls st_m_readLine R G) {b0 : Int} {σ : ab_SG} (h : G 101 [some (2, 93, 0), some (0, 0, b0)] [] σ) : G 44 [some (2, 93, 0), none] [(0, 0, b0)] σ := fw_on hG [5, 12, 21, 28, 37, 44, 53, 60, 69, 76, 85, 92, 100, 101, 109] 200 h
theorem fs_m_readLine_109 {G : fw_K} {R : fw_KR} (hG : fw_cls st_m_readLine R G) {a1 b0 : Int} {σ : ab_SG} (h : (fw_c b0 = 0 → (0 ≤ fw_c 0 ∧ fw_c 0 ≤ 1) ∧ R (some (0, 0, 0)) σ) ∧ (fw_c b0 ≠ 0 → (0 ≤ fw_c 1 ∧ fw_c 1 ≤ 1) ∧ R (some (0, 0, 1)) σ)) : G 109 [some (2, 93, 0), some (0, 0, a1)] [(0, 0, b0)] σ := fw_on hG [5, 12, 21, 28, 37, 44, 53, 60, 69, 76, 85, 92, 100, 101, 109] 200 h
theorem fs_m_readLine_69 {G : fw_K} {R : fw_KR} (hG : fw_cls st_m_readLine R G) {b0 : Int} {σ : ab_SG} (h : (fw_c b0 = 0 → sp_m_isWord [(2, 93, 0), (0, 0, 5)] σ (fun rv σ2 => G 85 [some (2, 93, 0), none] (rv.toList ++ []) σ2)) ∧ (fw_c b0 ≠ 0 → sp_m_readDare [(2, 93, 0)] σ (fun rv σ2 => G 76 [some (2, 93, 0), none] (rv.toList ++ []) σ2))) : G 69 [some (2, 93, 0), none] [(0, 0, b0)] σ := fw_on hG [5, 12, 21, 28, 37, 44, 53, 60, 69, 76, 85, 92, 100, 101, 109] 200 h
theorem fs_m_readLine_60 {G : fw_K} {R : fw_KR} (hG : fw_cls st_m_readLine R G) {b0 : Int} {σ : ab_SG} (h : G 101 [some (2, 93, 0), some (0, 0, b0)] [] σ) : G 60 [some (2, 93, 0), none] [(0, 0, b0)] σ := fw_on hG [5, 12, 21, 28, 37, 44, 53, 60, 69, 76, 85, 92, 100, 101, 109] 200 h
theorem fs_m_readLine_85 {G : fw_K} {R : fw_KR} (hG : fw_cls st_m_readLine R G) {b0 : Int} {σ : ab_SG} (h : (fw_c b0 = 0 → sp_m_bad [(2, 93, 0), (0, 0, 1)] σ (fun rv σ2 => G 100 [some (2, 93, 0), none] (rv.toList ++ []) σ2)) ∧ (fw_c b0 ≠ 0 → sp_m_readFrom [(2, 93, 0)] σ (fun rv σ2 => G 92 [some (2, 93, 0), none] (rv.toList ++ []) σ2))) : G 85 [some (2, 93, 0), none] [(0, 0, b0)] σ := fw_on hG [5, 12, 21, 28, 37, 44, 53, 60, 69, 76, 85, 92, 100, 101, 109] 200 h
theorem fs_m_readLine_76 {G : fw_K} {R : fw_KR} (hG : fw_cls st_m_readLine R G) {b0 : Int} {σ : ab_SG} (h : G 101 [some (2, 93, 0), some (0, 0, b0)] [] σ) : G 76 [some (2, 93, 0), none] [(0, 0, b0)] σ := fw_on hG [5, 12, 21, 28, 37, 44, 53, 60, 69, 76, 85, 92, 100, 101, 109] 200 h
theorem fs_m_readLine_100 {G : fw_K} {R : fw_KR} (hG : fw_cls st_m_readLine R G) {b0 : Int} {σ : ab_SG} (h : G 101 [some (2, 93, 0), some (0, 0, b0)] [] σ) : G 100 [some (2, 93, 0), none] [(0, 0, b0)] σ := fw_on hG [5, 12, 21, 28, 37, 44, 53, 60, 69, 76, 85, 92, 100, 101, 109] 200 h
theorem fs_m_readLine_92 {G : fw_K} {R : fw_KR} (hG : fw_cls st_m_readLine R G) {b0 : Int} {σ : ab_SG} (h : G 100 [some (2, 93, 0), none] [(0, 0, b0)] σ) : G 92 [some (2, 93, 0), none] [(0, 0, b0)] σ := fw_on hG [5, 12, 21, 28, 37, 44, 53, 60, 69, 76, 85, 92, 100, 101, 109] 200 h
theorem rl_post {G : fw_K} {K K' : fw_KR} (hG : fw_cls st_m_readLine K G) (hK : ∀ (b : Int) (σ' : ab_SG), G 101 [some (2, 93, 0), some (0, 0, b)] [] σ' → K' (some (0, 0, b)) σ') {σ : ab_SG} {e : tk_E} {r : pr_R} (hp : md_post σ (pr_fin e r) e K) : md_post σ r e K' := by
  obtain ⟨h0, h1⟩ := hp
  unfold pr_fin at h0 h1
  refine ⟨fun q σ' M h10 => hK _ _ ?_, fun q σ' M R => hK _ _ ?_⟩
  · rw [if_pos q] at h0
    exact fs_m_readLine_101 hG ⟨fun _ => ⟨fw_01, h0 q σ' M h10⟩, fun z => absurd fw_c0 z⟩
  · rw [if_neg (fun y => y q)] at h0 h1
    refine fs_m_readLine_101 hG ⟨fun z => absurd (fw_c1.symm.trans z) (by decide), fun _ => ⟨e, r.2.2, rfl, R.1, fun q2 σ2 M2 h10 => ?_, fun q2 σ2 M2 S2 => ?_⟩⟩
    · rw [if_pos q2] at h0
      exact fs_m_readLine_109 hG ⟨fun _ => ⟨fw_01, h0 (show ¬ (1 : Int) = 0 by decide) σ2 (fw_okM_tr M M2 (by decide)) h10⟩, fun z => absurd fw_c0 z⟩
    · rw [if_neg (fun y => y q2)] at h1
      have hr := rs_M ⟨R.2.2.1, R.2.2.2⟩ (fw_okM_tr (fw_okM_refl _ _) M2 (by decide))
      exact fs_m_readLine_109 hG ⟨fun z => absurd (fw_c1.symm.trans z) (by decide), fun _ => ⟨fw_11, h1 rfl σ2 (fw_okM_tr M M2 (by decide)) ⟨S2, R.2.1, hr.1, hr.2⟩⟩⟩
section
variable {l : Launch} {cy : Nat → ClassId} {ad wr cr : Nat → Nat} {D : va_G}
theorem fm_m_readLine (hinj : nn_inj ad) : fw_H l cy ad wr cr D 216 5 sp_m_readLine := fw_mk hinj (⟨"NameNotesModel", "readLine", "()Z"⟩, prog_14_method_38_code, 2, (Option.some Jvm.ClassFile.FieldType.boolean), 0, true, 1) rfl rfl nn_KI20_ok nn_KJ20_ok nn_PF20_ok nn_PS20_ok (by decide +kernel) rfl rfl (List.forall_mem_cons.mpr ⟨fw_row nn_PM20_ok (x := 168) (k := 0) (mn := 221) (np := 1) (ob := true) (ci := 11) (⟨"NameNotesModel", "bad", "(I)Z"⟩, prog_14_method_23_code, 2, (Option.some Jvm.ClassFile.FieldType.boolean), 1, true, 1) rfl (by decide +kernel) rfl rfl (by decide) (fun _ => ⟨_, _, rfl⟩) (fm_m_bad hinj), (List.forall_mem_cons.mpr ⟨fw_row nn_PM20_ok (x := 225) (k := 0) (mn := 217) (np := 1) (ob := true) (ci := 11) (⟨"NameNotesModel", "isWord", "(I)Z"⟩, prog_14_method_20_code, 2, (Option.some Jvm.ClassFile.FieldType.boolean), 1, true, 1) rfl (by decide +kernel) rfl rfl (by decide) (fun _ => ⟨_, _, rfl⟩) (fm_m_isWord hinj), (List.forall_mem_cons.mpr ⟨fw_row nn_PM20_ok (x := 228) (k := 0) (mn := 220) (np := 0) (ob := true) (ci := 11) (⟨"NameNotesModel", "readTune", "()Z"⟩, prog_14_method_32_code, 3, (Option.some Jvm.ClassFile.FieldType.boolean), 0, true, 1) rfl (by decide +kernel) rfl rfl (by decide) (fun _ => ⟨_, _, rfl⟩) (fm_m_readTune hinj), (List.forall_mem_cons.mpr ⟨fw_row nn_PM20_ok (x := 231) (k := 0) (mn := 228) (np := 0) (ob := true) (ci := 11) (⟨"NameNotesModel", "readClue", "()Z"⟩, prog_14_method_33_code, 2, (Option.some Jvm.ClassFile.FieldType.boolean), 0, true, 1) rfl (by decide +kernel) rfl rfl (by decide) (fun _ => ⟨_, _, rfl⟩) (fm_m_readClue hinj), (List.forall_mem_cons.mpr ⟨fw_row nn_PM20_ok (x := 234) (k := 0) (mn := 231) (np := 0) (ob := true) (ci := 11) (⟨"NameNotesModel", "readPerson", "()Z"⟩, prog_14_method_34_code, 2, (Option.some Jvm.ClassFile.FieldType.boolean), 0, true, 1) rfl (by decide +kernel) rfl rfl (by decide) (fun _ => ⟨_, _, rfl⟩) (fm_m_readPerson hinj), (List.forall_mem_cons.mpr ⟨fw_row nn_PM20_ok (x := 237) (k := 0) (mn := 232) (np := 0) (ob := true) (ci := 11) (⟨"NameNotesModel", "readKnows", "()Z"⟩, prog_14_method_35_code, 3, (Option.some Jvm.ClassFile.FieldType.boolean), 0, true, 1) rfl (by decide +kernel) rfl rfl (by decide) (fun _ => ⟨_, _, rfl⟩) (fm_m_readKnows hinj), (List.forall_mem_cons.mpr ⟨fw_row nn_PM20_ok (x := 240) (k := 0) (mn := 233) (np := 0) (ob := true) (ci := 11) (⟨"NameNotesModel", "readDare", "()Z"⟩, prog_14_method_36_code, 2, (Option.some Jvm.ClassFile.FieldType.boolean), 0, true, 1) rfl (by decide +kernel) rfl rfl (by decide) (fun _ => ⟨_, _, rfl⟩) (fm_m_readDare hinj), (List.forall_mem_cons.mpr ⟨fw_row nn_PM20_ok (x := 243) (k := 0) (mn := 234) (np := 0) (ob := true) (ci := 11) (⟨"NameNotesModel", "readFrom", "()Z"⟩, prog_14_method_37_code, 1, (Option.some Jvm.ClassFile.FieldType.boolean), 0, true, 1) rfl (by decide +kernel) rfl rfl (by decide) (fun _ => ⟨_, _, rfl⟩) (fm_m_readFrom hinj), (List.forall_mem_cons.mpr ⟨fw_row nn_PM20_ok (x := 246) (k := 0) (mn := 235) (np := 0) (ob := true) (ci := 11) (⟨"NameNotesModel", "readEnd", "()Z"⟩, prog_14_method_26_code, 1, (Option.some Jvm.ClassFile.FieldType.boolean), 0, true, 1) rfl (by decide +kernel) rfl rfl (by decide) (fun _ => ⟨_, _, rfl⟩) (fm_m_readEnd hinj), (fun _ h => absurd h List.not_mem_nil)⟩)⟩)⟩)⟩)⟩)⟩)⟩)⟩)⟩) (fun as σ K h => by
  obtain ⟨A, e, p, rfl, hR, hp⟩ := h
  have hm := hR.1
  have mk := mg_kind hm.1
  rw [pr_lns_fin] at hp
  unfold pr_line at hp
  refine ⟨rfl, fun G hG => fs_m_readLine_0 hG ⟨0, e, p, rfl, by decide, hm.1, fs_m_readLine_5 hG ⟨fun q0 => ?_, fun q0 => ?_⟩⟩⟩
  · have n0 : ¬ tw e p = 0 := fw_bo_eq q0
    rw [if_neg n0] at hp
    refine ⟨1, e, p, rfl, by decide, hm.1, fs_m_readLine_21 hG ⟨fun q1 => ?_, fun q1 => ?_⟩⟩
    · have n1 : ¬ tw e p = 1 := fw_bo_eq q1
      rw [if_neg n1] at hp
      refine ⟨2, e, p, rfl, by decide, hm.1, fs_m_readLine_37 hG ⟨fun q2 => ?_, fun q2 => ?_⟩⟩
      · have n2 : ¬ tw e p = 2 := fw_bo_eq q2
        rw [if_neg n2] at hp
        refine ⟨3, e, p, rfl, by decide, hm.1, fs_m_readLine_53 hG ⟨fun q3 => ?_, fun q3 => ?_⟩⟩
        · have n3 : ¬ tw e p = 3 := fw_bo_eq q3
          rw [if_neg n3] at hp
          refine ⟨4, e, p, rfl, by decide, hm.1, fs_m_readLine_69 hG ⟨fun q4 => ?_, fun q4 => ?_⟩⟩
          · have n4 : ¬ tw e p = 4 := fw_bo_eq q4
            rw [if_neg n4] at hp
            refine ⟨5, e, p, rfl, by decide, hm.1, fs_m_readLine_85 hG ⟨fun q5 => ?_, fun q5 => ?_⟩⟩
            · have n5 : ¬ tw e p = 5 := fw_bo_eq q5
              rw [if_neg n5] at hp
              have hp2 := rl_post (K' := fun rv σ2 => G 100 [some (2, 93, 0), none] (rv.toList ++ []) σ2) hG (fun b σ' g => fs_m_readLine_100 hG g) hp
              refine ⟨1, rfl, by decide, mk.2.2.2.2, fun σ' hM h10 _ => hp2.1 (show ¬ (1 : Int) = 0 by decide) σ' (fw_okM_tr (fw_okM_refl _ _) hM (by decide)) ?_⟩
              rw [h10]
              split <;> rfl
            · have n5 : tw e p = 5 := fw_bo_ne q5
              rw [if_pos n5] at hp
              exact ⟨A, e, p, rfl, hR, tw_k (by omega), rl_post hG (fun b σ' g => fs_m_readLine_92 hG (fs_m_readLine_100 hG g)) hp⟩
          · have n4 : tw e p = 4 := fw_bo_ne q4
            rw [if_pos n4] at hp
            exact ⟨A, e, p, rfl, hR, rl_post hG (fun b σ' g => fs_m_readLine_76 hG g) hp⟩
        · have n3 : tw e p = 3 := fw_bo_ne q3
          rw [if_pos n3] at hp
          exact ⟨A, e, p, rfl, hR, rl_post hG (fun b σ' g => fs_m_readLine_60 hG g) hp⟩
      · have n2 : tw e p = 2 := fw_bo_ne q2
        rw [if_pos n2] at hp
        exact ⟨A, e, p, rfl, hR, tw_k (by omega), rl_post hG (fun b σ' g => fs_m_readLine_44 hG g) hp⟩
    · have n1 : tw e p = 1 := fw_bo_ne q1
      rw [if_pos n1] at hp
      exact ⟨A, e, p, rfl, hR, tw_k (by omega), rl_post hG (fun b σ' g => fs_m_readLine_28 hG g) hp⟩
  · have n0 : tw e p = 0 := fw_bo_ne q0
    rw [if_pos n0] at hp
    exact ⟨A, e, p, rfl, hR, tw_k (by omega), rl_post hG (fun b σ' g => fs_m_readLine_12 hG g) hp⟩)
end
