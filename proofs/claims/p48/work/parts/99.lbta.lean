/-! what was heard last -/
def hd_v (h : Bool) (t : Nat → Int) (w : Int) : Int := if h = true ∧ (0 ≤ w ∧ w ≤ 4) then t w.toNat else -1
def xs (k j : Nat) : Prop := (k = 72 ∧ j < 5) ∨ (k = 117 ∧ j < 5) ∨ (k = 69 ∧ j = 7)
def xs_b (M : ab_ML) : Bool := M.all (fun q => !(q.1.beq 72)) && M.all (fun q => !(q.1.beq 117)) && mk_b M 69 7
def xs_c (M : ab_ML) : Bool := M.all (fun q => !(q.1.beq 117))
def xs_m (M : ab_ML) : Bool := M.all (fun q => !(q.1.beq 72)) && mk_b M 69 7
theorem xs_ok {M : ab_ML} {σ σ' : ab_SG} (h : ab_okM M σ σ') (hk : xs_b M = true) {k j : Nat} (hs : xs k j) : σ' k j = σ k j := by
  unfold xs_b at hk
  rw [Bool.and_eq_true, Bool.and_eq_true] at hk
  rcases hs with ⟨rfl, -⟩ | ⟨rfl, -⟩ | ⟨rfl, rfl⟩
  · exact mk_row h hk.1.1 j
  · exact mk_row h hk.1.2 j
  · exact mk_at h hk.2
theorem xs_rg : (su_b 72 0 4 && su_b 117 0 4 && su_b 69 7 7) = true := by decide +kernel
theorem xs_cn {σ : ab_SG} (h : ab_okR nn_T σ) {k j : Nat} (hs : xs k j) : fw_c (σ k j) = σ k j := by
  have g := xs_rg
  rw [Bool.and_eq_true, Bool.and_eq_true] at g
  rcases hs with ⟨rfl, h1⟩ | ⟨rfl, h1⟩ | ⟨rfl, rfl⟩
  · exact su_b_ok g.1.1 h (Nat.zero_le j) (by omega)
  · exact su_b_ok g.1.2 h (Nat.zero_le j) (by omega)
  · exact su_b_ok g.2 h (Nat.le_refl 7) (Nat.le_refl 7)
theorem xv_of {cy : Nat → ClassId} {ad wr : Nat → Nat} {D : va_G} {σ σ' : ab_SG} {H : Heap} (hR : ab_okR nn_T σ) (h : va_P D vwCl (ab_WD cy ad wr nn_sh σ) H) (h' : va_P D vwCl (ab_WD cy ad wr nn_sh σ') H) : ∀ k j : Nat, xs k j → σ k j = fw_c (σ' k j) := by
  intro k j hs
  rw [← xs_cn hR hs]
  rcases hs with ⟨rfl, h1⟩ | ⟨rfl, h1⟩ | ⟨rfl, rfl⟩
  · exact wd_arr h h' (k := 72) (t := 0) (n := 5) rfl (by decide) h1
  · exact wd_arr h h' (k := 117) (t := 0) (n := 5) rfl (by decide) h1
  · exact wd_int h h' (k := 69) (j := 7) rfl rfl rfl (by decide)
def EX (σ : ab_SG) : Prop := (σ 69 7 = 1 ∧ ∀ w : Nat, w < 5 → σ 72 w = σ 117 w) ∨ (σ 69 7 = 0 ∧ ∀ w : Nat, w < 5 → σ 117 w = -1)
def RX (σ : ab_SG) : Prop := RQ σ ∧ EX σ
theorem EX_cg {σ σ' : ab_SG} (h : ∀ k j : Nat, xs k j → σ' k j = σ k j) (hE : EX σ) : EX σ' := by
  rcases hE with ⟨a, b⟩ | ⟨a, b⟩
  · exact Or.inl ⟨(h 69 7 (Or.inr (Or.inr ⟨rfl, rfl⟩))).trans a, fun w hw => by rw [h 72 w (Or.inl ⟨rfl, hw⟩), h 117 w (Or.inr (Or.inl ⟨rfl, hw⟩)), b w hw]⟩
  · exact Or.inr ⟨(h 69 7 (Or.inr (Or.inr ⟨rfl, rfl⟩))).trans a, fun w hw => by rw [h 117 w (Or.inr (Or.inl ⟨rfl, hw⟩)), b w hw]⟩
theorem EX_own {σ σ3 : ab_SG} (hE : EX σ) (h3 : ∀ w : Nat, w < 5 → σ3 117 w = σ 117 w) (w : Int) : hd_v (decide (fw_c (σ 69 7) ≠ 0)) (σ 72) w = hd_v true (σ3 117) w := by
  unfold hd_v
  by_cases hw : 0 ≤ w ∧ w ≤ 4
  · rw [if_pos (show true = true ∧ (0 ≤ w ∧ w ≤ 4) from ⟨rfl, hw⟩), h3 w.toNat (by omega)]
    rcases hE with ⟨a, b⟩ | ⟨a, b⟩
    · rw [a, fw_c1, if_pos ⟨by decide, hw⟩]
      exact b w.toNat (by omega)
    · rw [a, fw_c0, if_neg (fun y => absurd y.1 (by decide))]
      exact (b w.toNat (by omega)).symm
  · rw [if_neg (fun y => hw y.2), if_neg (fun y => hw y.2)]
theorem EX_ev {A : ab_SG} {σ σf σ3 σf2 σ5 : ab_SG} (hE : EX σ) (hn : ∀ k j : Nat, xs k j → fw_c (σ k j) = σ k j) (hn3 : ∀ k j : Nat, xs k j → fw_c (σ3 k j) = σ3 k j) (c : k_evening A σ σf) (x3 : ∀ k j : Nat, xs k j → σ3 k j = fw_c (σf k j)) (r : km_evening A (eo σ) σ3 σf2) (x5 : ∀ k j : Nat, xs k j → σ5 k j = fw_c (σf2 k j)) (f5 : ∀ w : Nat, σ5 72 w = σ3 72 w) (g5 : σ5 69 7 = σ3 69 7) : EX σ5 := by
  have s0 : xs 69 7 := Or.inr (Or.inr ⟨rfl, rfl⟩)
  have s1 : ∀ w : Nat, w < 5 → xs 72 w := fun w hw => Or.inl ⟨rfl, hw⟩
  have s2 : ∀ w : Nat, w < 5 → xs 117 w := fun w hw => Or.inr (Or.inl ⟨rfl, hw⟩)
  rcases c.2.2 with ⟨q, M, -⟩ | ⟨q, -, J, -, -, a7⟩
  · rcases r.2.2.2 with ⟨-, M2, -⟩ | ⟨q2, -⟩
    · have e3 : ∀ k j : Nat, xs k j → σ3 k j = σ k j := fun k j hs => by
        rw [x3 k j hs]
        rcases hs with ⟨rfl, h1⟩ | ⟨rfl, h1⟩ | ⟨rfl, rfl⟩
        · rw [mk_row M (k := 72) (by decide) j, hn 72 j (s1 j h1)]
        · rw [mk_row M (k := 117) (by decide) j, hn 117 j (s2 j h1)]
        · rw [mk_at M (k := 69) (j := 7) (by decide), hn 69 7 s0]
      have e5 : ∀ w : Nat, w < 5 → σ5 117 w = σ3 117 w := fun w hw => by
        rw [x5 117 w (s2 w hw), mk_row M2 (k := 117) (by decide) w, hn3 117 w (s2 w hw)]
      refine EX_cg (fun k j hs => ?_) hE
      rw [← e3 k j hs]
      rcases hs with ⟨rfl, h1⟩ | ⟨rfl, h1⟩ | ⟨rfl, rfl⟩
      · exact f5 j
      · exact e5 j h1
      · exact g5
    · exact absurd q2 q
  · rcases r.2.2.2 with ⟨q2, -⟩ | ⟨-, -, J2, -⟩
    · exact absurd q q2
    · refine Or.inl ⟨?_, fun w hw => ?_⟩
      · rw [g5, x3 69 7 s0, a7]
        exact fw_c1
      · rw [f5 w, x3 72 w (s1 w hw), x5 117 w (s2 w hw)]
        rcases (show w = 0 ∨ w = 1 ∨ w = 2 ∨ w = 3 ∨ w = 4 by omega) with rfl | rfl | rfl | rfl | rfl
        · rw [J.1, J2.1]
        · rw [J.2.1, J2.2.1]
        · rw [J.2.2.1, J2.2.2.1]
        · rw [J.2.2.2.1, J2.2.2.2.1]
        · rw [J.2.2.2.2, J2.2.2.2.2]
def sp_heard : fw_SP := fun as σ K => ∃ w : Int, as = [(2, 0, 0), (0, 0, w)] ∧ fw_c w = w ∧ K (some (0, 0, hd_v (decide (fw_c (σ 69 7) ≠ 0)) (σ 72) w)) σ
def sp_m_heard : fw_SP := fun as σ K => ∃ w : Int, as = [(2, 93, 0), (0, 0, w)] ∧ fw_c w = w ∧ K (some (0, 0, hd_v true (σ 117) w)) (ab_ups σ 93 0 0)
abbrev fk_heard : List fw_CR := []
abbrev st_heard : fw_K → fw_KR → fw_K := fw_st vwCl nn_sh nn_kd fw_kv fw_wc (nn_KI1.map (fun x => x.1)) (nn_KJ1.map (fun x => x.1)) (nn_PF1.map (fun x => x.1)) (nn_PS1.map (fun x => x.1)) fk_heard 0 nn_dt157 2 0
theorem fs_heard_0 {G : fw_K} {R : fw_KR} (hG : fw_cls st_heard R G) {w : Int} {σ : ab_SG} (h : (fw_c (σ 69 7) = 0 → R (some (0, 0, (-1))) σ) ∧ (fw_c (σ 69 7) ≠ 0 → (fw_c w < 0 → R (some (0, 0, (-1))) σ) ∧ (0 ≤ fw_c w → (fw_c ((5 : Nat) : Int) ≤ fw_c w → R (some (0, 0, (-1))) σ) ∧ (fw_c w < fw_c ((5 : Nat) : Int) → (0 ≤ fw_c w ∧ fw_c w < ((5 : Nat) : Int)) ∧ (R (some (0, 0, σ 72 (fw_c w).toNat)) σ))))) : G 0 [some (2, 0, 0), some (0, 0, w)] [] σ := fw_on hG [] 200 h
abbrev fk_m_heard : List fw_CR := [(171, 3, false, 0, 0, sp_m_isIn)]
abbrev st_m_heard : fw_K → fw_KR → fw_K := fw_st vwCl nn_sh nn_kd fw_kv fw_wc (nn_KI20.map (fun x => x.1)) (nn_KJ20.map (fun x => x.1)) (nn_PF20.map (fun x => x.1)) (nn_PS20.map (fun x => x.1)) fk_m_heard 1 nn_dt330 2 0
theorem fs_m_heard_0 {G : fw_K} {R : fw_KR} (hG : fw_cls st_m_heard R G) {w : Int} {σ : ab_SG} (h : sp_m_isIn [(0, 0, w), (0, 0, 0), (0, 0, 4)] (ab_ups σ 93 0 (fw_c 0)) (fun rv σ2 => G 11 [some (2, 93, 0), some (0, 0, w)] (rv.toList ++ []) σ2)) : G 0 [some (2, 93, 0), some (0, 0, w)] [] σ := fw_on hG [11] 200 h
theorem fs_m_heard_11 {G : fw_K} {R : fw_KR} (hG : fw_cls st_m_heard R G) {a1 b0 : Int} {σ : ab_SG} (h : (fw_c b0 = 0 → R (some (0, 0, (-1))) σ) ∧ (fw_c b0 ≠ 0 → (0 ≤ fw_c a1 ∧ fw_c a1 < ((5 : Nat) : Int)) ∧ (R (some (0, 0, σ 117 (fw_c a1).toNat)) σ))) : G 11 [some (2, 93, 0), some (0, 0, a1)] [(0, 0, b0)] σ := fw_on hG [11] 200 h
section
variable {l : Launch} {cy : Nat → ClassId} {ad wr cr : Nat → Nat} {D : va_G}
theorem fm_heard (hinj : nn_inj ad) : fw_H l cy ad wr cr D 157 0 sp_heard := fw_mk hinj (⟨"NameNotes", "heard", "(I)I"⟩, prog_1_method_48_code, 2, (Option.some Jvm.ClassFile.FieldType.int), 1, true, 0) rfl rfl nn_KI1_ok nn_KJ1_ok nn_PF1_ok nn_PS1_ok (by decide +kernel) rfl rfl (fun _ h => absurd h List.not_mem_nil) (fun as σ K h => by
  obtain ⟨w, rfl, ew, h⟩ := h
  unfold hd_v at h
  refine ⟨rfl, fun G hG => fs_heard_0 hG ?_⟩
  rw [ew]
  have c5 : fw_c ((5 : Nat) : Int) = 5 := fw_s (by decide) (by decide)
  rw [c5]
  refine ⟨fun z => ?_, fun z => ⟨fun y => ?_, fun y => ⟨fun x => ?_, fun x => ⟨⟨y, x⟩, ?_⟩⟩⟩⟩
  · rw [if_neg (show ¬ (decide (fw_c (σ 69 7) ≠ 0) = true ∧ (0 ≤ w ∧ w ≤ 4)) from fun u => absurd z (of_decide_eq_true u.1))] at h
    exact h
  · rw [if_neg (fun u => by omega)] at h
    exact h
  · rw [if_neg (fun u => by omega)] at h
    exact h
  · rw [if_pos ⟨decide_eq_true z, by omega⟩] at h
    exact h)
theorem fm_m_heard (hinj : nn_inj ad) : fw_H l cy ad wr cr D 330 1 sp_m_heard := fw_mk hinj (⟨"NameNotesModel", "heard", "(I)I"⟩, prog_14_method_128_code, 2, (Option.some Jvm.ClassFile.FieldType.int), 1, true, 0) rfl rfl nn_KI20_ok nn_KJ20_ok nn_PF20_ok nn_PS20_ok (by decide +kernel) rfl rfl (List.forall_mem_cons.mpr ⟨fw_row nn_PM20_ok (x := 171) (k := 0) (mn := 226) (np := 3) (ob := false) (ci := 0) (⟨"NameNotesModel", "isIn", "(III)Z"⟩, prog_14_method_8_code, 3, (Option.some Jvm.ClassFile.FieldType.boolean), 3, false, 1) rfl (by decide +kernel) rfl rfl (by decide) (fun q => by cases q) (fm_m_isIn hinj), (fun _ h => absurd h List.not_mem_nil)⟩) (fun as σ K h => by
  obtain ⟨w, rfl, ew, h⟩ := h
  have c4 : fw_c 4 = 4 := fw_s (by decide) (by decide)
  have e117 : (ab_ups σ 93 0 0) 117 = σ 117 := funext fun j => ab_ups_ne (fun z => absurd z.1 (by decide))
  unfold hd_v at h
  refine ⟨rfl, fun G hG => fs_m_heard_0 hG ⟨_, _, _, rfl, fs_m_heard_11 hG ⟨fun y => ?_, fun y => ?_⟩⟩⟩
  · have y := fw_bo_eq y
    rw [ew, fw_c0, c4] at y
    rw [if_neg (fun z => y z.2)] at h
    rw [fw_c0]
    exact h
  · have y := fw_bo_ne y
    rw [ew, fw_c0, c4] at y
    rw [if_pos ⟨rfl, y⟩] at h
    rw [ew, fw_c0, e117]
    exact ⟨⟨by omega, by show w < (5 : Int); omega⟩, h⟩)
end
