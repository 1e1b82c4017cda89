section
/-! turn after turn -/
/-- a list that leaves what the relation speaks of, but for the tapes' sizes and the counts' row -/
def sx_b (M : ab_ML) : Bool := M.all (fun q => !(q.1.beq 2) && !(q.1.beq 94) && !(q.1.beq 97) && !(q.1.beq 102)) && (mk_b M 3 11 && mk_b M 3 12 && mk_b M 3 13 && mk_b M 3 14) && (mk_b M 18 11 && mk_b M 18 12 && mk_b M 18 13 && mk_b M 18 14 && mk_b M 18 16) && (mk_b M 33 11 && mk_b M 33 12 && mk_b M 33 13 && mk_b M 33 14 && mk_b M 33 16)
theorem sx_ok {M : ab_ML} {σ σ' : ab_SG} (h : ab_okM M σ σ') (hk : sx_b M = true) {k j : Nat} (hs : su k j) (h1 : k ≠ 1) (h9 : k ≠ 93) (h5 : k ≠ 95) : σ' k j = σ k j := by
  unfold sx_b at hk
  simp only [Bool.and_eq_true] at hk
  obtain ⟨⟨⟨a0, ⟨⟨a1, a2⟩, a3⟩, a4⟩, ⟨⟨⟨b1, b2⟩, b3⟩, b4⟩, b5⟩, ⟨⟨⟨c1, c2⟩, c3⟩, c4⟩, c5⟩ := hk
  have row : ∀ k : Nat, (k = 2 ∨ k = 94 ∨ k = 97 ∨ k = 102) → M.all (fun q => !(q.1.beq k)) = true := fun k hk => by
    refine List.all_eq_true.mpr (fun q hq => ?_)
    have g := List.all_eq_true.mp a0 q hq
    rw [Bool.and_eq_true, Bool.and_eq_true, Bool.and_eq_true] at g
    rcases hk with rfl | rfl | rfl | rfl
    · exact g.1.1.1
    · exact g.1.1.2
    · exact g.1.2
    · exact g.2
  rcases hs with ⟨rfl, -⟩ | ⟨rfl, -⟩ | ⟨rfl, -⟩ | ⟨rfl, -⟩ | ⟨rfl, -⟩ | ⟨rfl, -⟩ | ⟨rfl, g1, g2⟩ | ⟨rfl, g⟩ | ⟨rfl, g⟩ | ⟨rfl, -⟩
  · exact mk_row h (row 2 (by decide)) j
  · exact mk_row h (row 94 (by decide)) j
  · exact absurd rfl h5
  · exact mk_row h (row 97 (by decide)) j
  · exact mk_row h (row 102 (by decide)) j
  · exact absurd rfl h1
  · rcases (show j = 11 ∨ j = 12 ∨ j = 13 ∨ j = 14 by omega) with rfl | rfl | rfl | rfl
    · exact mk_at h a1
    · exact mk_at h a2
    · exact mk_at h a3
    · exact mk_at h a4
  · rcases (show j = 11 ∨ j = 12 ∨ j = 13 ∨ j = 14 ∨ j = 16 by omega) with rfl | rfl | rfl | rfl | rfl
    · exact mk_at h b1
    · exact mk_at h b2
    · exact mk_at h b3
    · exact mk_at h b4
    · exact mk_at h b5
  · rcases (show j = 11 ∨ j = 12 ∨ j = 13 ∨ j = 14 ∨ j = 16 by omega) with rfl | rfl | rfl | rfl | rfl
    · exact mk_at h c1
    · exact mk_at h c2
    · exact mk_at h c3
    · exact mk_at h c4
    · exact mk_at h c5
  · exact absurd rfl h9
def lw_E_X : ab_AS := (lw_X.2.1.1, lw_X.2.1.2.1, lw_X.2.1.2.2.1, lw_X.2.1.2.2.2.1, lw_X.2.1.2.2.2.2.1, [])
def lw_h_X : ab_BD × ab_TH := (ab_hit0 nn_T 2 lw_E_X lw_S).getD ([], [])
theorem lw_h_X_ok : ab_hit0 nn_T 2 lw_E_X lw_S = some (lw_h_X.1, lw_h_X.2) := nq_someD (d := ([], [])) (by decide +kernel)
theorem lw_t1_X : lw_h_X.2[1]? = some (1, 0) := by decide +kernel
theorem lw_t2_X : lw_h_X.2[2]? = some (10, 0) := by decide +kernel
theorem lw_n_X {cy : Nat → ClassId} {ad wr cr : Nat → Nat} {D : va_G} {A : Nat → Prop} {H0 : Heap} {ρb ρ2 : Nat → Int} {σb σ2 : ab_SG} {H : Heap} {locs : List Loc} {ls : Array Slot} {st : List Value} (hG : ab_Gm cy ad wr cr D vwCl nn_sh nn_T nn_C 8 10 ρb σb A H0 lw_X.2.1 ρ2 σ2 H locs ls st) : ∃ ρ3 : Nat → Int, ρ3 1 = ρ2 1 ∧ ρ3 2 = ρ2 10 ∧ ab_Gm cy ad wr cr D vwCl nn_sh nn_T nn_C 8 10 ρ3 σ2 A H0 lw_S.2.1 ρ3 σ2 H locs ls st := by
  obtain ⟨q1, q2, q3, q4, q5, q6, q7⟩ := hG
  have hG3 : ab_Gm cy ad wr cr D vwCl nn_sh nn_T nn_C 8 2 ρ2 σ2 A H0 lw_E_X ρ2 σ2 H locs ls st := ⟨ab_K_start q1, fun _ _ => rfl, by decide +kernel, q4, q5, q6, q7⟩
  obtain ⟨ρ1, k1, k2, k3, k4, k5, k6⟩ := ab_hit0_ok lw_h_X_ok hG3
  obtain ⟨z1, z2, z3, z4, z5, z6, z7⟩ := k6
  refine ⟨ab_thv lw_h_X.2 ρ1, ?_, ?_, ⟨z1, fun _ _ => rfl, by decide +kernel, z4, z5, z6, z7⟩⟩
  · unfold ab_thv
    rw [lw_t1_X]
    show ρ1 1 + 0 = _
    rw [Int.add_zero, k2 1 (by decide +kernel)]
  · unfold ab_thv
    rw [lw_t2_X]
    show ρ1 10 + 0 = _
    rw [Int.add_zero, k2 10 (by decide +kernel)]
theorem lw_s_X : sx_b lw_X.2.1.2.2.2.2.2 = true := by decide +kernel
theorem lw_y_X : (rx_c lw_X.2.1.2.2.2.2.2 && sy_b lw_X.2.1.2.2.2.2.2) = true := by decide +kernel
theorem lw_o_X : lw_X.2.1.2.2.2.2.2.all (fun q => !(q.1.beq 140)) = true := by decide +kernel
def lw_E_L1 : ab_AS := (lw_L1.2.1.1, lw_L1.2.1.2.1, lw_L1.2.1.2.2.1, lw_L1.2.1.2.2.2.1, lw_L1.2.1.2.2.2.2.1, [])
def lw_h_L1 : ab_BD × ab_TH := (ab_hit0 nn_T 2 lw_E_L1 lw_S).getD ([], [])
theorem lw_h_L1_ok : ab_hit0 nn_T 2 lw_E_L1 lw_S = some (lw_h_L1.1, lw_h_L1.2) := nq_someD (d := ([], [])) (by decide +kernel)
theorem lw_t1_L1 : lw_h_L1.2[1]? = some (1, 0) := by decide +kernel
theorem lw_t2_L1 : lw_h_L1.2[2]? = some (10, 0) := by decide +kernel
theorem lw_n_L1 {cy : Nat → ClassId} {ad wr cr : Nat → Nat} {D : va_G} {A : Nat → Prop} {H0 : Heap} {ρb ρ2 : Nat → Int} {σb σ2 : ab_SG} {H : Heap} {locs : List Loc} {ls : Array Slot} {st : List Value} (hG : ab_Gm cy ad wr cr D vwCl nn_sh nn_T nn_C 8 10 ρb σb A H0 lw_L1.2.1 ρ2 σ2 H locs ls st) : ∃ ρ3 : Nat → Int, ρ3 1 = ρ2 1 ∧ ρ3 2 = ρ2 10 ∧ ab_Gm cy ad wr cr D vwCl nn_sh nn_T nn_C 8 10 ρ3 σ2 A H0 lw_S.2.1 ρ3 σ2 H locs ls st := by
  obtain ⟨q1, q2, q3, q4, q5, q6, q7⟩ := hG
  have hG3 : ab_Gm cy ad wr cr D vwCl nn_sh nn_T nn_C 8 2 ρ2 σ2 A H0 lw_E_L1 ρ2 σ2 H locs ls st := ⟨ab_K_start q1, fun _ _ => rfl, by decide +kernel, q4, q5, q6, q7⟩
  obtain ⟨ρ1, k1, k2, k3, k4, k5, k6⟩ := ab_hit0_ok lw_h_L1_ok hG3
  obtain ⟨z1, z2, z3, z4, z5, z6, z7⟩ := k6
  refine ⟨ab_thv lw_h_L1.2 ρ1, ?_, ?_, ⟨z1, fun _ _ => rfl, by decide +kernel, z4, z5, z6, z7⟩⟩
  · unfold ab_thv
    rw [lw_t1_L1]
    show ρ1 1 + 0 = _
    rw [Int.add_zero, k2 1 (by decide +kernel)]
  · unfold ab_thv
    rw [lw_t2_L1]
    show ρ1 10 + 0 = _
    rw [Int.add_zero, k2 10 (by decide +kernel)]
theorem lw_s_L1 : sx_b lw_L1.2.1.2.2.2.2.2 = true := by decide +kernel
theorem lw_y_L1 : (rx_c lw_L1.2.1.2.2.2.2.2 && sy_b lw_L1.2.1.2.2.2.2.2) = true := by decide +kernel
theorem lw_o_L1 : lw_L1.2.1.2.2.2.2.2.all (fun q => !(q.1.beq 140)) = true := by decide +kernel
def lw_E_L0 : ab_AS := (lw_L0.2.1.1, lw_L0.2.1.2.1, lw_L0.2.1.2.2.1, lw_L0.2.1.2.2.2.1, lw_L0.2.1.2.2.2.2.1, [])
def lw_h_L0 : ab_BD × ab_TH := (ab_hit0 nn_T 2 lw_E_L0 lw_S).getD ([], [])
theorem lw_h_L0_ok : ab_hit0 nn_T 2 lw_E_L0 lw_S = some (lw_h_L0.1, lw_h_L0.2) := nq_someD (d := ([], [])) (by decide +kernel)
theorem lw_t1_L0 : lw_h_L0.2[1]? = some (1, 0) := by decide +kernel
theorem lw_t2_L0 : lw_h_L0.2[2]? = some (10, 0) := by decide +kernel
theorem lw_n_L0 {cy : Nat → ClassId} {ad wr cr : Nat → Nat} {D : va_G} {A : Nat → Prop} {H0 : Heap} {ρb ρ2 : Nat → Int} {σb σ2 : ab_SG} {H : Heap} {locs : List Loc} {ls : Array Slot} {st : List Value} (hG : ab_Gm cy ad wr cr D vwCl nn_sh nn_T nn_C 8 10 ρb σb A H0 lw_L0.2.1 ρ2 σ2 H locs ls st) : ∃ ρ3 : Nat → Int, ρ3 1 = ρ2 1 ∧ ρ3 2 = ρ2 10 ∧ ab_Gm cy ad wr cr D vwCl nn_sh nn_T nn_C 8 10 ρ3 σ2 A H0 lw_S.2.1 ρ3 σ2 H locs ls st := by
  obtain ⟨q1, q2, q3, q4, q5, q6, q7⟩ := hG
  have hG3 : ab_Gm cy ad wr cr D vwCl nn_sh nn_T nn_C 8 2 ρ2 σ2 A H0 lw_E_L0 ρ2 σ2 H locs ls st := ⟨ab_K_start q1, fun _ _ => rfl, by decide +kernel, q4, q5, q6, q7⟩
  obtain ⟨ρ1, k1, k2, k3, k4, k5, k6⟩ := ab_hit0_ok lw_h_L0_ok hG3
  obtain ⟨z1, z2, z3, z4, z5, z6, z7⟩ := k6
  refine ⟨ab_thv lw_h_L0.2 ρ1, ?_, ?_, ⟨z1, fun _ _ => rfl, by decide +kernel, z4, z5, z6, z7⟩⟩
  · unfold ab_thv
    rw [lw_t1_L0]
    show ρ1 1 + 0 = _
    rw [Int.add_zero, k2 1 (by decide +kernel)]
  · unfold ab_thv
    rw [lw_t2_L0]
    show ρ1 10 + 0 = _
    rw [Int.add_zero, k2 10 (by decide +kernel)]
theorem lw_s_L0 : sx_b lw_L0.2.1.2.2.2.2.2 = true := by decide +kernel
theorem lw_y_L0 : (rx_c lw_L0.2.1.2.2.2.2.2 && sy_b lw_L0.2.1.2.2.2.2.2) = true := by decide +kernel
theorem lw_o_L0 : lw_L0.2.1.2.2.2.2.2.all (fun q => !(q.1.beq 140)) = true := by decide +kernel
theorem lw_m_X : (mk_b lw_X.2.1.2.2.2.2.2 1 1 && mk_b lw_X.2.1.2.2.2.2.2 93 2 && mk_b lw_X.2.1.2.2.2.2.2 93 22) = true := by decide +kernel
theorem lw_r9_X {cy : Nat → ClassId} {ad wr cr : Nat → Nat} {D : va_G} {A : Nat → Prop} {H0 : Heap} {ρb ρ2 : Nat → Int} {σb σ2 : ab_SG} {H : Heap} {locs : List Loc} {ls : Array Slot} {st : List Value} (hG : ab_Gm cy ad wr cr D vwCl nn_sh nn_T nn_C 8 10 ρb σb A H0 lw_X.2.1 ρ2 σ2 H locs ls st) (h95 : ∀ j : Nat, j < 4 → σb 95 j = ρb (6 + j)) (hR : RQ9 σb) : RQ9 σ2 := by
  have hM := hG.1.2.2.2.2.2.2.2
  have hm := lw_m_X
  rw [Bool.and_eq_true, Bool.and_eq_true] at hm
  refine RQ9_keep (fun k j hs h23 => ?_) hR
  by_cases e1 : k = 1
  · subst e1
    have h3 : j = 1 := by
      unfold su at hs
      omega
    subst h3
    exact mk_at hM hm.1.1
  by_cases e2 : k = 93
  · subst e2
    have h3 : j = 2 ∨ j = 22 := by
      unfold su at hs
      omega
    rcases h3 with rfl | rfl
    · exact mk_at hM hm.1.2
    · exact mk_at hM hm.2
  by_cases e3 : k = 95
  · subst e3
    have h3 : j = 0 ∨ j = 1 ∨ j = 2 ∨ j = 3 := by
      unfold su at hs
      omega
    rw [h95 j (by omega)]
    rcases h3 with rfl | rfl | rfl | rfl
    · have h := lw_d hG.1.2.2.2.2.1 (k := 95) (j := 0) (s := 6) (c := 0) (by decide +kernel) rfl
      rw [Int.add_zero, hG.2.1 6 (by decide)] at h
      exact h
    · have h := lw_d hG.1.2.2.2.2.1 (k := 95) (j := 1) (s := 7) (c := 0) (by decide +kernel) rfl
      rw [Int.add_zero, hG.2.1 7 (by decide)] at h
      exact h
    · have h := lw_d hG.1.2.2.2.2.1 (k := 95) (j := 2) (s := 8) (c := 0) (by decide +kernel) rfl
      rw [Int.add_zero, hG.2.1 8 (by decide)] at h
      exact h
    · have h := lw_d hG.1.2.2.2.2.1 (k := 95) (j := 3) (s := 9) (c := 0) (by decide +kernel) rfl
      rw [Int.add_zero, hG.2.1 9 (by decide)] at h
      exact h
  · exact sx_ok hM lw_s_X hs e1 e2 e3
theorem lw_r_X {cy : Nat → ClassId} {ad wr cr : Nat → Nat} {D : va_G} {A : Nat → Prop} {H0 : Heap} {ρb ρ2 : Nat → Int} {σb σ2 : ab_SG} {H : Heap} {locs : List Loc} {ls : Array Slot} {st : List Value} (hG : ab_Gm cy ad wr cr D vwCl nn_sh nn_T nn_C 8 10 ρb σb A H0 lw_X.2.1 ρ2 σ2 H locs ls st) (h95 : ∀ j : Nat, j < 4 → σb 95 j = ρb (6 + j)) (hR : RQ σb) : RQ σ2 := by
  have hM := hG.1.2.2.2.2.2.2.2
  have hm := lw_m_X
  have hy := lw_y_X
  rw [Bool.and_eq_true] at hy
  rw [Bool.and_eq_true, Bool.and_eq_true] at hm
  have e3 : σ2 95 3 = σb 95 3 := by
    have h := lw_d hG.1.2.2.2.2.1 (k := 95) (j := 3) (s := 9) (c := 0) (by decide +kernel) rfl
    rw [Int.add_zero, hG.2.1 9 (by decide)] at h
    rw [h, h95 3 (by decide)]
  have e95 : ∀ j : Nat, j < 232 → σ2 95 j = σb 95 j := fun j hj => by
    by_cases h : j = 3
    · rw [h]
      exact e3
    · exact mk_95b hM hy.2 hj h
  exact ⟨lw_r9_X hG h95 hR.1, rx_one hM hy.1 (fun j hj => mlN_same (mk_at hM hm.2) e95 j hj) (fun j _ hj => e95 j hj) hR.2⟩
theorem lw_r_L1 {cy : Nat → ClassId} {ad wr cr : Nat → Nat} {D : va_G} {A : Nat → Prop} {H0 : Heap} {ρb ρ2 : Nat → Int} {σb σ2 : ab_SG} {H : Heap} {locs : List Loc} {ls : Array Slot} {st : List Value} (hG : ab_Gm cy ad wr cr D vwCl nn_sh nn_T nn_C 8 10 ρb σb A H0 lw_L1.2.1 ρ2 σ2 H locs ls st) (h95 : ∀ j : Nat, j < 4 → σb 95 j = ρb (6 + j)) (h22 : σb 93 22 = ρb 5) (hR : RQ σb) : RQ σ2 := by
  have hM := hG.1.2.2.2.2.2.2.2
  have z0 : ρ2 0 = 0 := hG.1.2.2.1
  have b5 : (1 : Int) ≤ ρ2 5 ∧ ρ2 5 ≤ 1 := hG.1.1 5 (by decide)
  have r5 : ρ2 5 = ρb 5 := hG.2.1 5 (by decide)
  have d1 : σ2 1 1 = 0 := by
    have h := lw_d hG.1.2.2.2.2.1 (k := 1) (j := 1) (s := 0) (c := 0) (by decide +kernel) rfl
    rw [z0] at h
    exact h
  have d2 : σ2 93 2 = 0 := by
    have h := lw_d hG.1.2.2.2.2.1 (k := 93) (j := 2) (s := 0) (c := 0) (by decide +kernel) rfl
    rw [z0] at h
    exact h
  have d3 : σ2 93 22 = 1 := by
    have h := lw_d hG.1.2.2.2.2.1 (k := 93) (j := 22) (s := 0) (c := 1) (by decide +kernel) rfl
    rw [z0] at h
    exact h
  have c0 : σ2 95 0 = σb 95 0 := by
    have h := lw_d hG.1.2.2.2.2.1 (k := 95) (j := 0) (s := 6) (c := 0) (by decide +kernel) rfl
    rw [Int.add_zero, hG.2.1 6 (by decide)] at h
    rw [h, h95 0 (by decide)]
  have c1 : σ2 95 1 = σb 95 1 := by
    have h := lw_d hG.1.2.2.2.2.1 (k := 95) (j := 1) (s := 7) (c := 0) (by decide +kernel) rfl
    rw [Int.add_zero, hG.2.1 7 (by decide)] at h
    rw [h, h95 1 (by decide)]
  have c2 : σ2 95 2 = σb 95 2 := by
    have h := lw_d hG.1.2.2.2.2.1 (k := 95) (j := 2) (s := 8) (c := 0) (by decide +kernel) rfl
    rw [Int.add_zero, hG.2.1 8 (by decide)] at h
    rw [h, h95 2 (by decide)]
  have c3 : σ2 95 3 = σb 95 3 := by
    have h := lw_d hG.1.2.2.2.2.1 (k := 95) (j := 3) (s := 9) (c := 0) (by decide +kernel) rfl
    rw [Int.add_zero, hG.2.1 9 (by decide)] at h
    rw [h, h95 3 (by decide)]
  have hl : ly_is σb σ2 := ⟨d3, fun h => absurd (h22.symm.trans h) (by omega), fun h => c3⟩
  have hy := lw_y_L1
  rw [Bool.and_eq_true] at hy
  have e95 : ∀ j : Nat, j < 232 → j ≠ 3 → σ2 95 j = σb 95 j := fun j hj h => mk_95b hM hy.2 hj h
  refine ⟨RQ9_lay (fun k j hs e1 e2 e3 => ?_) d1 d2 hl hR.1, rx_one hM hy.1 (fun j hj => mlN_ly hl e95 j hj) (fun j a hj => e95 j hj (by omega)) hR.2⟩
  by_cases e4 : k = 95
  · subst e4
    have h3 : j = 0 ∨ j = 1 ∨ j = 2 := by
      have : ¬ j = 3 := fun h => e3 ⟨rfl, h⟩
      unfold su at hs
      omega
    rcases h3 with rfl | rfl | rfl
    · exact c0
    · exact c1
    · exact c2
  · exact sx_ok hM lw_s_L1 hs e1 e2 e4
theorem lw_r_L0 {cy : Nat → ClassId} {ad wr cr : Nat → Nat} {D : va_G} {A : Nat → Prop} {H0 : Heap} {ρb ρ2 : Nat → Int} {σb σ2 : ab_SG} {H : Heap} {locs : List Loc} {ls : Array Slot} {st : List Value} (hG : ab_Gm cy ad wr cr D vwCl nn_sh nn_T nn_C 8 10 ρb σb A H0 lw_L0.2.1 ρ2 σ2 H locs ls st) (h95 : ∀ j : Nat, j < 4 → σb 95 j = ρb (6 + j)) (h22 : σb 93 22 = ρb 5) (hR : RQ σb) : RQ σ2 := by
  have hM := hG.1.2.2.2.2.2.2.2
  have z0 : ρ2 0 = 0 := hG.1.2.2.1
  have b5 : (0 : Int) ≤ ρ2 5 ∧ ρ2 5 ≤ 0 := hG.1.1 5 (by decide)
  have r5 : ρ2 5 = ρb 5 := hG.2.1 5 (by decide)
  have d1 : σ2 1 1 = 0 := by
    have h := lw_d hG.1.2.2.2.2.1 (k := 1) (j := 1) (s := 0) (c := 0) (by decide +kernel) rfl
    rw [z0] at h
    exact h
  have d2 : σ2 93 2 = 0 := by
    have h := lw_d hG.1.2.2.2.2.1 (k := 93) (j := 2) (s := 0) (c := 0) (by decide +kernel) rfl
    rw [z0] at h
    exact h
  have d3 : σ2 93 22 = 1 := by
    have h := lw_d hG.1.2.2.2.2.1 (k := 93) (j := 22) (s := 0) (c := 1) (by decide +kernel) rfl
    rw [z0] at h
    exact h
  have c0 : σ2 95 0 = σb 95 0 := by
    have h := lw_d hG.1.2.2.2.2.1 (k := 95) (j := 0) (s := 6) (c := 0) (by decide +kernel) rfl
    rw [Int.add_zero, hG.2.1 6 (by decide)] at h
    rw [h, h95 0 (by decide)]
  have c1 : σ2 95 1 = σb 95 1 := by
    have h := lw_d hG.1.2.2.2.2.1 (k := 95) (j := 1) (s := 7) (c := 0) (by decide +kernel) rfl
    rw [Int.add_zero, hG.2.1 7 (by decide)] at h
    rw [h, h95 1 (by decide)]
  have c2 : σ2 95 2 = σb 95 2 := by
    have h := lw_d hG.1.2.2.2.2.1 (k := 95) (j := 2) (s := 8) (c := 0) (by decide +kernel) rfl
    rw [Int.add_zero, hG.2.1 8 (by decide)] at h
    rw [h, h95 2 (by decide)]
  have c3 : σ2 95 3 = 9 := by
    have h := lw_d hG.1.2.2.2.2.1 (k := 95) (j := 3) (s := 0) (c := 9) (by decide +kernel) rfl
    rw [z0] at h
    exact h
  have hl : ly_is σb σ2 := ⟨d3, fun h => c3, fun h => absurd (by omega) h⟩
  have hy := lw_y_L0
  rw [Bool.and_eq_true] at hy
  have e95 : ∀ j : Nat, j < 232 → j ≠ 3 → σ2 95 j = σb 95 j := fun j hj h => mk_95b hM hy.2 hj h
  refine ⟨RQ9_lay (fun k j hs e1 e2 e3 => ?_) d1 d2 hl hR.1, rx_one hM hy.1 (fun j hj => mlN_ly hl e95 j hj) (fun j a hj => e95 j hj (by omega)) hR.2⟩
  by_cases e4 : k = 95
  · subst e4
    have h3 : j = 0 ∨ j = 1 ∨ j = 2 := by
      have : ¬ j = 3 := fun h => e3 ⟨rfl, h⟩
      unfold su at hs
      omega
    rcases h3 with rfl | rfl | rfl
    · exact c0
    · exact c1
    · exact c2
  · exact sx_ok hM lw_s_L0 hs e1 e2 e4
set_option maxHeartbeats 8000000 in
theorem lw_turns {p : Program} {e : Env} {s : State} {m : MethodId} {below : List Frame} {meth : Method} {c : Code} {l : Launch} {b L : Nat} {xs : Nat → Int32} {cy : Nat → ClassId} {ad wr cr av : Nat → Nat} {D : va_G} (htr : l.stackTraces = false) (C0 : lw_At p s m meth c b L xs) (hinj : nn_inj ad) (hcr : cr 999 = b) (hAd : ∀ k, k < nn_sh.length → s.heap.size ≤ ad k) (hKK : va_K D vwCl (ab_tys cy) s) (hN : ab_okN nn_NW s) (hF : fw_CB cy ad wr cr nn_kd fw_kv fw_wc (fun q : Nat => s.heap.size ≤ q) s) (hZ : nx_Z (fun q : Nat => s.heap.size ≤ q) s) (hY : nt_Z cr av (fun q : Nat => s.heap.size ≤ q) s) (hplay : np_H l cy ad wr cr av D (108, 12, npd_play)) :
    ∀ (n : Nat) (cells slots : Nat) (ρ : Nat → Int) (σ : ab_SG) (H : Heap) (locs : List Loc) (ls : Array Slot) (st : List Value), 3584 - ρ 2 < (n : Int) → cells + n ≤ 601024 → slots + 6 * n ≤ 7293034 → ρ 1 = (L : Int) → (∀ j : Nat, j < L → σ 140 j = (xs j).toInt) → RQ σ → ab_Gm cy ad wr cr D vwCl nn_sh nn_T nn_C 8 10 ρ σ (fun q : Nat => s.heap.size ≤ q) s.heap lw_S.2.1 ρ σ H locs ls st → W p l e room_1 s m #[Value.ref b] below meth c H locs cells slots (lw_Z below #[Value.ref b] s) (F0 m 23 ls st) := by
  have C1 := C0
  obtain ⟨hx, hb, hr, hml, hown, hts, hX, hbl, hlocks, hgv⟩ := C0
  have hown2 : s.vm.findClass "NameNotesLaw" = some m.cls := hown
  have hTT : ∀ w ∈ nn_TT, w ∈ lw_tbl := fun w hw => (List.mem_filter.mp hw).1
  intro n
  induction n with
  | zero =>
    intro cells slots ρ σ H locs ls st h1 _ _ _ _ _ hG
    have h9 : (0 : Int) ≤ ρ 2 ∧ ρ 2 ≤ 3584 := hG.1.1 2 (by decide)
    omega
  | succ n ih =>
    intro cells slots ρ σ H locs ls st h1 h2 h3 h4 h5 hR hG
    have d95 : ∀ j : Nat, j < 4 → σ 95 j = ρ (6 + j) := by
      intro j hj
      rcases (show j = 0 ∨ j = 1 ∨ j = 2 ∨ j = 3 by omega) with rfl | rfl | rfl | rfl
      · have h := lw_d hG.1.2.2.2.2.1 (k := 95) (j := 0) (s := 6) (c := 0) (by decide +kernel) rfl
        rw [Int.add_zero] at h
        exact h
      · have h := lw_d hG.1.2.2.2.2.1 (k := 95) (j := 1) (s := 7) (c := 0) (by decide +kernel) rfl
        rw [Int.add_zero] at h
        exact h
      · have h := lw_d hG.1.2.2.2.2.1 (k := 95) (j := 2) (s := 8) (c := 0) (by decide +kernel) rfl
        rw [Int.add_zero] at h
        exact h
      · have h := lw_d hG.1.2.2.2.2.1 (k := 95) (j := 3) (s := 9) (c := 0) (by decide +kernel) rfl
        rw [Int.add_zero] at h
        exact h
    have d22 : σ 93 22 = ρ 5 := by
      have h := lw_d hG.1.2.2.2.2.1 (k := 93) (j := 22) (s := 5) (c := 0) (by decide +kernel) rfl
      rw [Int.add_zero] at h
      exact h
    have hgo : ∀ c2 s2 : Nat, c2 ≤ cells + 1 → s2 ≤ slots + 6 → ∀ (ρ2 ρ3 : Nat → Int) (σ2 : ab_SG) (H : Heap) (locs : List Loc) (ls : Array Slot) (st : List Value), ρ2 2 = ρ 2 → ρ2 1 = ρ 1 → ρ2 2 - ρ2 10 ≤ -1 → ρ3 1 = ρ2 1 → ρ3 2 = ρ2 10 → (∀ j : Nat, j < L → σ2 140 j = (xs j).toInt) → RQ σ2 → ab_Gm cy ad wr cr D vwCl nn_sh nn_T nn_C 8 10 ρ3 σ2 (fun q : Nat => s.heap.size ≤ q) s.heap lw_S.2.1 ρ3 σ2 H locs ls st → W p l e room_1 s m #[Value.ref b] below meth c H locs c2 s2 (lw_Z below #[Value.ref b] s) (F0 m 23 ls st) := by
      intro c2 s2 g1 g2 ρ2 ρ3 σ2 H locs ls st r2 r1 f1 e1 e2 h14 hR2 hG3
      exact ih c2 s2 ρ3 σ2 H locs ls st (by rw [e2]; omega) (by omega) (by omega) (by rw [e1, r1]; exact h4) h14 hR2 hG3
    have hhead : ∀ c2 s2 : Nat, c2 ≤ cells + 1 → s2 ≤ slots + 6 → ∀ (ρb : Nat → Int) (σb : ab_SG), ρb 1 = ρ 1 → ρb 2 = ρ 2 → (∀ j : Nat, j < L → σb 140 j = (xs j).toInt) → RQ σb → (∀ j : Nat, j < 4 → σb 95 j = ρb (6 + j)) → ∀ (ρ2 : Nat → Int) (σ2 : ab_SG) (H : Heap) (locs : List Loc) (ls : Array Slot) (st : List Value), ab_Gm cy ad wr cr D vwCl nn_sh nn_T nn_C 8 10 ρb σb (fun q : Nat => s.heap.size ≤ q) s.heap lw_X.2.1 ρ2 σ2 H locs ls st → W p l e room_1 s m #[Value.ref b] below meth c H locs c2 s2 (lw_Z below #[Value.ref b] s) (F0 m 23 ls st) := by
      intro c2 s2 g1 g2 ρb σb b1 b2 b14 bR b95 ρ2 σ2 H locs ls st hG2
      obtain ⟨ρ3, e1, e2, hG3⟩ := lw_n_X hG2
      exact hgo c2 s2 g1 g2 ρ2 ρ3 σ2 H locs ls st ((hG2.2.1 2 (by decide)).trans b2) ((hG2.2.1 1 (by decide)).trans b1) (hG2.1.2.1 (2, 10, -1) (by decide +kernel)).2.2 e1 e2 (fun j hj => (mk_row hG2.1.2.2.2.2.2.2.2 lw_o_X j).trans (b14 j hj)) (lw_r_X hG2 b95 bR) hG3
    have haft : ∀ (pcB : Nat) (RR : List ab_AS), (RR.map (nq_nd pcB)).all (lw_cn 10 [lw_X] (RR.map (nq_nd pcB))) = true → ∀ c2 s2 : Nat, c2 ≤ cells + 1 → s2 ≤ slots + 6 → ∀ x ∈ RR, ∀ (ρ2 : Nat → Int) (σ2 : ab_SG) (H : Heap) (locs : List Loc) (ls : Array Slot) (st : List Value), ab_Gm cy ad wr cr D vwCl nn_sh nn_T nn_C 8 10 ρ σ (fun q : Nat => s.heap.size ≤ q) s.heap x ρ2 σ2 H locs ls st → W p l e room_1 s m #[Value.ref b] below meth c H locs c2 s2 (lw_Z below #[Value.ref b] s) (F0 m pcB ls st) := by
      intro pcB RR hck c2 s2 g1 g2 x hx9 ρ2 σ2 H locs ls st hG2
      refine lw_go C1 hinj hcr hAd hKK hN hF (by decide) h4 h5 (by omega) (by omega) hck (fun nd hnd => ?_) (nd := nq_nd pcB x) (List.mem_map.mpr ⟨x, hx9, rfl⟩) hG2
      rw [List.mem_singleton.mp hnd]
      exact hhead c2 s2 g1 g2 ρ σ rfl rfl h5 hR d95
    refine lw_go C1 hinj hcr hAd hKK hN hF (by decide) h4 h5 (by omega) (by omega) lw_ck (fun nd hnd => ?_) (nd := lw_S) List.mem_cons_self hG
    unfold lw_EX at hnd
    rcases List.mem_cons.mp hnd with rfl | hnd
    · exact hhead cells slots (Nat.le_succ _) (Nat.le_add_right _ _) ρ σ rfl rfl h5 hR d95
    rcases List.mem_cons.mp hnd with rfl | hnd
    · intro ρ2 σ2 H locs ls st hG2
      obtain ⟨ρ3, e1, e2, hG3⟩ := lw_n_L1 hG2
      exact hgo cells slots (Nat.le_succ _) (Nat.le_add_right _ _) ρ2 ρ3 σ2 H locs ls st (hG2.2.1 2 (by decide)) (hG2.2.1 1 (by decide)) (hG2.1.2.1 (2, 10, -1) (by decide +kernel)).2.2 e1 e2 (fun j hj => (mk_row hG2.1.2.2.2.2.2.2.2 lw_o_L1 j).trans (h5 j hj)) (lw_r_L1 hG2 d95 d22 hR) hG3
    rcases List.mem_cons.mp hnd with rfl | hnd
    · intro ρ2 σ2 H locs ls st hG2
      obtain ⟨ρ3, e1, e2, hG3⟩ := lw_n_L0 hG2
      exact hgo cells slots (Nat.le_succ _) (Nat.le_add_right _ _) ρ2 ρ3 σ2 H locs ls st (hG2.2.1 2 (by decide)) (hG2.2.1 1 (by decide)) (hG2.1.2.1 (2, 10, -1) (by decide +kernel)).2.2 e1 e2 (fun j hj => (mk_row hG2.1.2.2.2.2.2.2.2 lw_o_L0 j).trans (h5 j hj)) (lw_r_L0 hG2 d95 d22 hR) hG3
    rcases List.mem_cons.mp hnd with rfl | hnd
    · exact lw_d_feed C1 hinj hcr hAd hKK hN hF (by omega) (by omega) h4 h5 hR (hhead cells slots (Nat.le_succ _) (Nat.le_add_right _ _))
    rcases List.mem_cons.mp hnd with rfl | hnd
    · exact lw_d_end C1 hinj hcr hAd hKK hN hF (by omega) (by omega) h4 h5 hR (hhead cells slots (Nat.le_succ _) (Nat.le_add_right _ _))
    rcases List.mem_cons.mp hnd with rfl | hnd
    · exact lw_d_studio C1 hinj hcr hAd hKK hN hF (by omega) (by omega) h4 h5 hR (hhead cells slots (Nat.le_succ _) (Nat.le_add_right _ _))
    rcases List.mem_cons.mp hnd with rfl | hnd
    · exact fun ρ2 σ2 H locs ls st hG2 => nq_cl (own := "NameNotesLaw") (cells := cells) (slots := slots) (nL := 8) (Ts := lw_tbl) (na := 7) (rest := []) ⟨(show cells + 1 ≤ 601024 by omega), (show slots + 6 ≤ 7293034 by omega)⟩ hx hb hml hown2 hts hKK hN hF.1 hZ rfl hTT hAd (fun q hq => hq) (nqh_named l htr cy ad wr cr D hinj) (nn_at_ok (i := 6085) (by decide +kernel)) (nn_at_ok (i := 1000) (by decide +kernel)) ⟨by decide, by decide⟩ (by decide +kernel) (nn_at_ok (i := 6083) (by decide +kernel)) (nn_at_ok (i := 6084) (by decide +kernel)) ⟨by decide, by decide⟩ (as := [(2, 0, 0), (0, 12, 0), (0, 13, 0), (0, 14, 0), (0, 15, 0), (0, 16, 0), (2, 122, 0)]) rfl rfl (by decide) (by decide) lw_R813_ok (show decode code 813 = .ok (.invokestatic 105, 3) by decide +kernel) hG2
        (fun x hx9 ρ3 σ3 H1 locs1 st1 _ hG3 => haft 816 lw_R813 lw_c813 (cells + 1) (slots + 6) (Nat.le_refl _) (Nat.le_refl _) x hx9 ρ3 σ3 H1 locs1 ls st1 hG3)
    rcases List.mem_cons.mp hnd with rfl | hnd
    · exact fun ρ2 σ2 H locs ls st hG2 => nq_cl (own := "NameNotesLaw") (cells := cells) (slots := slots) (nL := 8) (Ts := lw_tbl) (na := 6) (rest := []) ⟨(show cells + 1 ≤ 601024 by omega), (show slots + 6 ≤ 7293034 by omega)⟩ hx hb hml hown2 hts hKK hN hF.1 hZ rfl hTT hAd (fun q hq => hq) (nqh_odds l htr cy ad wr cr D hinj) (nn_at_ok (i := 6177) (by decide +kernel)) (nn_at_ok (i := 1000) (by decide +kernel)) ⟨by decide, by decide⟩ (by decide +kernel) (nn_at_ok (i := 6175) (by decide +kernel)) (nn_at_ok (i := 6176) (by decide +kernel)) ⟨by decide, by decide⟩ (as := [(2, 0, 0), (0, 12, 0), (0, 13, 0), (0, 14, 0), (0, 15, 0), (2, 122, 0)]) rfl rfl (by decide) (by decide) lw_R883_ok (show decode code 883 = .ok (.invokestatic 111, 3) by decide +kernel) hG2
        (fun x hx9 ρ3 σ3 H1 locs1 st1 _ hG3 => haft 886 lw_R883 lw_c883 (cells + 1) (slots + 6) (Nat.le_refl _) (Nat.le_refl _) x hx9 ρ3 σ3 H1 locs1 ls st1 hG3)
    rcases List.mem_cons.mp hnd with rfl | hnd
    · exact fun ρ2 σ2 H locs ls st hG2 => nq_cl (own := "NameNotesLaw") (cells := cells) (slots := slots) (nL := 8) (Ts := lw_tbl) (na := 7) (rest := []) ⟨(show cells + 1 ≤ 601024 by omega), (show slots + 6 ≤ 7293034 by omega)⟩ hx hb hml hown2 hts hKK hN hF.1 hZ rfl hTT hAd (fun q hq => hq) (nqh_worth l htr cy ad wr cr D hinj) (nn_at_ok (i := 6184) (by decide +kernel)) (nn_at_ok (i := 1000) (by decide +kernel)) ⟨by decide, by decide⟩ (by decide +kernel) (nn_at_ok (i := 6182) (by decide +kernel)) (nn_at_ok (i := 6183) (by decide +kernel)) ⟨by decide, by decide⟩ (as := [(2, 0, 0), (0, 12, 0), (0, 13, 0), (0, 14, 0), (0, 15, 0), (0, 16, 0), (2, 122, 0)]) rfl rfl (by decide) (by decide) lw_R1063_ok (show decode code 1063 = .ok (.invokestatic 123, 3) by decide +kernel) hG2
        (fun x hx9 ρ3 σ3 H1 locs1 st1 _ hG3 => haft 1066 lw_R1063 lw_c1063 (cells + 1) (slots + 6) (Nat.le_refl _) (Nat.le_refl _) x hx9 ρ3 σ3 H1 locs1 ls st1 hG3)
    rcases List.mem_cons.mp hnd with rfl | hnd
    · exact fun ρ2 σ2 H locs ls st hG2 => nq_cl (own := "NameNotesLaw") (cells := cells) (slots := slots) (nL := 8) (Ts := lw_tbl) (na := 7) (rest := []) ⟨(show cells + 1 ≤ 601024 by omega), (show slots + 6 ≤ 7293034 by omega)⟩ hx hb hml hown2 hts hKK hN hF.1 hZ rfl hTT hAd (fun q hq => hq) (nqh_gains l htr cy ad wr cr D hinj) (nn_at_ok (i := 6191) (by decide +kernel)) (nn_at_ok (i := 1000) (by decide +kernel)) ⟨by decide, by decide⟩ (by decide +kernel) (nn_at_ok (i := 6189) (by decide +kernel)) (nn_at_ok (i := 6190) (by decide +kernel)) ⟨by decide, by decide⟩ (as := [(2, 0, 0), (0, 12, 0), (0, 13, 0), (0, 14, 0), (0, 15, 0), (0, 16, 0), (2, 122, 0)]) rfl rfl (by decide) (by decide) lw_R1200_ok (show decode code 1200 = .ok (.invokestatic 130, 3) by decide +kernel) hG2
        (fun x hx9 ρ3 σ3 H1 locs1 st1 _ hG3 => haft 1203 lw_R1200 lw_c1200 (cells + 1) (slots + 6) (Nat.le_refl _) (Nat.le_refl _) x hx9 ρ3 σ3 H1 locs1 ls st1 hG3)
    rcases List.mem_cons.mp hnd with rfl | hnd
    · exact fun ρ2 σ2 H locs ls st hG2 => nq_cl (own := "NameNotesLaw") (cells := cells) (slots := slots) (nL := 8) (Ts := lw_tbl) (na := 8) (rest := []) ⟨(show cells + 1 ≤ 601024 by omega), (show slots + 6 ≤ 7293034 by omega)⟩ hx hb hml hown2 hts hKK hN hF.1 hZ rfl hTT hAd (fun q hq => hq) (nqh_held l htr cy ad wr cr D hinj) (nn_at_ok (i := 6198) (by decide +kernel)) (nn_at_ok (i := 1000) (by decide +kernel)) ⟨by decide, by decide⟩ (by decide +kernel) (nn_at_ok (i := 6196) (by decide +kernel)) (nn_at_ok (i := 6197) (by decide +kernel)) ⟨by decide, by decide⟩ (as := [(2, 0, 0), (0, 12, 0), (0, 13, 0), (0, 14, 0), (0, 15, 0), (0, 16, 0), (0, 17, 0), (2, 122, 0)]) rfl rfl (by decide) (by decide) lw_R1332_ok (show decode code 1332 = .ok (.invokestatic 137, 3) by decide +kernel) hG2
        (fun x hx9 ρ3 σ3 H1 locs1 st1 _ hG3 => haft 1335 lw_R1332 lw_c1332 (cells + 1) (slots + 6) (Nat.le_refl _) (Nat.le_refl _) x hx9 ρ3 σ3 H1 locs1 ls st1 hG3)
    rcases List.mem_cons.mp hnd with rfl | hnd
    · exact fun ρ2 σ2 H locs ls st hG2 => nq_cl (own := "NameNotesLaw") (cells := cells) (slots := slots) (nL := 8) (Ts := lw_tbl) (na := 6) (rest := []) ⟨(show cells + 1 ≤ 601024 by omega), (show slots + 6 ≤ 7293034 by omega)⟩ hx hb hml hown2 hts hKK hN hF.1 hZ rfl hTT hAd (fun q hq => hq) (nqh_among l htr cy ad wr cr D hinj) (nn_at_ok (i := 6207) (by decide +kernel)) (nn_at_ok (i := 1000) (by decide +kernel)) ⟨by decide, by decide⟩ (by decide +kernel) (nn_at_ok (i := 6205) (by decide +kernel)) (nn_at_ok (i := 6206) (by decide +kernel)) ⟨by decide, by decide⟩ (as := [(2, 0, 0), (0, 12, 0), (0, 13, 0), (0, 14, 0), (0, 15, 0), (2, 122, 0)]) rfl rfl (by decide) (by decide) lw_R1409_ok (show decode code 1409 = .ok (.invokestatic 141, 3) by decide +kernel) hG2
        (fun x hx9 ρ3 σ3 H1 locs1 st1 _ hG3 => haft 1412 lw_R1409 lw_c1409 (cells + 1) (slots + 6) (Nat.le_refl _) (Nat.le_refl _) x hx9 ρ3 σ3 H1 locs1 ls st1 hG3)
    rcases List.mem_cons.mp hnd with rfl | hnd
    · exact fun ρ2 σ2 H locs ls st hG2 => np_cl (own := "NameNotesLaw") (cells := cells) (slots := slots) (nL := 8) (Ts := lw_tbl) (rest := []) (q := (108, 12, npd_play)) (mr := (⟨"NameNotes", "play", "(III)I"⟩, prog_1_method_28_code, 7, (Option.some Jvm.ClassFile.FieldType.int), 3, true, 0)) ⟨(show cells ≤ 601024 by omega), (show slots ≤ 7293034 by omega)⟩ hx hb hml hown2 hts hKK hN hF.1 hZ hY rfl hTT hAd (fun q hq => hq) rfl rfl (ab_mlk_mono (nn_PM0_ok (156, 0, 108) (by decide +kernel)) hTT) (hTT _ (nn_at_ok (i := 4170) (by decide +kernel))) hplay ⟨by decide, by decide⟩ (as := [(2, 0, 0), (0, 12, 0), (0, 13, 0), (0, 14, 0)]) rfl rfl (by decide) (by decide) lw_R1589_ok (show decode code 1589 = .ok (.invokevirtual 156, 3) by decide +kernel) hG2
        (fun x hx9 ρ3 σ3 H1 locs1 st1 _ hG3 => haft 1592 lw_R1589 lw_c1589 cells slots (Nat.le_succ _) (Nat.le_add_right _ _) x hx9 ρ3 σ3 H1 locs1 ls st1 hG3)
    rcases List.mem_cons.mp hnd with rfl | hnd
    · exact lw_d_teach C1 hinj hcr hAd hKK hN hF (by omega) (by omega) h4 h5 hR (hhead cells slots (Nat.le_succ _) (Nat.le_add_right _ _))
    rcases List.mem_cons.mp hnd with rfl | hnd
    · exact lw_d_dares C1 hinj hcr hAd hKK hN hF (by omega) (by omega) h4 h5 hR (hhead cells slots (Nat.le_succ _) (Nat.le_add_right _ _))
    rcases List.mem_cons.mp hnd with rfl | hnd
    · exact lw_d_undo C1 hinj hcr hAd hKK hN hF (by omega) (by omega) h4 h5 hR (hhead cells slots (Nat.le_succ _) (Nat.le_add_right _ _))
    rcases List.mem_cons.mp hnd with rfl | hnd
    · exact fun ρ2 σ2 H locs ls st hG2 => nq_cl (own := "NameNotesLaw") (cells := cells) (slots := slots) (nL := 8) (Ts := lw_tbl) (na := 6) (rest := []) ⟨(show cells + 1 ≤ 601024 by omega), (show slots + 6 ≤ 7293034 by omega)⟩ hx hb hml hown2 hts hKK hN hF.1 hZ rfl hTT hAd (fun q hq => hq) (nqh_match l htr cy ad wr cr D hinj) (nn_at_ok (i := 6214) (by decide +kernel)) (nn_at_ok (i := 1000) (by decide +kernel)) ⟨by decide, by decide⟩ (by decide +kernel) (nn_at_ok (i := 6212) (by decide +kernel)) (nn_at_ok (i := 6213) (by decide +kernel)) ⟨by decide, by decide⟩ (as := [(2, 0, 0), (0, 12, 0), (0, 13, 0), (0, 14, 0), (0, 15, 0), (2, 122, 0)]) rfl rfl (by decide) (by decide) lw_R1879_ok (show decode code 1879 = .ok (.invokestatic 186, 3) by decide +kernel) hG2
        (fun x hx9 ρ3 σ3 H1 locs1 st1 _ hG3 => haft 1882 lw_R1879 lw_c1879 (cells + 1) (slots + 6) (Nat.le_refl _) (Nat.le_refl _) x hx9 ρ3 σ3 H1 locs1 ls st1 hG3)
    rcases List.mem_cons.mp hnd with rfl | hnd
    · exact fun ρ2 σ2 H locs ls st hG2 => nq_cl (own := "NameNotesLaw") (cells := cells) (slots := slots) (nL := 8) (Ts := lw_tbl) (na := 7) (rest := []) ⟨(show cells + 1 ≤ 601024 by omega), (show slots + 6 ≤ 7293034 by omega)⟩ hx hb hml hown2 hts hKK hN hF.1 hZ rfl hTT hAd (fun q hq => hq) (nqh_bolder l htr cy ad wr cr D hinj) (nn_at_ok (i := 6222) (by decide +kernel)) (nn_at_ok (i := 1000) (by decide +kernel)) ⟨by decide, by decide⟩ (by decide +kernel) (nn_at_ok (i := 6220) (by decide +kernel)) (nn_at_ok (i := 6221) (by decide +kernel)) ⟨by decide, by decide⟩ (as := [(2, 0, 0), (0, 12, 0), (0, 13, 0), (0, 14, 0), (0, 15, 0), (0, 16, 0), (2, 122, 0)]) rfl rfl (by decide) (by decide) lw_R2010_ok (show decode code 2010 = .ok (.invokestatic 193, 3) by decide +kernel) hG2
        (fun x hx9 ρ3 σ3 H1 locs1 st1 _ hG3 => haft 2013 lw_R2010 lw_c2010 (cells + 1) (slots + 6) (Nat.le_refl _) (Nat.le_refl _) x hx9 ρ3 σ3 H1 locs1 ls st1 hG3)
    rcases List.mem_cons.mp hnd with rfl | hnd
    · exact lw_d_copies C1 hinj hcr hAd hKK hN hF (by omega) (by omega) h4 h5 hR (hhead cells slots (Nat.le_succ _) (Nat.le_add_right _ _))
    rcases List.mem_cons.mp hnd with rfl | hnd
    · exact fun ρ2 σ2 H locs ls st hG2 => nq_cl (own := "NameNotesLaw") (cells := cells) (slots := slots) (nL := 8) (Ts := lw_tbl) (na := 3) (rest := []) ⟨(show cells + 1 ≤ 601024 by omega), (show slots + 6 ≤ 7293034 by omega)⟩ hx hb hml hown2 hts hKK hN hF.1 hZ rfl hTT hAd (fun q hq => hq) (nqh_told l htr cy ad wr cr D hinj) (nn_at_ok (i := 6229) (by decide +kernel)) (nn_at_ok (i := 1000) (by decide +kernel)) ⟨by decide, by decide⟩ (by decide +kernel) (nn_at_ok (i := 6227) (by decide +kernel)) (nn_at_ok (i := 6228) (by decide +kernel)) ⟨by decide, by decide⟩ (as := [(2, 0, 0), (0, 12, 0), (2, 122, 0)]) rfl rfl (by decide) (by decide) lw_R2445_ok (show decode code 2445 = .ok (.invokestatic 240, 3) by decide +kernel) hG2
        (fun x hx9 ρ3 σ3 H1 locs1 st1 _ hG3 => haft 2448 lw_R2445 lw_c2445 (cells + 1) (slots + 6) (Nat.le_refl _) (Nat.le_refl _) x hx9 ρ3 σ3 H1 locs1 ls st1 hG3)
    rcases List.mem_cons.mp hnd with rfl | hnd
    · exact lw_d_nights C1 hinj hcr hAd hKK hN hF (by omega) (by omega) h4 h5 hR (hhead cells slots (Nat.le_succ _) (Nat.le_add_right _ _))
    rcases List.mem_cons.mp hnd with rfl | hnd
    · exact lw_d_image C1 hinj hcr hAd hKK hN hF (by omega) (by omega) h4 h5 hR (hhead cells slots (Nat.le_succ _) (Nat.le_add_right _ _))
    rcases List.mem_cons.mp hnd with rfl | hnd
    · exact lw_d_restore C1 hinj hcr hAd hKK hN hF (by omega) (by omega) h4 h5 hR (hhead cells slots (Nat.le_succ _) (Nat.le_add_right _ _))
    rcases List.mem_cons.mp hnd with rfl | hnd
    · exact lw_d_count C1 hinj hcr hAd hKK hN hF (by omega) (by omega) h4 h5 hR (hhead cells slots (Nat.le_succ _) (Nat.le_add_right _ _))
    rcases List.mem_cons.mp hnd with rfl | hnd
    · intro ρ2 σ2 H locs ls st hG2
      obtain ⟨q1, q2, q3, q4, q5, q6, q7⟩ := hG2
      have hst : st = [.int 1] := by
        rw [q5.1]
        show [Value.int (Int32.ofInt (ρ2 0 + 1))] = _
        rw [q1.2.2.1]
        rfl
      subst hst
      refine va_forget (fun q hq => q7.2.2 q hq) ?_
      refine W.widen (k := 601024) (n := 7293034) (by omega) (by omega) ?_
      exact lw_ret hx hb hr hlocks (show decode code 2770 = .ok (.ireturn, 1) by decide +kernel)
    exact absurd hnd List.not_mem_nil
end
section
/-! the two texts read: String.length and charAt -/
/-- what these calls stand on -/
abbrev ns_B (cr av : Nat → Nat) (A : Nat → Prop) (U : State) : Prop := nt_Z cr av A U
theorem ns_B_go {cr av : Nat → Nat} {A : Nat → Prop} {s U : State} (h : ns_B cr av A s) (hW : s.WarmedH U.vm) (hq : ∀ a : Nat, a < s.heap.size → ¬ A a → U.heap[a]? = s.heap[a]?) : ns_B cr av A U := nt_Z_go h hW hq (fun _ h => h)
theorem ns_B_blind {cr av : Nat → Nat} {A : Nat → Prop} {U : State} {g : JFrame} {mk : MethodId} {a : Array Value} (h : ns_B cr av A U) : ns_B cr av A (U.calling g mk a) := nt_Z_blind h
def ns_PC (cr av : Nat → Nat) (A : Nat → Prop) (as : List Value) : Array Value → State → Prop := va_Pc as (fun U => ns_B cr av A U)
theorem ns_PC_blind {cr av : Nat → Nat} {A : Nat → Prop} {as : List Value} : FrameBlind (ns_PC cr av A as) := by
  intro a U g mk h
  exact ⟨h.1, ns_B_blind h.2⟩
def ns_Q (Rv : Option Value → Prop) : Array Value → State → Outcome → State → Prop := fun _ s o t => ∃ v, o = .returned v ∧ Rv v ∧ va_F (fun _ => False) s t
/-- a method that reads alone: its row, how deep, its arguments, what it returns -/
def ns_M (l : Launch) (cr av : Nat → Nat) (mr : ab_MR) (d : Nat) (as : List Value) (Rv : Option Value → Prop) : Prop :=
  ∀ A : Nat → Prop, Met l mr.1 (Jvm.Cond.code mr.1 mr.2.1 mr.2.2.1 mr.2.2.2.1 :: nn_TT) (np_room d) (ns_PC cr av A as) (ns_Q Rv) 0 0 (fun _ => False)
section
variable {p : Program} {l : Launch} {e : Env} {R : Room} {s : State} {m : MethodId} {args : Array Value} {below : List Frame} {meth : Method} {c : Code} {H : Heap} {locs : List Loc} {cells slots : Nat} {Q : State → Prop} {cc : ByteArray} {pc : Nat} {ls : Array Slot}
variable {cr av : Nat → Nat} {nL : Nat} {own : String} {A : Nat → Prop} {Ts : List Jvm.Cond} {mr : ab_MR} {mn d x9 : Nat} {as rest : List Value} {Rv : Option Value → Prop}
theorem ns_words (hts : ∀ w ∈ Ts, w.before args s = true) (hTT : ∀ w ∈ nn_TT, w ∈ Ts) (hmr : nn_MT[mn]? = some mr) : ∀ w ∈ (Jvm.Cond.code mr.1 mr.2.1 mr.2.2.1 mr.2.2.2.1 :: nn_TT), ∀ (a' : Array Value) (U : State), s.WarmedH U.vm → w.before a' U = true := by
  intro w hw a' U hW
  rcases List.mem_cons.mp hw with rfl | hw
  · exact word_at hW (good_of_word (nn_MT_code mr (List.mem_of_getElem? hmr))) (hts _ (hTT _ (nn_MT_in mr (List.mem_of_getElem? hmr))))
  · exact word_at hW (good_of_word (nn_TT_good w hw)) (hts _ (hTT w hw))
theorem ns_end {g : JFrame} {a : Array Value} (hrun : va_Run p l e R s m args below meth c H locs cells slots 0 0 (F0 m pc ls g.stack) rest (ns_Q Rv a) (fun _ => False)) (hS : va_S A s.heap H locs)
    (kk : ∀ (v : Option Value) (H1 : Heap) (locs1 : List Loc), Rv v → (∀ q : Nat, q < H.size → H1[q]? = H[q]?) → va_S A s.heap H1 locs1 → W p l e R s m args below meth c H1 locs1 cells slots Q (F0 m (pc + 3) ls (v.toList ++ rest))) : W p l e R s m args below meth c H locs cells slots Q (F0 m pc ls g.stack) := by
  intro T9 hT X
  obtain ⟨v, st₀, t, T', L, h0, X', hL, e1, e2, ⟨rv, hv, hR, hF⟩, st⟩ := hrun T9 hT X
  cases hv
  obtain ⟨k1, k2, k3⟩ := vx_keep (A0 := A) (A1 := fun _ => False) (free := fun _ => False) h0 e1 hS (fun _ _ h => False.elim h) (fun _ h => False.elim h) hL hF
  obtain ⟨t2, a1, b1⟩ := kk v T'.heap (locs ++ L) hR (fun q hq => k2 q hq id) k3 T' rfl X'
  exact ⟨t2, st t2 a1, b1⟩
theorem ns_V {b : Nat} (hcs : cells ≤ R.cells ∧ slots ≤ R.slots) (hx : p.tables.exec = Jvm.exec) (hb : c.code = cc) (hml : c.maxLocals = nL) (hown : s.vm.findClass own = some m.cls) (hts : ∀ w ∈ Ts, w.before args s = true) (hTT : ∀ w ∈ nn_TT, w ∈ Ts) (hmr : nn_MT[mn]? = some mr) (hob : mr.2.2.2.2.2.1 = true) (hlk : ab_mlk nn_MT Ts nn_NW own (x9, 0, mn)) (hplain : Jvm.Cond.methodLink own x9 mr.1 ∈ Ts)
    (hM : ns_M l cr av mr d (.ref b :: as) Rv) (hB : ns_B cr av A s) (hrecv : ∃ cell, H[b]? = some cell ∧ cell.vm.isStatics = false ∧ s.vm.findClass mr.1.cls = some cell.cls) (hR : d + 11 ≤ R.frames ∧ 40 * d + 240 ≤ R.locals) (hl21 : mr.2.2.1 ≤ 21) (hn : as.length = mr.2.2.2.2.1) (hsz : ls.size = nL) (hrest : (rest.map fun v => v.category).sum ≤ 8)
    (hdg : decode cc pc = .ok (.invokevirtual x9, 3)) (hS : va_S A s.heap H locs)
    (kk : ∀ (v : Option Value) (H1 : Heap) (locs1 : List Loc), Rv v → (∀ q : Nat, q < H.size → H1[q]? = H[q]?) → va_S A s.heap H1 locs1 → W p l e R s m args below meth c H1 locs1 cells slots Q (F0 m (pc + 3) ls (v.toList ++ rest))) : W p l e R s m args below meth c H locs cells slots Q (F0 m pc ls (as.reverse ++ .ref b :: rest)) := by
  obtain ⟨c1, c2, c3, c4, c5, -, -⟩ := hlk mr hmr
  obtain ⟨d1, d2⟩ := c5 hob
  have hsig : ∀ sig, parseMethodDescriptor mr.1.desc = some sig → mr.2.2.2.2.1 = sig.parameters.length := fun sig hsg => by
    rw [hsg] at c4
    exact (Option.some.inj c4).symm
  have hlo : 8 + (mr.2.2.1 + 11) + (40 * d + 200) ≤ R.locals := by
    have := hR.2
    omega
  have hrun := va_runV (meth := meth) (below := below) (e := e) (R := R) (As := as) (rest := rest) (cells := cells) (slots := slots) (locs := locs) (g := F0 m pc ls (as.reverse ++ .ref b :: rest)) ⟨hx, hb, hml, hown, hts⟩ (hM A) ⟨⟨rfl, rfl, hR.1, hlo, ns_words hts hTT hmr, List.mem_cons_self, hts _ c1, hts _ c2, c3, hsig, hts _ hplain⟩, hts _ d1, hts _ d2⟩
    ⟨ns_PC_blind, hrecv, fun U hU hW => ⟨rfl, ns_B_go hB hW (fun a ha hna => by rw [hU, hS.2.1 a ha hna])⟩⟩ rfl hn hsz rfl (lv_room (rest := (as.reverse ++ .ref b :: rest)) hrest) hdg hcs
  exact ns_end (g := F0 m pc ls (as.reverse ++ .ref b :: rest)) hrun hS kk
theorem ns_S (hcs : cells ≤ R.cells ∧ slots ≤ R.slots) (hx : p.tables.exec = Jvm.exec) (hb : c.code = cc) (hml : c.maxLocals = nL) (hown : s.vm.findClass own = some m.cls) (hts : ∀ w ∈ Ts, w.before args s = true) (hTT : ∀ w ∈ nn_TT, w ∈ Ts) (hmr : nn_MT[mn]? = some mr) (hob : mr.2.2.2.2.2.1 = false) (hlk : ab_mlk nn_MT Ts nn_NW own (x9, 0, mn)) (hplain : Jvm.Cond.methodLink own x9 mr.1 ∈ Ts)
    (hM : ns_M l cr av mr d as Rv) (hB : ns_B cr av A s) (hR : d + 11 ≤ R.frames ∧ 40 * d + 240 ≤ R.locals) (hl21 : mr.2.2.1 ≤ 21) (hn : as.length = mr.2.2.2.2.1) (hsz : ls.size = nL) (hrest : (rest.map fun v => v.category).sum ≤ 8)
    (hdg : decode cc pc = .ok (.invokestatic x9, 3)) (hS : va_S A s.heap H locs)
    (kk : ∀ (v : Option Value) (H1 : Heap) (locs1 : List Loc), Rv v → (∀ q : Nat, q < H.size → H1[q]? = H[q]?) → va_S A s.heap H1 locs1 → W p l e R s m args below meth c H1 locs1 cells slots Q (F0 m (pc + 3) ls (v.toList ++ rest))) : W p l e R s m args below meth c H locs cells slots Q (F0 m pc ls (as.reverse ++ rest)) := by
  obtain ⟨c1, c2, c3, c4, -, c6, -⟩ := hlk mr hmr
  have d1 := c6 hob
  have hsig : ∀ sig, parseMethodDescriptor mr.1.desc = some sig → mr.2.2.2.2.1 = sig.parameters.length := fun sig hsg => by
    rw [hsg] at c4
    exact (Option.some.inj c4).symm
  have hlo : 8 + (mr.2.2.1 + 11) + (40 * d + 200) ≤ R.locals := by
    have := hR.2
    omega
  have hrun := va_runS (meth := meth) (below := below) (e := e) (R := R) (As := as) (rest := rest) (cells := cells) (slots := slots) (locs := locs) (g := F0 m pc ls (as.reverse ++ rest)) ⟨hx, hb, hml, hown, hts⟩ (hM A) ⟨⟨rfl, rfl, hR.1, hlo, ns_words hts hTT hmr, List.mem_cons_self, hts _ c1, hts _ c2, c3, hsig, hts _ hplain⟩, hts _ d1⟩
    ⟨ns_PC_blind, fun U hU hW => ⟨rfl, ns_B_go hB hW (fun a ha hna => by rw [hU, hS.2.1 a ha hna])⟩⟩ rfl hn hsz rfl (lv_room (rest := (as.reverse ++ rest)) hrest) hdg hcs
  exact ns_end (g := F0 m pc ls (as.reverse ++ rest)) hrun hS kk
end
/-- a method that reads alone, out of a run of its body -/
theorem ns_of {l : Launch} {cr av : Nat → Nat} {mr : ab_MR} {d : Nat} {as : List Value} {Rv : Option Value → Prop} (hy : plainName mr.1.cls = true) (hfit : (lg_sl as).length ≤ mr.2.2.1)
    (body : ∀ (p : Program) (e : Env) (s : State) (m : MethodId) (below : List Frame) (meth : Method) (c : Code) (R : Room) (ls : Array Slot), R.frames = d + 10 → R.locals = 40 * d + 200 → p.tables.exec = Jvm.exec → c.code = mr.2.1 → c.maxLocals = mr.2.2.1 → meth.sig.returnType = mr.2.2.2.1 → meth.locks = false → s.vm.findClass mr.1.cls = some m.cls → (∀ w ∈ (Jvm.Cond.code mr.1 mr.2.1 mr.2.2.1 mr.2.2.2.1 :: nn_TT), w.before as.toArray s = true) → ns_B cr av (fun _ => False) s → lv_has ls mr.2.2.1 (lv_args 0 as) →
      W p l e R s m as.toArray below meth c s.heap [] 0 0 (MQ below (ns_Q Rv) as.toArray s 0 0 (fun _ => False)) (F0 m 0 ls [])) : ns_M l cr av mr d as Rv := by
  intro A
  refine Met.ofW (cc := mr.2.1) (maxL := mr.2.2.1) (ret := mr.2.2.2.1) hy rfl ?_
  intro p e s m args below meth c s₁ B hml hv
  obtain ⟨rfl, hB⟩ := hv
  have hts := atoms_spec (ws := Jvm.Cond.code mr.1 mr.2.1 mr.2.2.1 mr.2.2.2.1 :: nn_TT) B.pre
  have hl := lv_entry as (n := mr.2.2.1) hfit
  rw [lg_entry_eq]
  generalize (lg_sl as ++ List.replicate (mr.2.2.1 - (lg_sl as).length) Slot.unset).toArray = ls at hl ⊢
  exact body p e s m below meth c _ ls rfl rfl B.exec B.bytes hml B.returns B.notSynchronized (findClass_of_methodNamed B.named) hts ⟨⟨vk_S.narrow hB.1.1 (fun _ h => False.elim h), va_Z.narrow hB.1.2 (fun _ h => False.elim h)⟩, vx_Zq.narrow hB.2 (fun _ h => False.elim h)⟩ hl
/-! the seven methods -/
abbrev nr_coder : ab_MR := (⟨"java/lang/String", "coder", "()B"⟩, prog_23_method_152_code, 1, (Option.some Jvm.ClassFile.FieldType.byte), 0, true, 5)
abbrev nr_len : ab_MR := (⟨"java/lang/String", "length", "()I"⟩, prog_23_method_54_code, 1, (Option.some Jvm.ClassFile.FieldType.int), 0, true, 0)
abbrev nr_isl : ab_MR := (⟨"java/lang/String", "isLatin1", "()Z"⟩, prog_23_method_154_code, 1, (Option.some Jvm.ClassFile.FieldType.boolean), 0, true, 1)
abbrev nr_chk : ab_MR := (⟨"java/lang/String", "checkIndex", "(II)V"⟩, prog_23_method_155_code, 2, (Option.none : Option Jvm.ClassFile.FieldType), 2, false, 4)
abbrev nr_pre : ab_MR := (⟨"jdk/internal/util/Preconditions", "checkIndex", "(IILjava/util/function/BiFunction;)I"⟩, prog_30_method_11_code, 3, (Option.some Jvm.ClassFile.FieldType.int), 3, false, 0)
abbrev nr_l1 : ab_MR := (⟨"java/lang/StringLatin1", "charAt", "([BI)C"⟩, prog_24_method_2_code, 2, (Option.some Jvm.ClassFile.FieldType.char), 2, false, 6)
abbrev nr_chr : ab_MR := (⟨"java/lang/String", "charAt", "(I)C"⟩, prog_23_method_56_code, 2, (Option.some Jvm.ClassFile.FieldType.char), 1, true, 6)
theorem nc_coder (l : Launch) (cr av : Nat → Nat) {i : Nat} (hi : i < 2) : ns_M l cr av nr_coder 1 [.ref (cr (3 + i))] (fun v => v = some (.int 0)) := by
  refine ns_of (by decide) (Nat.le_of_ble_eq_true rfl) ?_
  intro p e s m below meth c R ls hR1 hR2 hx hb hml hr hlocks hown hts hB hl
  have hS : va_S (fun _ => False) s.heap s.heap [] := va_S.rf
  obtain ⟨h1, h2, h3, h4⟩ := hB.1.1.1 i hi
  refine va_gets hx hb hB.1.2 hS hown (hts (.fieldLink "java/lang/String" 38 "java/lang/String" "COMPACT_STRINGS" "Z") (List.mem_cons_of_mem _ (nn_at_ok (i := 4191) (by decide +kernel)))) (fun _ h => h) (show decode prog_23_method_152_code 0 = .ok (.getstatic 38, 3) by decide +kernel) ?_
  refine lv_if_eq (tgt := 13) hx hb (show decode prog_23_method_152_code 3 = .ok (.ifCond .eq 10, 3) by decide +kernel) (by decide) (fun h => absurd h (by decide)) (fun _ => ?_)
  refine lv_aload_n hx hb (show decode prog_23_method_152_code 6 = .ok (.aload_n 0, 1) by decide +kernel) rfl (lv_at hl 0 rfl) ?_
  refine vk_getf hx hb h2 hS hown (hts (.fieldLink "java/lang/String" 15 "java/lang/String" "coder" "B") (List.mem_cons_of_mem _ (nn_at_ok (i := 10100) (by decide +kernel)))) (fun _ h => h) (show decode prog_23_method_152_code 7 = .ok (.getfield 15, 3) by decide +kernel) ?_
  refine lv_goto (tgt := 14) hx hb (show decode prog_23_method_152_code 10 = .ok (.goto 4, 3) by decide +kernel) (by decide) ?_
  exact W.zret (v := 0) hx hb hr (by decide) (fun t ht _ => ⟨_, rfl, rfl, hS.F ht⟩) hS.2.2 (show decode prog_23_method_152_code 14 = .ok (.ireturn, 1) by decide +kernel) hlocks
theorem nc_isl (l : Launch) (cr av : Nat → Nat) {i : Nat} (hi : i < 2) : ns_M l cr av nr_isl 1 [.ref (cr (3 + i))] (fun v => v = some (.int 1)) := by
  refine ns_of (by decide) (Nat.le_of_ble_eq_true rfl) ?_
  intro p e s m below meth c R ls hR1 hR2 hx hb hml hr hlocks hown hts hB hl
  have hS : va_S (fun _ => False) s.heap s.heap [] := va_S.rf
  obtain ⟨h1, h2, h3, h4⟩ := hB.1.1.1 i hi
  refine va_gets hx hb hB.1.2 hS hown (hts (.fieldLink "java/lang/String" 38 "java/lang/String" "COMPACT_STRINGS" "Z") (List.mem_cons_of_mem _ (nn_at_ok (i := 4191) (by decide +kernel)))) (fun _ h => h) (show decode prog_23_method_154_code 0 = .ok (.getstatic 38, 3) by decide +kernel) ?_
  refine lv_if_eq (tgt := 17) hx hb (show decode prog_23_method_154_code 3 = .ok (.ifCond .eq 14, 3) by decide +kernel) (by decide) (fun h => absurd h (by decide)) (fun _ => ?_)
  refine lv_aload_n hx hb (show decode prog_23_method_154_code 6 = .ok (.aload_n 0, 1) by decide +kernel) rfl (lv_at hl 0 rfl) ?_
  refine vk_getf hx hb h2 hS hown (hts (.fieldLink "java/lang/String" 15 "java/lang/String" "coder" "B") (List.mem_cons_of_mem _ (nn_at_ok (i := 10100) (by decide +kernel)))) (fun _ h => h) (show decode prog_23_method_154_code 7 = .ok (.getfield 15, 3) by decide +kernel) ?_
  refine lv_if_ne (tgt := 17) hx hb (show decode prog_23_method_154_code 10 = .ok (.ifCond .ne 7, 3) by decide +kernel) (by decide) (fun h => absurd h (by decide)) (fun _ => ?_)
  refine lv_iconst (v := 1) hx hb (show decode prog_23_method_154_code 13 = .ok (.iconst 1, 1) by decide +kernel) (by decide) ?_
  refine lv_goto (tgt := 18) hx hb (show decode prog_23_method_154_code 14 = .ok (.goto 4, 3) by decide +kernel) (by decide) ?_
  exact W.zret (v := 1) hx hb hr (by decide) (fun t ht _ => ⟨_, rfl, rfl, hS.F ht⟩) hS.2.2 (show decode prog_23_method_154_code 18 = .ok (.ireturn, 1) by decide +kernel) hlocks
theorem ns_recv {cr av : Nat → Nat} {A : Nat → Prop} {s : State} {H : Heap} {locs : List Loc} (hB : ns_B cr av A s) (hS : va_S A s.heap H locs) {i : Nat} (hi : i < 2) : ∃ cell : Cell, H[cr (3 + i)]? = some cell ∧ cell.vm.isStatics = false ∧ s.vm.findClass "java/lang/String" = some cell.cls := vk_recv (adK := fun i => cr (3 + i)) (i := i) hB.1.1 hi hS
theorem ns_five {i : Nat} (hi : i < 2) : ([5, 5] : List Nat).getD i 0 = 5 := by
  rcases (show i = 0 ∨ i = 1 by omega) with rfl | rfl <;> rfl
theorem nc_len (l : Launch) (cr av : Nat → Nat) {i : Nat} (hi : i < 2) : ns_M l cr av nr_len 2 [.ref (cr (3 + i))] (fun v => v = some (.int 5)) := by
  refine ns_of (by decide) (Nat.le_of_ble_eq_true rfl) ?_
  intro p e s m below meth c R ls hR1 hR2 hx hb hml hr hlocks hown hts hB hl
  have hS : va_S (fun _ => False) s.heap s.heap [] := va_S.rf
  obtain ⟨h1, h2, h3, h4⟩ := hB.1.1.1 i hi
  rw [ns_five hi] at h4
  refine lv_aload_n hx hb (show decode prog_23_method_54_code 0 = .ok (.aload_n 0, 1) by decide +kernel) rfl (lv_at hl 0 rfl) ?_
  refine vk_getf hx hb h3 hS hown (hts (.fieldLink "java/lang/String" 9 "java/lang/String" "value" "[B") (List.mem_cons_of_mem _ (nn_at_ok (i := 10099) (by decide +kernel)))) (fun _ h => h) (show decode prog_23_method_54_code 1 = .ok (.getfield 9, 3) by decide +kernel) ?_
  refine va_tlen (v := 5) hx hb h4 hS rfl (show decode prog_23_method_54_code 4 = .ok (.arraylength, 1) by decide +kernel) ?_
  refine lv_aload_n hx hb (show decode prog_23_method_54_code 5 = .ok (.aload_n 0, 1) by decide +kernel) rfl (lv_at hl 0 rfl) ?_
  refine ns_V (as := []) (rest := [.int 5]) (own := "java/lang/String") (mr := nr_coder) (mn := 112) (d := 1) ⟨Nat.zero_le _, Nat.zero_le _⟩ hx hb hml hown hts (fun w hw => List.mem_cons_of_mem _ hw) rfl rfl (ab_mlk_mono (nn_PM13_ok (335, 0, 112) (by decide +kernel)) (fun w hw => List.mem_cons_of_mem _ hw)) (List.mem_cons_of_mem _ (nn_at_ok (i := 4187) (by decide +kernel))) (nc_coder l cr av hi) hB (ns_recv hB hS hi) ⟨by rw [hR1]; decide, by rw [hR2]; decide⟩ (by decide) rfl hl.1 (by decide) (show decode prog_23_method_54_code 6 = .ok (.invokevirtual 335, 3) by decide +kernel) hS ?_
  intro v H1 locs1 hv _ hS
  subst hv
  refine lv_ishr hx hb (show decode prog_23_method_54_code 9 = .ok (.ishr, 1) by decide +kernel) ?_
  exact W.iret (v := 5) hx hb hr (fun t ht _ => ⟨_, rfl, rfl, hS.F ht⟩) hS.2.2 (show decode prog_23_method_54_code 10 = .ok (.ireturn, 1) by decide +kernel) hlocks
theorem ns_j1 {j : Nat} (h : j < 5) : ¬ Int32.ofNat j < 0 := by
  match j, h with
  | 0, _ => decide
  | 1, _ => decide
  | 2, _ => decide
  | 3, _ => decide
  | 4, _ => decide
theorem ns_j2 {j : Nat} (h : j < 5) : Int32.ofNat j < 5 := by
  match j, h with
  | 0, _ => decide
  | 1, _ => decide
  | 2, _ => decide
  | 3, _ => decide
  | 4, _ => decide
theorem ns_j3 {j : Nat} (h : j < 5) : vp_in (Int32.ofNat j) 5 := by
  unfold vp_in
  match j, h with
  | 0, _ => decide
  | 1, _ => decide
  | 2, _ => decide
  | 3, _ => decide
  | 4, _ => decide
theorem ns_nar (x : Int32) : narrow .char (.int ((x.toUInt32 % 65536).toInt32)) = .int ((x.toUInt32 % 65536).toInt32) := by
  have h : x.toUInt32 % 65536 % 65536 = x.toUInt32 % 65536 := by
    apply UInt32.toNat_inj.mp
    simp [UInt32.toNat_mod]
  simp [narrow, h]
theorem nc_pre (l : Launch) (cr av : Nat → Nat) {j : Nat} (hj : j < 5) {w : Value} (hw : w = .null ∨ ∃ t : Nat, w = .ref t) : ns_M l cr av nr_pre 1 [.int (Int32.ofNat j), .int 5, w] (fun v => ∃ z, v = some (.int z)) := by
  refine ns_of (by decide) (by rcases hw with rfl | ⟨t, rfl⟩ <;> exact Nat.le_of_ble_eq_true rfl) ?_
  intro p e s m below meth c R ls hR1 hR2 hx hb hml hr hlocks hown hts hB hl
  have hS : va_S (fun _ => False) s.heap s.heap [] := va_S.rf
  refine lv_iload_n hx hb (show decode prog_30_method_11_code 0 = .ok (.iload_n 0, 1) by decide +kernel) rfl (lv_at hl 0 rfl) ?_
  refine lv_if_lt (tgt := 9) hx hb (show decode prog_30_method_11_code 1 = .ok (.ifCond .lt 8, 3) by decide +kernel) (by decide) (fun h => absurd h (ns_j1 hj)) (fun _ => ?_)
  refine lv_iload_n hx hb (show decode prog_30_method_11_code 4 = .ok (.iload_n 0, 1) by decide +kernel) rfl (lv_at hl 0 rfl) ?_
  refine lv_iload_n hx hb (show decode prog_30_method_11_code 5 = .ok (.iload_n 1, 1) by decide +kernel) rfl (lv_at hl 1 rfl) ?_
  refine lv_icmp_lt (tgt := 16) hx hb (show decode prog_30_method_11_code 6 = .ok (.if_icmp .lt 10, 3) by decide +kernel) (by decide) (fun _ => ?_) (fun h => absurd (ns_j2 hj) h)
  refine lv_iload_n hx hb (show decode prog_30_method_11_code 16 = .ok (.iload_n 0, 1) by decide +kernel) rfl (lv_at hl 0 rfl) ?_
  exact W.iret (v := Int32.ofNat j) hx hb hr (fun t ht _ => ⟨_, rfl, ⟨_, rfl⟩, hS.F ht⟩) hS.2.2 (show decode prog_30_method_11_code 17 = .ok (.ireturn, 1) by decide +kernel) hlocks
theorem nc_chk (l : Launch) (cr av : Nat → Nat) {j : Nat} (hj : j < 5) : ns_M l cr av nr_chk 2 [.int (Int32.ofNat j), .int 5] (fun v => v = none) := by
  refine ns_of (by decide) (Nat.le_of_ble_eq_true rfl) ?_
  intro p e s m below meth c R ls hR1 hR2 hx hb hml hr hlocks hown hts hB hl
  have hS : va_S (fun _ => False) s.heap s.heap [] := va_S.rf
  refine lv_iload_n hx hb (show decode prog_23_method_155_code 0 = .ok (.iload_n 0, 1) by decide +kernel) rfl (lv_at hl 0 rfl) ?_
  refine lv_iload_n hx hb (show decode prog_23_method_155_code 1 = .ok (.iload_n 1, 1) by decide +kernel) rfl (lv_at hl 1 rfl) ?_
  obtain ⟨w, hw, hZ⟩ : ∃ w : Value, (w = .null ∨ ∃ t : Nat, w = .ref t) ∧ va_Z "jdk/internal/util/Preconditions" "SIOOBE_FORMATTER" "Ljava/util/function/BiFunction;" w (fun _ => False) s s.heap := by
    rcases hB.2.1 with h | ⟨t, h⟩
    · exact ⟨_, Or.inl rfl, h⟩
    · exact ⟨_, Or.inr ⟨t, rfl⟩, h⟩
  refine va_gets hx hb hZ hS hown (hts (.fieldLink "java/lang/String" 1053 "jdk/internal/util/Preconditions" "SIOOBE_FORMATTER" "Ljava/util/function/BiFunction;") (List.mem_cons_of_mem _ (nn_at_ok (i := 4207) (by decide +kernel)))) (fun _ h => h) (show decode prog_23_method_155_code 2 = .ok (.getstatic 1053, 3) by decide +kernel) ?_
  refine ns_S (as := [.int (Int32.ofNat j), .int 5, w]) (rest := []) (own := "java/lang/String") (mr := nr_pre) (mn := 117) (d := 1) ⟨Nat.zero_le _, Nat.zero_le _⟩ hx hb hml hown hts (fun w hw => List.mem_cons_of_mem _ hw) rfl rfl (ab_mlk_mono (nn_PM13_ok (1059, 0, 117) (by decide +kernel)) (fun w hw => List.mem_cons_of_mem _ hw)) (List.mem_cons_of_mem _ (nn_at_ok (i := 4209) (by decide +kernel))) (nc_pre l cr av hj hw) hB ⟨by rw [hR1]; decide, by rw [hR2]; decide⟩ (by decide) rfl hl.1 (by decide) (show decode prog_23_method_155_code 5 = .ok (.invokestatic 1059, 3) by decide +kernel) hS ?_
  intro v H1 locs1 hv _ hS
  obtain ⟨z, rfl⟩ := hv
  refine lv_pop hx hb (show decode prog_23_method_155_code 8 = .ok (.pop, 1) by decide +kernel) rfl ?_
  exact W.vret hx hb hr (fun t ht _ => ⟨_, rfl, rfl, hS.F ht⟩) hS.2.2 (show decode prog_23_method_155_code 9 = .ok (.return_, 1) by decide +kernel) hlocks
theorem nc_l1 (l : Launch) (cr av : Nat → Nat) {i j : Nat} (hi : i < 2) (hj : j < 5) : ns_M l cr av nr_l1 3 [.ref (av i), .int (Int32.ofNat j)] (fun v => ∃ z, v = some (.int z) ∧ narrow .char (.int z) = .int z) := by
  refine ns_of (by decide) (Nat.le_of_ble_eq_true rfl) ?_
  intro p e s m below meth c R ls hR1 hR2 hx hb hml hr hlocks hown hts hB hl
  have hS : va_S (fun _ => False) s.heap s.heap [] := va_S.rf
  obtain ⟨h1, h2, h3, h4⟩ := hB.1.1.1 i hi
  rw [ns_five hi] at h4
  refine lv_iload_n hx hb (show decode prog_24_method_2_code 0 = .ok (.iload_n 1, 1) by decide +kernel) rfl (lv_at hl 1 rfl) ?_
  refine lv_aload_n hx hb (show decode prog_24_method_2_code 1 = .ok (.aload_n 0, 1) by decide +kernel) rfl (lv_at hl 0 rfl) ?_
  refine va_tlen (v := 5) hx hb h4 hS rfl (show decode prog_24_method_2_code 2 = .ok (.arraylength, 1) by decide +kernel) ?_
  refine ns_S (as := [.int (Int32.ofNat j), .int 5]) (rest := []) (own := "java/lang/StringLatin1") (mr := nr_chk) (mn := 116) (d := 2) ⟨Nat.zero_le _, Nat.zero_le _⟩ hx hb hml hown hts (fun w hw => List.mem_cons_of_mem _ hw) rfl rfl (ab_mlk_mono (nn_PM14_ok (9, 0, 116) (by decide +kernel)) (fun w hw => List.mem_cons_of_mem _ hw)) (List.mem_cons_of_mem _ (nn_at_ok (i := 4204) (by decide +kernel))) (nc_chk l cr av hj) hB ⟨by rw [hR1]; decide, by rw [hR2]; decide⟩ (by decide) rfl hl.1 (by decide) (show decode prog_24_method_2_code 3 = .ok (.invokestatic 9, 3) by decide +kernel) hS ?_
  intro v H1 locs1 hv _ hS
  subst hv
  refine lv_aload_n hx hb (show decode prog_24_method_2_code 6 = .ok (.aload_n 0, 1) by decide +kernel) rfl (lv_at hl 0 rfl) ?_
  refine lv_iload_n hx hb (show decode prog_24_method_2_code 7 = .ok (.iload_n 1, 1) by decide +kernel) rfl (lv_at hl 1 rfl) ?_
  refine va_tb hx hb h4 hS (ns_j3 hj) rfl (show decode prog_24_method_2_code 8 = .ok (.baload, 1) by decide +kernel) ?_
  refine lv_sipush (v := 255) hx hb (show decode prog_24_method_2_code 9 = .ok (.sipush 255, 3) by decide +kernel) (by decide) ?_
  refine lv_iand hx hb (show decode prog_24_method_2_code 12 = .ok (.iand, 1) by decide +kernel) ?_
  refine lv_i2c hx hb (show decode prog_24_method_2_code 13 = .ok (.i2c, 1) by decide +kernel) rfl ?_
  exact W.zret hx hb hr (ns_nar _) (fun t ht _ => ⟨_, rfl, ⟨_, rfl, ns_nar _⟩, hS.F ht⟩) hS.2.2 (show decode prog_24_method_2_code 14 = .ok (.ireturn, 1) by decide +kernel) hlocks
theorem nc_chr (l : Launch) (cr av : Nat → Nat) {i j : Nat} (hi : i < 2) (hj : j < 5) : ns_M l cr av nr_chr 4 [.ref (cr (3 + i)), .int (Int32.ofNat j)] (fun v => ∃ z, v = some (.int z)) := by
  refine ns_of (by decide) (Nat.le_of_ble_eq_true rfl) ?_
  intro p e s m below meth c R ls hR1 hR2 hx hb hml hr hlocks hown hts hB hl
  have hS : va_S (fun _ => False) s.heap s.heap [] := va_S.rf
  obtain ⟨h1, h2, h3, h4⟩ := hB.1.1.1 i hi
  refine lv_aload_n hx hb (show decode prog_23_method_56_code 0 = .ok (.aload_n 0, 1) by decide +kernel) rfl (lv_at hl 0 rfl) ?_
  refine ns_V (as := []) (rest := []) (own := "java/lang/String") (mr := nr_isl) (mn := 114) (d := 1) ⟨Nat.zero_le _, Nat.zero_le _⟩ hx hb hml hown hts (fun w hw => List.mem_cons_of_mem _ hw) rfl rfl (ab_mlk_mono (nn_PM13_ok (492, 0, 114) (by decide +kernel)) (fun w hw => List.mem_cons_of_mem _ hw)) (List.mem_cons_of_mem _ (nn_at_ok (i := 4197) (by decide +kernel))) (nc_isl l cr av hi) hB (ns_recv hB hS hi) ⟨by rw [hR1]; decide, by rw [hR2]; decide⟩ (by decide) rfl hl.1 (by decide) (show decode prog_23_method_56_code 1 = .ok (.invokevirtual 492, 3) by decide +kernel) hS ?_
  intro v H1 locs1 hv _ hS
  subst hv
  refine lv_if_eq (tgt := 16) hx hb (show decode prog_23_method_56_code 4 = .ok (.ifCond .eq 12, 3) by decide +kernel) (by decide) (fun h => absurd h (by decide)) (fun _ => ?_)
  refine lv_aload_n hx hb (show decode prog_23_method_56_code 7 = .ok (.aload_n 0, 1) by decide +kernel) rfl (lv_at hl 0 rfl) ?_
  refine vk_getf hx hb h3 hS hown (hts (.fieldLink "java/lang/String" 9 "java/lang/String" "value" "[B") (List.mem_cons_of_mem _ (nn_at_ok (i := 10099) (by decide +kernel)))) (fun _ h => h) (show decode prog_23_method_56_code 8 = .ok (.getfield 9, 3) by decide +kernel) ?_
  refine lv_iload_n hx hb (show decode prog_23_method_56_code 11 = .ok (.iload_n 1, 1) by decide +kernel) rfl (lv_at hl 1 rfl) ?_
  refine ns_S (as := [.ref (av i), .int (Int32.ofNat j)]) (rest := []) (own := "java/lang/String") (mr := nr_l1) (mn := 115) (d := 3) ⟨Nat.zero_le _, Nat.zero_le _⟩ hx hb hml hown hts (fun w hw => List.mem_cons_of_mem _ hw) rfl rfl (ab_mlk_mono (nn_PM13_ok (495, 0, 115) (by decide +kernel)) (fun w hw => List.mem_cons_of_mem _ hw)) (List.mem_cons_of_mem _ (nn_at_ok (i := 4201) (by decide +kernel))) (nc_l1 l cr av hi hj) hB ⟨by rw [hR1]; decide, by rw [hR2]; decide⟩ (by decide) rfl hl.1 (by decide) (show decode prog_23_method_56_code 12 = .ok (.invokestatic 495, 3) by decide +kernel) hS ?_
  intro v H1 locs1 hv _ hS
  obtain ⟨z, rfl, hz⟩ := hv
  exact W.zret (v := z) hx hb hr hz (fun t ht _ => ⟨_, rfl, ⟨_, rfl⟩, hS.F ht⟩) hS.2.2 (show decode prog_23_method_56_code 15 = .ok (.ireturn, 1) by decide +kernel) hlocks
end
section
/-! contracts that read the texts, out of a run of their bodies; Text.addWord -/
theorem np_hold {l : Launch} {cy : Nat → ClassId} {ad wr cr av : Nat → Nat} {D : va_G} {own : String} {KI KJ : List (Nat × Int)} {PF : ab_PT} {PS : ab_PS} {PM : ab_PC2} {KS : ab_KS} {lev mn : Nat} {ct : ab_CN} {mr : ab_MR} {dt : ab_DT}
    (hinj : nn_inj ad) (hmr : nn_MT[mn]? = some mr) (hdt : nn_DT[mn]? = some dt)
    (hpre : ((1 : Nat).ble ct.2.1.length && (!mr.2.2.2.2.2.1 || nn_rcB vwCl nn_sh mr.1.cls ct.1) && (ab_cat ct.1).ble mr.2.2.1 && nn_rkB mr.2.2.2.2.2.2 mr.2.2.2.1 && plainName mr.1.cls && decide (mr.1.cls = own)) = true)
    (hKI : ∀ q ∈ KI, Jvm.Cond.constant own q.1 (Int32.ofInt q.2) ∈ nn_TT) (hKJ : ∀ q ∈ KJ, Jvm.Cond.constantLong own q.1 (Int64.ofInt q.2) ∈ nn_TT) (hPF : ∀ q ∈ PF, ab_fok vwCl nn_TT own q) (hPS : ∀ q ∈ PS, ab_psok nn_TT nn_kd own q) (hPM : ∀ q ∈ PM, ab_mlk nn_MT nn_TT nn_NW own q)
    (hKS : ∀ q ∈ KS, nn_H l cy ad wr cr D q)
    (body : ∀ (p : Program) (e : Env) (s : State) (m : MethodId) (below : List Frame) (meth : Method) (c : Code) (R : Room) (Q : State → Prop) (ρ : Nat → Int) (σ : ab_SG), R.frames = lev + 10 → R.locals = 40 * lev + 200 → nx_Z (ab_A ad nn_sh.length s.heap.size) s → nt_Z cr av (ab_A ad nn_sh.length s.heap.size) s →
      ab_Ev p l s m (ct.1.map (ab_V ad wr cr ρ)).toArray meth c mr.2.1 mr.2.2.1 lev R cy ad wr cr D vwCl nn_sh nn_T nn_C own (ab_A ad nn_sh.length s.heap.size) s.heap (Jvm.Cond.code mr.1 mr.2.1 mr.2.2.1 mr.2.2.2.1 :: nn_TT) nn_TT nn_NW nn_MT KI KJ PF nn_kd PS PM KS 0 ct.2.1.length ρ 0 0 dt σ →
      ab_K nn_T nn_C σ ct.2.1 ct.2.2.1 ct.2.2.2.1 [] ρ σ → (∀ a ∈ ct.1, ab_sy ct.2.1.length a) → va_P D vwCl (ab_WD cy ad wr nn_sh σ) s.heap →
      (∀ (pc : Nat) (X : ab_AS) (ρ2 : Nat → Int) (σ2 : ab_SG) (H : Heap) (locs : List Loc) (ls : Array Slot) (st : List Value) (i : Instr) (len : Nat), decode mr.2.1 pc = .ok (i, len) → ab_rt nn_T ct.2.1.length ct.2.2.2.2 mr.2.2.2.2.2.2 i len X = true → ab_Gm cy ad wr cr D vwCl nn_sh nn_T nn_C mr.2.2.1 ct.2.1.length ρ σ (ab_A ad nn_sh.length s.heap.size) s.heap X ρ2 σ2 H locs ls st → W p l e R s m (ct.1.map (ab_V ad wr cr ρ)).toArray below meth c H locs 0 0 Q (F0 m pc ls st)) →
      W p l e R s m (ct.1.map (ab_V ad wr cr ρ)).toArray below meth c s.heap [] 0 0 Q (entryFrame m (ct.1.map (ab_V ad wr cr ρ)).toArray mr.2.2.1)) :
    np_H l cy ad wr cr av D (mn, lev, ct) := by
  intro mr9 hmr9
  replace hmr9 : nn_MT[mn]? = some mr9 := hmr9
  rw [hmr] at hmr9
  cases hmr9
  rw [Bool.and_eq_true, Bool.and_eq_true, Bool.and_eq_true, Bool.and_eq_true, Bool.and_eq_true, Bool.or_eq_true, Bool.not_eq_true', decide_eq_true_eq] at hpre
  obtain ⟨⟨⟨⟨⟨h1, h2⟩, h3⟩, h4⟩, hy⟩, hown⟩ := hpre
  refine ⟨Nat.le_of_ble_eq_true h1, fun g => ?_, fun ρ σ sz hK hsy => ?_⟩
  · rcases h2 with h2 | h2
    · rw [g] at h2; cases h2
    · exact nn_rc_ok h2
  refine vx_ofW (cc := mr.2.1) (maxL := mr.2.2.1) (ret := mr.2.2.2.1) hy rfl ?_
  intro p e s m args below meth c s₁ B hml hex hv
  obtain ⟨rfl, hsz, hP, hKK, hN, hCB, hZ, hY⟩ := hv
  have hts := atoms_spec (ws := Jvm.Cond.code mr.1 mr.2.1 mr.2.2.1 mr.2.2.2.1 :: nn_TT) B.pre
  have hown2 : s.vm.findClass own = some m.cls := by rw [← hown]; exact findClass_of_methodNamed B.named
  subst hsz
  have hA : ∀ k, k < nn_sh.length → ab_A ad nn_sh.length s.heap.size (ad k) := fun k hk => Or.inl ⟨k, hk, rfl⟩
  have hsub : ∀ w ∈ nn_TT, w ∈ (Jvm.Cond.code mr.1 mr.2.1 mr.2.2.1 mr.2.2.2.1 :: nn_TT) := fun w hw => List.mem_cons_of_mem _ hw
  exact body p e s m below meth c (headSpec (Jvm.Cond.code mr.1 mr.2.1 mr.2.2.1 mr.2.2.2.1 :: nn_TT) (np_room lev)).room _ ρ σ rfl rfl hZ hY
    ⟨B.exec, B.bytes, hml, hown2, hts, hKK, hN, fun w hw => ⟨hsub w hw, nn_TT_good w hw⟩, nn_MT_code, hA, fun q hq => Or.inr hq, fun q hq => ab_mlk_mono (hPM q hq) hsub, hKS, ⟨Nat.le_add_right lev 10, Nat.le_trans (Nat.le_refl _) (Nat.le_add_right (40 * lev) 200)⟩, fun q hq => hts _ (hsub _ (hKI q hq)), fun q hq => hts _ (hsub _ (hKJ q hq)), fun q hq => ab_fok_mono (hPF q hq) hsub, ab_WD_D hinj hA, hCB, rfl, fun q hq => ab_psok_mono (hPS q hq) hsub, ⟨Nat.zero_le _, Nat.zero_le _⟩, (fun q => by cases q), nn_DT_ok hmr hdt⟩
    hK hsy hP (fun pc X ρ2 σ2 H locs ls2 st i len hd hr hG => vx_ret (ab_rt_ok B.exec B.bytes B.returns (nn_rk_ok h4) B.notSynchronized hr hd hG))
/-- Text.addWord of the k-th of what never changes -/
def aw_M : ab_ML := [(87, 1), (88, 1000000)]
def aw_d (k : Nat) : ab_CN := ([(2, 87, 0), (5, k, 0)], [(0, 0)], [], [], [([], [(0, 0)], [], [], aw_M)])
def aw_L (k : Nat) (j : Int) : ab_LS := [(2, (0, 0, j)), (0, (2, 87, 0)), (1, (5, k, 0))]
def aw_H (k : Nat) (j : Int) : ab_AS := (aw_L k j, [], [(0, 0)], [], [], aw_M)
def aw_A (k : Nat) (j : Int) : ab_AS := (aw_L k j, [(5, k, 0), (0, 0, j)], [(0, 0)], [], [], aw_M)
def aw_B (k : Nat) (j : Int) : ab_AS := (aw_L k j, [(0, 0, 5), (0, 0, j)], [(0, 0)], [], [], aw_M)
def aw_C (k : Nat) (j : Int) : ab_AS := (aw_L k j, [(0, 0, j), (5, k, 0), (2, 87, 0)], [(0, 0)], [], [], aw_M)
def aw_D (k : Nat) (j : Int) : ab_AS := (aw_L k j, [(0, 1, 0), (2, 87, 0)], [(0, 0), ((-2147483648), 2147483647)], [], [], aw_M)
def aw_K : ab_KS := [(122, 1, cd_136)]
abbrev aw_ck (k : Nat) (EX NS : List ab_ND) : Bool := NS.all (ab_cn vwCl nn_T nn_C nn_sh nn_MT (nn_KI11.map (fun x => x.1)) (nn_KJ11.map (fun x => x.1)) (nn_PF11.map (fun x => x.1)) nn_kd (nn_PS11.map (fun x => x.1)) (nn_PM11.map (fun x => x.1)) aw_K 6 0 nn_dt110 3 1 (aw_d k).2.2.2.2 4 [] [2, 4, 7, 13, 16] [] EX NS 20)
abbrev aw_E (k : Nat) : ab_ND := nq_nd 0 (ab_en0 0 (aw_d k).1, [], (aw_d k).2.1, (aw_d k).2.2.1, (aw_d k).2.2.2.1, [])
theorem aw_ok : ∀ i, i < 2 → aw_ck (3 + i) [nq_nd 2 (aw_H (3 + i) 0)] [aw_E (3 + i)] = true ∧ (∀ j, j < 6 → aw_ck (3 + i) [nq_nd 4 (aw_A (3 + i) (j : Nat))] [nq_nd 2 (aw_H (3 + i) (j : Nat))] = true) ∧ (∀ j, j < 5 → aw_ck (3 + i) [nq_nd 13 (aw_C (3 + i) (j : Nat))] [nq_nd 7 (aw_B (3 + i) (j : Nat))] = true) ∧ aw_ck (3 + i) [] [nq_nd 7 (aw_B (3 + i) 5)] = true ∧ (∀ j, j < 5 → aw_ck (3 + i) [nq_nd 2 (aw_H (3 + i) ((j + 1 : Nat)))] [nq_nd 16 (aw_D (3 + i) (j : Nat))] = true) := by decide +kernel
set_option maxHeartbeats 8000000 in
theorem aw_held (l : Launch) (cy : Nat → ClassId) (ad wr cr av : Nat → Nat) (D : va_G) (hinj : nn_inj ad) {i : Nat} (hi : i < 2) : np_H l cy ad wr cr av D (110, 6, aw_d (3 + i)) := by
  refine np_hold (mr := (⟨"NameNotes$Text", "addWord", "(Ljava/lang/String;)V"⟩, prog_11_method_4_code, 3, (Option.none : Option Jvm.ClassFile.FieldType), 1, true, 4)) (dt := nn_dt110) (own := "NameNotes$Text") (KS := aw_K) hinj rfl rfl (by rcases (show i = 0 ∨ i = 1 by omega) with rfl | rfl <;> decide +kernel) nn_KI11_ok nn_KJ11_ok nn_PF11_ok nn_PS11_ok nn_PM11_ok (List.forall_mem_cons.mpr ⟨ct_136 l cy ad wr cr D hinj, fun _ h => absurd h List.not_mem_nil⟩) ?_
  intro p e s m below meth c R Q ρ σ hR1 hR2 hZ hY hE hK hsy hP hRT
  obtain ⟨k0, k1, k2, k3, k4⟩ := aw_ok i hi
  have hE2 := hE
  obtain ⟨hx, hb, hml, hown, hts, hKK, hN, hTTg, -⟩ := hE2
  have hsub : ∀ w ∈ nn_TT, w ∈ (Jvm.Cond.code (⟨"NameNotes$Text", "addWord", "(Ljava/lang/String;)V"⟩ : MethodName) prog_11_method_4_code 3 (Option.none : Option Jvm.ClassFile.FieldType) :: nn_TT) := fun w hw => List.mem_cons_of_mem _ hw
  have loop : ∀ t : Nat, t ≤ 5 → ∀ (ρ2 : Nat → Int) (σ2 : ab_SG) (H : Heap) (locs : List Loc) (ls : Array Slot) (st : List Value), ab_Gm cy ad wr cr D vwCl nn_sh nn_T nn_C 3 (aw_d (3 + i)).2.1.length ρ σ (ab_A ad nn_sh.length s.heap.size) s.heap (aw_H (3 + i) ((5 - t : Nat))) ρ2 σ2 H locs ls st → W p l e R s m ((aw_d (3 + i)).1.map (ab_V ad wr cr ρ)).toArray below meth c H locs 0 0 Q (F0 m 2 ls st) := by
    intro t
    induction t with
    | zero =>
      intro _ ρ2 σ2 H locs ls st hG
      refine ab_nodes_ok (EX := [nq_nd 4 (aw_A (3 + i) ((5 - 0 : Nat)))]) (NS := [nq_nd 2 (aw_H (3 + i) ((5 - 0 : Nat)))]) hE hRT (fun nd hnd => ?_) (List.all_eq_true.mp (k1 (5 - 0) (by omega))) _ List.mem_cons_self ρ2 σ2 H locs ls st hG
      rw [List.mem_singleton.mp hnd]
      intro ρ3 σ3 H locs ls st hG
      obtain ⟨g1, g2, g3, g4, g5, g6, g7⟩ := hG
      have h0 : ρ3 0 = 0 := g1.2.2.1
      have hst : st = [.ref (cr (3 + i)), .int (Int32.ofInt ((5 - 0 : Nat) : Int))] := by
        rw [g5.1]
        show [Value.ref (cr (3 + i)), .int (Int32.ofInt (ρ3 0 + ((5 - 0 : Nat) : Int)))] = _
        rw [h0, Int.zero_add]
      subst hst
      refine ns_V (as := []) (rest := [.int (Int32.ofInt ((5 - 0 : Nat) : Int))]) (own := "NameNotes$Text") (mr := nr_len) (mn := 111) (d := 2) ⟨Nat.zero_le _, Nat.zero_le _⟩ hx hb hml hown hts hsub rfl rfl (ab_mlk_mono (nn_PM11_ok (23, 0, 111) (by decide +kernel)) hsub) (hsub _ (nn_at_ok (i := 4183) (by decide +kernel))) (nc_len l cr av hi) hY (ns_recv hY g7 hi) ⟨by rw [hR1]; decide, by rw [hR2]; decide⟩ (by decide) rfl g4.1.1 (Nat.le_of_ble_eq_true rfl) (show decode prog_11_method_4_code 4 = .ok (.invokevirtual 23, 3) by decide +kernel) g7 ?_
      intro v H1 locs1 hv hq1 hS1
      subst hv
      refine ab_nodes_ok (EX := []) (NS := [nq_nd 7 (aw_B (3 + i) 5)]) hE hRT nh_nil (List.all_eq_true.mp k3) _ List.mem_cons_self ρ3 σ3 H1 locs1 ls _ ⟨g1, g2, g3, g4, ⟨?_, List.forall_mem_cons.mpr ⟨Nat.zero_lt_one, List.forall_mem_cons.mpr ⟨Nat.zero_lt_one, nh_nil⟩⟩⟩, g6.kept (fun k q hk => hq1 _ (vx_lt g6 hk)), hS1⟩
      show [Value.int 5, .int (Int32.ofInt ((5 - 0 : Nat) : Int))] = [Value.int (Int32.ofInt (ρ3 0 + 5)), .int (Int32.ofInt (ρ3 0 + 5))]
      rw [h0]
      rfl
    | succ t ih =>
      intro ht ρ2 σ2 H locs ls st hG
      obtain ⟨j, hj, hj5, hj1⟩ : ∃ j : Nat, 5 - (t + 1) = j ∧ j < 5 ∧ 5 - t = j + 1 := ⟨_, rfl, by omega, by omega⟩
      rw [hj] at hG
      rw [hj1] at ih
      refine ab_nodes_ok (EX := [nq_nd 4 (aw_A (3 + i) (j : Nat))]) (NS := [nq_nd 2 (aw_H (3 + i) (j : Nat))]) hE hRT (fun nd hnd => ?_) (List.all_eq_true.mp (k1 j (by omega))) _ List.mem_cons_self ρ2 σ2 H locs ls st hG
      rw [List.mem_singleton.mp hnd]
      intro ρ3 σ3 H locs ls st hG
      obtain ⟨g1, g2, g3, g4, g5, g6, g7⟩ := hG
      have h0 : ρ3 0 = 0 := g1.2.2.1
      have hst : st = [.ref (cr (3 + i)), .int (Int32.ofInt (j : Int))] := by
        rw [g5.1]
        show [Value.ref (cr (3 + i)), .int (Int32.ofInt (ρ3 0 + (j : Int)))] = _
        rw [h0, Int.zero_add]
      subst hst
      refine ns_V (as := []) (rest := [.int (Int32.ofInt (j : Int))]) (own := "NameNotes$Text") (mr := nr_len) (mn := 111) (d := 2) ⟨Nat.zero_le _, Nat.zero_le _⟩ hx hb hml hown hts hsub rfl rfl (ab_mlk_mono (nn_PM11_ok (23, 0, 111) (by decide +kernel)) hsub) (hsub _ (nn_at_ok (i := 4183) (by decide +kernel))) (nc_len l cr av hi) hY (ns_recv hY g7 hi) ⟨by rw [hR1]; decide, by rw [hR2]; decide⟩ (by decide) rfl g4.1.1 (Nat.le_of_ble_eq_true rfl) (show decode prog_11_method_4_code 4 = .ok (.invokevirtual 23, 3) by decide +kernel) g7 ?_
      intro v H1 locs1 hv hq1 hS1
      subst hv
      refine ab_nodes_ok (EX := [nq_nd 13 (aw_C (3 + i) (j : Nat))]) (NS := [nq_nd 7 (aw_B (3 + i) (j : Nat))]) hE hRT (fun nd hnd => ?_) (List.all_eq_true.mp (k2 j hj5)) _ List.mem_cons_self ρ3 σ3 H1 locs1 ls _ ⟨g1, g2, g3, g4, ⟨?_, List.forall_mem_cons.mpr ⟨Nat.zero_lt_one, List.forall_mem_cons.mpr ⟨Nat.zero_lt_one, nh_nil⟩⟩⟩, g6.kept (fun k q hk => hq1 _ (vx_lt g6 hk)), hS1⟩
      · rw [List.mem_singleton.mp hnd]
        intro ρ4 σ4 H locs ls st hG
        obtain ⟨z1, z2, z3, z4, z5, z6, z7⟩ := hG
        have h4 : ρ4 0 = 0 := z1.2.2.1
        have hst : st = [.int (Int32.ofNat j), .ref (cr (3 + i)), .ref (ad 87)] := by
          rw [z5.1]
          show [Value.int (Int32.ofInt (ρ4 0 + (j : Int))), .ref (cr (3 + i)), .ref (ad 87)] = _
          rw [h4, Int.zero_add]
          rfl
        subst hst
        refine ns_V (as := [.int (Int32.ofNat j)]) (rest := [.ref (ad 87)]) (own := "NameNotes$Text") (mr := nr_chr) (mn := 113) (d := 4) ⟨Nat.zero_le _, Nat.zero_le _⟩ hx hb hml hown hts hsub rfl rfl (ab_mlk_mono (nn_PM11_ok (29, 0, 113) (by decide +kernel)) hsub) (hsub _ (nn_at_ok (i := 4193) (by decide +kernel))) (nc_chr l cr av hi hj5) hY (ns_recv hY z7 hi) ⟨by rw [hR1]; decide, by rw [hR2]; decide⟩ (by decide) rfl z4.1.1 (Nat.le_of_ble_eq_true rfl) (show decode prog_11_method_4_code 13 = .ok (.invokevirtual 29, 3) by decide +kernel) z7 ?_
        intro v H2 locs2 hv hq2 hS2
        obtain ⟨z, rfl⟩ := hv
        have hz1 : (-2147483648 : Int) ≤ z.toInt := Int32.le_toInt z
        have hz2 : z.toInt ≤ 2147483647 := Int.le_of_lt_add_one (Int32.toInt_lt z)
        have hK9 := ab_K_fresh (v := z.toInt) (l := -2147483648) (u := 2147483647) z1 hz1 hz2 [] nh_nil
        have hag : ∀ q : Nat, q < 1 → (fun q => if q = 1 then z.toInt else ρ4 q) q = ρ4 q := fun q hq => if_neg (by omega)
        refine ab_nodes_ok (EX := [nq_nd 2 (aw_H (3 + i) ((j + 1 : Nat)))]) (NS := [nq_nd 16 (aw_D (3 + i) (j : Nat))]) hE hRT (fun nd hnd => ?_) (List.all_eq_true.mp (k4 j hj5)) _ List.mem_cons_self (fun q => if q = 1 then z.toInt else ρ4 q) σ4 H2 locs2 ls _ ⟨hK9, fun q hq => (hag q hq).trans (z2 q hq), Nat.le_succ 1, ab_okL_ext z4 (Nat.le_succ 1) hag, ⟨?_, List.forall_mem_cons.mpr ⟨Nat.lt_succ_self 1, List.forall_mem_cons.mpr ⟨trivial, nh_nil⟩⟩⟩, z6.kept (fun k q hk => hq2 _ (vx_lt z6 hk)), hS2⟩
        · rw [List.mem_singleton.mp hnd]
          exact fun ρ5 σ5 H locs ls st hG => ih (by omega) ρ5 σ5 H locs ls st hG
        · show [Value.int z, .ref (ad 87)] = [Value.int (Int32.ofInt (z.toInt + 0)), .ref (ad 87)]
          rw [Int.add_zero, Int32.ofInt_toInt]
      · show [Value.int 5, .int (Int32.ofInt (j : Int))] = [Value.int (Int32.ofInt (ρ3 0 + 5)), .int (Int32.ofInt (ρ3 0 + (j : Int)))]
        rw [h0, Int.zero_add, Int.zero_add]
        rfl
  refine ab_entry (lev := 6) (sp := []) (HD := [2, 4, 7, 13, 16]) (HN := []) (EX := [nq_nd 2 (aw_H (3 + i) 0)]) (NS := [aw_E (3 + i)]) (fuel := 20) (mu := ((0, [], []), (0, [], []), (0, [], []))) hE (Nat.le_refl 2 |> fun _ => by rfl) hK hsy hP List.mem_cons_self hRT (fun nd hnd => ?_) (List.all_eq_true.mp k0)
  rw [List.mem_singleton.mp hnd]
  exact fun ρ5 σ5 H locs ls st hG => loop 5 (Nat.le_refl 5) ρ5 σ5 H locs ls st hG
end
section
/-! NameNotes.play -/
theorem np_ldcw {p : Program} {l : Launch} {e : Env} {R : Room} {s : State} {m : MethodId} {args : Array Value} {below : List Frame} {meth : Method} {c : Code} {H : Heap} {locs : List Loc} {cells slots : Nat} {Q : State → Prop} {cc : ByteArray} {pc : Nat} {ls : Array Slot} {st : List Value} {own tx : String} {is a : Nat}
    (hx : p.tables.exec = Jvm.exec) (hb : c.code = cc) (hown : s.vm.findClass own = some m.cls) (h : vk_R own is tx a s) (hdg : decode cc pc = .ok (.ldc_w is, 3)) (kk : W p l e R s m args below meth c H locs cells slots Q (F0 m (pc + 3) ls (.ref a :: st))) : W p l e R s m args below meth c H locs cells slots Q (F0 m pc ls st) := by
  intro T hT X
  obtain ⟨t, a1, b1⟩ := kk T hT X
  exact ⟨t, X.ldcStringW hx (own := own) (text := tx) (index := is) (a := a) hown h.1 h.2 (g := F0 m pc ls st) rfl (by rw [hb]; exact hdg) _ a1, b1⟩
theorem np_push {cy : Nat → ClassId} {ad wr cr : Nat → Nat} {D : va_G} {nL n0 : Nat} {ρ0 : Nat → Int} {σ0 : ab_SG} {A : Nat → Prop} {H0 : Heap} {X : ab_AS} {ρ : Nat → Int} {σ : ab_SG} {H : Heap} {locs : List Loc} {ls : Array Slot} {st : List Value} (k : Nat) (h : ab_Gm cy ad wr cr D vwCl nn_sh nn_T nn_C nL n0 ρ0 σ0 A H0 X ρ σ H locs ls st) : ab_Gm cy ad wr cr D vwCl nn_sh nn_T nn_C nL n0 ρ0 σ0 A H0 (X.1, (5, k, 0) :: X.2.1, X.2.2) ρ σ H locs ls (.ref (cr k) :: st) := by
  obtain ⟨g1, g2, g3, g4, g5, g6, g7⟩ := h
  refine ⟨g1, g2, g3, g4, ⟨?_, List.forall_mem_cons.mpr ⟨trivial, g5.2⟩⟩, g6, g7⟩
  rw [g5.1]
  rfl
/-- NameNotes.at 12 -/
def lq_735 : ab_CN := ([(2, 12, 0), (0, 1, 0)], [(0, 0), ((-2147483648), 2147483647)], [], [], [([(1, 2, 0)], [(0, 0), ((-2147483648), 2147483647), ((-9223372036854775808), 9223372036854775807)], [], [], [])])
theorem lr_735 (l : Launch) (cy : Nat → ClassId) (ad wr cr : Nat → Nat) (D : va_G) (hinj : nn_inj ad) : nn_H l cy ad wr cr D (87, 0, lq_735) := nn_hold (fuel := 17) (sp := []) (HD := []) (HN := []) (mu := ((0, [], []), (0, [], []), (0, [], []))) (KS := []) (NS := []) hinj nn_MT_code nn_KI1_ok nn_KJ1_ok nn_PF1_ok nn_PS1_ok nn_PM1_ok (fun _ h => absurd h List.not_mem_nil) (by decide +kernel)
def npl_A : ab_AS := ([(0, (2, 0, 0)), (1, (0, 1, 0)), (2, (0, 2, 0)), (3, (0, 3, 0))], [(2, 87, 0)], [(0, 0), (0, 4), (0, 4), (0, 5), ((-2147483648), 2147483647)], [], [((87, 1), (0, 0)), ((3, 14), (4, 0))], [(73, 3), (74, 1000000), (75, 1000000), (78, 1000000), (79, 1000000), (80, 1000000), (87, 1)])
def npl_B : ab_AS := ([(0, (2, 0, 0))], [(2, 87, 0)], [(0, 0), ((-2147483648), 2147483647), ((-2147483648), 2147483647), ((-2147483648), 2147483647)], [], [], [(73, 3), (74, 1000000), (75, 1000000), (78, 1000000), (79, 1000000), (80, 1000000), (87, 1), (88, 1000000)])
def npl_K : ab_KS := [(96, 1, cd_128), (109, 0, cd_134), (122, 1, cd_136), (123, 2, cd_137), (125, 2, cd_138), (91, 1, cd_177), (92, 5, cd_180), (124, 3, cd_343), (87, 0, lq_735)]
theorem npl_K_ok (l : Launch) (cy : Nat → ClassId) (ad wr cr : Nat → Nat) (D : va_G) (hinj : nn_inj ad) : ∀ q ∈ npl_K, nn_H l cy ad wr cr D q := List.forall_mem_cons.mpr ⟨ct_128 l cy ad wr cr D hinj, List.forall_mem_cons.mpr ⟨ct_134 l cy ad wr cr D hinj, List.forall_mem_cons.mpr ⟨ct_136 l cy ad wr cr D hinj, List.forall_mem_cons.mpr ⟨ct_137 l cy ad wr cr D hinj, List.forall_mem_cons.mpr ⟨ct_138 l cy ad wr cr D hinj, List.forall_mem_cons.mpr ⟨ct_177 l cy ad wr cr D hinj, List.forall_mem_cons.mpr ⟨ct_180 l cy ad wr cr D hinj, List.forall_mem_cons.mpr ⟨ct_343 l cy ad wr cr D hinj, List.forall_mem_cons.mpr ⟨lr_735 l cy ad wr cr D hinj, fun _ h => absurd h List.not_mem_nil⟩⟩⟩⟩⟩⟩⟩⟩⟩
def npl_E : ab_ND := (0, (ab_en0 0 npd_play.1, [], npd_play.2.1, npd_play.2.2.1, npd_play.2.2.2.1, []), ((0, [], []), (0, [], []), (0, [], [])))
theorem npl_c1 : ([npl_E]).all (ab_cn vwCl nn_T nn_C nn_sh nn_MT (nn_KI1.map (fun x => x.1)) (nn_KJ1.map (fun x => x.1)) (nn_PF1.map (fun x => x.1)) nn_kd (nn_PS1.map (fun x => x.1)) (nn_PM1.map (fun x => x.1)) npl_K 12 0 nn_dt108 7 4 npd_play.2.2.2.2 0 [] [31] [] [nq_nd 31 npl_A] ([npl_E]) 25) = true := by rw [← fz_cn_eq]; decide +kernel
def npl_R : List ab_AS := (ab_tr1 nn_T (110, 6, aw_d 3) 7 110 [(2, 87, 0), (5, 3, 0)] [] npl_A.1 npl_A.2.2.1 npl_A.2.2.2.1 npl_A.2.2.2.2.1 npl_A.2.2.2.2.2).getD []
theorem npl_R_ok : ab_tr1 nn_T (110, 6, aw_d 3) 7 110 [(2, 87, 0), (5, 3, 0)] [] npl_A.1 npl_A.2.2.1 npl_A.2.2.2.1 npl_A.2.2.2.2.1 npl_A.2.2.2.2.2 = some npl_R := nq_some (by decide +kernel)
def npl_N (x : ab_AS) : ab_ND := (37, x, ((1000000000000000000000, [], []), (0, [], []), (0, [], [])))
def npl_2 : List ab_ND := npl_R.map npl_N ++ [(81, ([(6, (0, 4, 0)), (5, (0, 5, 0)), (4, (0, 6, 0)), (0, (2, 0, 0)), (1, (0, 1, 0)), (2, (0, 2, 0)), (3, (0, 3, 0))], [], [(0, 0), (0, 4), (0, 4), (0, 5), (0, 9), ((-2147483648), 2147483647), (0, 1), ((-2147483648), 2147483647), ((-2147483648), 2147483647)], [], [((87, 1), (7, 0)), ((3, 14), (8, 0))], [(73, 3), (74, 1000000), (75, 1000000), (78, 1000000), (79, 1000000), (80, 1000000), (87, 1), (88, 1000000)]), ((9, [], [4]), (0, [], []), (0, [], [])))]
theorem npl_c2 : (npl_2).all (ab_cn vwCl nn_T nn_C nn_sh nn_MT (nn_KI1.map (fun x => x.1)) (nn_KJ1.map (fun x => x.1)) (nn_PF1.map (fun x => x.1)) nn_kd (nn_PS1.map (fun x => x.1)) (nn_PM1.map (fun x => x.1)) npl_K 12 0 nn_dt108 7 4 npd_play.2.2.2.2 0 [] [81, 168] [] [nq_nd 168 npl_B] (npl_2) 39) = true := by rw [← fz_cn_eq]; decide +kernel
def npl_S : List ab_AS := (ab_tr1 nn_T (110, 6, aw_d 4) 7 110 [(2, 87, 0), (5, 4, 0)] [] npl_B.1 npl_B.2.2.1 npl_B.2.2.2.1 npl_B.2.2.2.2.1 npl_B.2.2.2.2.2).getD []
theorem npl_S_ok : ab_tr1 nn_T (110, 6, aw_d 4) 7 110 [(2, 87, 0), (5, 4, 0)] [] npl_B.1 npl_B.2.2.1 npl_B.2.2.2.1 npl_B.2.2.2.2.1 npl_B.2.2.2.2.2 = some npl_S := nq_some (by decide +kernel)
theorem npl_c3 : (npl_S.map (nq_nd 174)).all (ab_cn vwCl nn_T nn_C nn_sh nn_MT (nn_KI1.map (fun x => x.1)) (nn_KJ1.map (fun x => x.1)) (nn_PF1.map (fun x => x.1)) nn_kd (nn_PS1.map (fun x => x.1)) (nn_PM1.map (fun x => x.1)) npl_K 12 0 nn_dt108 7 4 npd_play.2.2.2.2 0 [] [] [] [] (npl_S.map (nq_nd 174)) 20) = true := by rw [← fz_cn_eq]; decide +kernel
set_option maxHeartbeats 8000000 in
theorem npl_held (l : Launch) (cy : Nat → ClassId) (ad wr cr av : Nat → Nat) (D : va_G) (hinj : nn_inj ad) : np_H l cy ad wr cr av D (108, 12, npd_play) := by
  refine np_hold (mr := (⟨"NameNotes", "play", "(III)I"⟩, prog_1_method_28_code, 7, (Option.some Jvm.ClassFile.FieldType.int), 3, true, 0)) (dt := nn_dt108) (own := "NameNotes") (KS := npl_K) hinj rfl rfl (by decide +kernel) nn_KI1_ok nn_KJ1_ok nn_PF1_ok nn_PS1_ok nn_PM1_ok (npl_K_ok l cy ad wr cr D hinj) ?_
  intro p e s m below meth c R Q ρ σ hR1 hR2 hZ hY hE hK hsy hP hRT
  have hE2 := hE
  obtain ⟨hx, hb, hml, hown, hts, hKK, hN, hTTg, hcode, hA, hA2, hPM, hKS, hlev, hKI, hKJ, hPF, hD9, hCB, -⟩ := hE2
  have hsub : ∀ w ∈ nn_TT, w ∈ (Jvm.Cond.code (⟨"NameNotes", "play", "(III)I"⟩ : MethodName) prog_1_method_28_code 7 (Option.some Jvm.ClassFile.FieldType.int) :: nn_TT) := fun w hw => List.mem_cons_of_mem _ hw
  refine ab_entry (lev := 12) (sp := []) (HD := [31]) (HN := []) (EX := [nq_nd 31 npl_A]) (NS := [npl_E]) (fuel := 25) (mu := ((0, [], []), (0, [], []), (0, [], []))) hE (by decide +kernel) hK hsy hP List.mem_cons_self hRT (fun nd hnd => ?_) (List.all_eq_true.mp npl_c1)
  rw [List.mem_singleton.mp hnd]
  intro ρ2 σ2 H locs ls st hG
  refine np_ldcw hx hb hown (hCB.2.2.2.2 ("NameNotes", 284, "clue ", 3) (by decide +kernel)) (show decode prog_1_method_28_code 31 = .ok (.ldc_w 284, 3) by decide +kernel) ?_
  replace hG := np_push 3 hG
  refine np_cl (own := "NameNotes") (cells := 0) (slots := 0) (nL := 7) (rest := []) (q := (110, 6, aw_d 3)) (mr := (⟨"NameNotes$Text", "addWord", "(Ljava/lang/String;)V"⟩, prog_11_method_4_code, 3, (Option.none : Option Jvm.ClassFile.FieldType), 1, true, 4)) ⟨Nat.zero_le _, Nat.zero_le _⟩ hx hb hml hown hts hKK hN hCB hZ hY rfl hsub hA hA2 rfl rfl (ab_mlk_mono (nn_PM1_ok (286, 0, 110) (by decide +kernel)) hsub) (hsub _ (nn_at_ok (i := 4179) (by decide +kernel))) (aw_held l cy ad wr cr av D hinj (i := 0) (by decide)) ⟨by rw [hR1]; decide, by rw [hR2]; decide⟩ (as := [(2, 87, 0), (5, 3, 0)]) rfl rfl (by decide) (by decide) npl_R_ok (show decode prog_1_method_28_code 34 = .ok (.invokevirtual 286, 3) by decide +kernel) hG ?_
  intro x hx9 ρ3 σ3 H1 locs1 st1 _ hG
  refine ab_nodes_ok (EX := [nq_nd 168 npl_B]) (NS := npl_2) hE hRT (fun nd hnd => ?_) (List.all_eq_true.mp npl_c2) (npl_N x) (List.mem_append_left _ (List.mem_map.mpr ⟨x, hx9, rfl⟩)) ρ3 σ3 H1 locs1 ls st1 hG
  rw [List.mem_singleton.mp hnd]
  intro ρ4 σ4 H locs ls st hG
  refine np_ldcw hx hb hown (hCB.2.2.2.2 ("NameNotes", 309, "name;", 4) (by decide +kernel)) (show decode prog_1_method_28_code 168 = .ok (.ldc_w 309, 3) by decide +kernel) ?_
  replace hG := np_push 4 hG
  refine np_cl (own := "NameNotes") (cells := 0) (slots := 0) (nL := 7) (rest := []) (q := (110, 6, aw_d 4)) (mr := (⟨"NameNotes$Text", "addWord", "(Ljava/lang/String;)V"⟩, prog_11_method_4_code, 3, (Option.none : Option Jvm.ClassFile.FieldType), 1, true, 4)) ⟨Nat.zero_le _, Nat.zero_le _⟩ hx hb hml hown hts hKK hN hCB hZ hY rfl hsub hA hA2 rfl rfl (ab_mlk_mono (nn_PM1_ok (286, 0, 110) (by decide +kernel)) hsub) (hsub _ (nn_at_ok (i := 4179) (by decide +kernel))) (aw_held l cy ad wr cr av D hinj (i := 1) (by decide)) ⟨by rw [hR1]; decide, by rw [hR2]; decide⟩ (as := [(2, 87, 0), (5, 4, 0)]) rfl rfl (by decide) (by decide) npl_S_ok (show decode prog_1_method_28_code 171 = .ok (.invokevirtual 286, 3) by decide +kernel) hG ?_
  intro x hx9 ρ3 σ3 H1 locs1 st1 _ hG
  exact ab_nodes_ok (EX := []) (NS := npl_S.map (nq_nd 174)) hE hRT nh_nil (List.all_eq_true.mp npl_c3) (nq_nd 174 x) (List.mem_map.mpr ⟨x, hx9, rfl⟩) ρ3 σ3 H1 locs1 ls st1 hG
end
section
/-! what the premises give of the classes and links -/
theorem ls_cls {s : State} {args : Array Value} (hts : ∀ w ∈ lw_tbl, w.before args s = true) {ci : Nat} {n : Nat} (hc : nn_cls vwCl ci) (hi : ∀ q : vw_C, vwCl[ci]? = some q → Jvm.Cond.instantiable q.1 n ∈ lw_tbl) : ∃ (cC : ClassId) (iS : Nat → Nat), ∀ q : vw_C, vwCl[ci]? = some q → u_Kn s q.1 q.2.1 q.2.2 cC iS := by
  obtain ⟨C, T, N, h1, h2, -, -⟩ := hc
  obtain ⟨cC, iS, h⟩ := u_known (C := C) (T := T) (N := N) (n := n) hts (fun w hw => (List.mem_filter.mp (h2 w hw)).1) (hts _ (hi _ h1))
  refine ⟨cC, iS, fun q hq => ?_⟩
  rw [h1] at hq
  cases hq
  exact h
theorem ls_arr {s : State} {args : Array Value} {ty : FieldType} (h : (Cond.arrayClass ty).before args s = true) (hn : ∀ C, ty ≠ .object C) : ∃ cA : ClassId, ArrOfT s cA ty ∧ va_RA s cA ty := by
  obtain ⟨cA, kA, comp, h1, h2, h3⟩ := Cond.arrayClass_spec h
  refine ⟨cA, fun n z => ⟨fun k h => (by cases h), kA, h2, comp, h3⟩, ?_⟩
  cases ty with
  | object C => exact absurd rfl (hn C)
  | _ => exact h1
theorem ls_K {s : State} {args : Array Value} (hts : ∀ w ∈ lw_tbl, w.before args s = true) : ∃ (D : va_G) (cy : Nat → ClassId), va_K D vwCl (ab_tys cy) s := by
  obtain ⟨c0, i0, h0⟩ := ls_cls hts (ci := 0) (n := 3) (nn_cls_all 0 (by decide)) (fun q hq => by cases hq; decide +kernel)
  obtain ⟨c1, i1, h1⟩ := ls_cls hts (ci := 1) (n := 4) (nn_cls_all 1 (by decide)) (fun q hq => by cases hq; decide +kernel)
  obtain ⟨c2, i2, h2⟩ := ls_cls hts (ci := 2) (n := 8) (nn_cls_all 2 (by decide)) (fun q hq => by cases hq; decide +kernel)
  obtain ⟨c3, i3, h3⟩ := ls_cls hts (ci := 3) (n := 2) (nn_cls_all 3 (by decide)) (fun q hq => by cases hq; decide +kernel)
  obtain ⟨c4, i4, h4⟩ := ls_cls hts (ci := 4) (n := 7) (nn_cls_all 4 (by decide)) (fun q hq => by cases hq; decide +kernel)
  obtain ⟨c5, i5, h5⟩ := ls_cls hts (ci := 5) (n := 5) (nn_cls_all 5 (by decide)) (fun q hq => by cases hq; decide +kernel)
  obtain ⟨c6, i6, h6⟩ := ls_cls hts (ci := 6) (n := 17) (nn_cls_all 6 (by decide)) (fun q hq => by cases hq; decide +kernel)
  obtain ⟨c7, i7, h7⟩ := ls_cls hts (ci := 7) (n := 6) (nn_cls_all 7 (by decide)) (fun q hq => by cases hq; decide +kernel)
  obtain ⟨c8, i8, h8⟩ := ls_cls hts (ci := 8) (n := 11) (nn_cls_all 8 (by decide)) (fun q hq => by cases hq; decide +kernel)
  obtain ⟨c9, i9, h9⟩ := ls_cls hts (ci := 9) (n := 2) (nn_cls_all 9 (by decide)) (fun q hq => by cases hq; decide +kernel)
  obtain ⟨c10, i10, h10⟩ := ls_cls hts (ci := 10) (n := 18) (nn_cls_all 10 (by decide)) (fun q hq => by cases hq; decide +kernel)
  obtain ⟨c11, i11, h11⟩ := ls_cls hts (ci := 11) (n := 63) (nn_cls_all 11 (by decide)) (fun q hq => by cases hq; decide +kernel)
  obtain ⟨a0, b0⟩ := ls_arr (ty := .int) (hts (.arrayClass .int) (by decide +kernel)) (fun C h => by cases h)
  obtain ⟨a1, b1⟩ := ls_arr (ty := .long) (hts (.arrayClass .long) (by decide +kernel)) (fun C h => by cases h)
  obtain ⟨a2, b2⟩ := ls_arr (ty := .byte) (hts (.arrayClass .byte) (by decide +kernel)) (fun C h => by cases h)
  obtain ⟨a3, b3⟩ := ls_arr (ty := .boolean) (hts (.arrayClass .boolean) (by decide +kernel)) (fun C h => by cases h)
  refine ⟨(fun k => match k with | 0 => c0 | 1 => c1 | 2 => c2 | 3 => c3 | 4 => c4 | 5 => c5 | 6 => c6 | 7 => c7 | 8 => c8 | 9 => c9 | 10 => c10 | _ => c11, fun k => match k with | 0 => i0 | 1 => i1 | 2 => i2 | 3 => i3 | 4 => i4 | 5 => i5 | 6 => i6 | 7 => i7 | 8 => i8 | 9 => i9 | 10 => i10 | _ => i11), fun k => match k with | 0 => a0 | 1 => a1 | 2 => a2 | _ => a3, ?_, ?_⟩
  · intro ci q hq
    have hlt : ci < 12 := (List.getElem?_eq_some_iff.mp hq).1
    match ci, hlt, hq with
    | 0, _, hq => exact h0 q hq
    | 1, _, hq => exact h1 q hq
    | 2, _, hq => exact h2 q hq
    | 3, _, hq => exact h3 q hq
    | 4, _, hq => exact h4 q hq
    | 5, _, hq => exact h5 q hq
    | 6, _, hq => exact h6 q hq
    | 7, _, hq => exact h7 q hq
    | 8, _, hq => exact h8 q hq
    | 9, _, hq => exact h9 q hq
    | 10, _, hq => exact h10 q hq
    | 11, _, hq => exact h11 q hq
  · intro k q hq
    have hlt : k < 4 := (List.getElem?_eq_some_iff.mp hq).1
    match k, hlt, hq with
    | 0, _, hq => cases hq; exact b0
    | 1, _, hq => cases hq; exact b1
    | 2, _, hq => cases hq; exact b2
    | 3, _, hq => cases hq; exact b3
theorem ls_NW : ∀ q ∈ nn_NW, Jvm.Cond.methodLinkNest q.1 q.2.1 q.2.2.1 q.2.2.2 ∈ lw_tbl := by decide +kernel
theorem ls_N {s : State} {args : Array Value} (hts : ∀ w ∈ lw_tbl, w.before args s = true) : ab_okN nn_NW s := fun q hq => va_Nw.of rfl (hts _ (ls_NW q hq))
theorem ls_bad : ∀ w ∈ nx_bad, w ∈ lw_tbl := fun w hw => nx_wds_in w (List.mem_filter.mp hw).1
/-- the two static fields of Throwable, the words that no contract carries -/
theorem ls_Z {s : State} {args : Array Value} (hts : ∀ w ∈ lw_tbl, w.before args s = true) (hgv : (Jvm.Cond.and given_1 narrow_1).before args s = true) : nx_Z (fun q : Nat => s.heap.size ≤ q) s := by
  have hs := flat_of_before _ hgv
  refine ⟨vx_Zqof (hts _ (by decide +kernel)) (hts _ (by decide +kernel)) (hs (Cond.isRef (.static Bundle.tN "UNASSIGNED_STACK" Bundle.steD)) (by decide +kernel)) (fun a ha h => Nat.not_le.mpr ha h), vx_Zqof (hts _ (by decide +kernel)) (hts _ (by decide +kernel)) (hs (Cond.isRef (.static Bundle.tN "SUPPRESSED_SENTINEL" Bundle.listD)) (by decide +kernel)) (fun a ha h => Nat.not_le.mpr ha h), fun w hw => nx_alk_ok (Vm.Alike.refl s.vm) (nx_bad_alk w hw) (hts w (ls_bad w hw))⟩
end
