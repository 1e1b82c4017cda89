/-! turn after turn -/
/-- a list that leaves what the relation speaks of, but for the tapes' sizes and the counts' row -/
def sx_b (M : ab_ML) : Bool := M.all (fun q => !(q.1.beq 2) && !(q.1.beq 94) && !(q.1.beq 97) && !(q.1.beq 102)) && (mk_b M 3 11 && mk_b M 3 12 && mk_b M 3 13 && mk_b M 3 14) && (mk_b M 18 11 && mk_b M 18 12 && mk_b M 18 13 && mk_b M 18 14 && mk_b M 18 16) && (mk_b M 33 11 && mk_b M 33 12 && mk_b M 33 13 && mk_b M 33 14 && mk_b M 33 16)
theorem sx_ok {M : ab_ML} {σ σ' : ab_SG} (h : ab_okM M σ σ') (hk : sx_b M = true) {k j : Nat} (hs : su k j) (h1 : k ≠ 1) (h9 : k ≠ 93) (h5 : k ≠ 95) : σ' k j = σ k j := by
  unfold sx_b at hk
  simp only [Bool.and_eq_true] at hk
  obtain ⟨⟨⟨a0, ⟨⟨a1, a2⟩, a3⟩, a4⟩, ⟨⟨⟨b1, b2⟩, b3⟩, b4⟩, b5⟩, ⟨⟨⟨c1, c2⟩, c3⟩, c4⟩, c5⟩ := hk
  have row : ∀ k : Nat, (k = 2 ∨ k = 94 ∨ k = 97 ∨ k = 102) → M.all (fun q => !(q.1.beq k)) = true := fun k hk => by
    refine List.all_eq_true.mpr (fun q hq => ?_)
    have g := List.all_eq_true.mp a0 q hq
    rw [Bool.and_eq_true, Bool.and_eq_true, Bool.and_eq_true] at g
    rcases hk with rfl | rfl | rfl | rfl
    · exact g.1.1.1
    · exact g.1.1.2
    · exact g.1.2
    · exact g.2
  rcases hs with ⟨rfl, -⟩ | ⟨rfl, -⟩ | ⟨rfl, -⟩ | ⟨rfl, -⟩ | ⟨rfl, -⟩ | ⟨rfl, -⟩ | ⟨rfl, g1, g2⟩ | ⟨rfl, g⟩ | ⟨rfl, g⟩ | ⟨rfl, -⟩
  · exact mk_row h (row 2 (by decide)) j
  · exact mk_row h (row 94 (by decide)) j
  · exact absurd rfl h5
  · exact mk_row h (row 97 (by decide)) j
  · exact mk_row h (row 102 (by decide)) j
  · exact absurd rfl h1
  · rcases (show j = 11 ∨ j = 12 ∨ j = 13 ∨ j = 14 by omega) with rfl | rfl | rfl | rfl
    · exact mk_at h a1
    · exact mk_at h a2
    · exact mk_at h a3
    · exact mk_at h a4
  · rcases (show j = 11 ∨ j = 12 ∨ j = 13 ∨ j = 14 ∨ j = 16 by omega) with rfl | rfl | rfl | rfl | rfl
    · exact mk_at h b1
    · exact mk_at h b2
    · exact mk_at h b3
    · exact mk_at h b4
    · exact mk_at h b5
  · rcases (show j = 11 ∨ j = 12 ∨ j = 13 ∨ j = 14 ∨ j = 16 by omega) with rfl | rfl | rfl | rfl | rfl
    · exact mk_at h c1
    · exact mk_at h c2
    · exact mk_at h c3
    · exact mk_at h c4
    · exact mk_at h c5
  · exact absurd rfl h9
def lw_E_X : ab_AS := (lw_X.2.1.1, lw_X.2.1.2.1, lw_X.2.1.2.2.1, lw_X.2.1.2.2.2.1, lw_X.2.1.2.2.2.2.1, [])
def lw_h_X : ab_BD × ab_TH := (ab_hit0 nn_T 2 lw_E_X lw_S).getD ([], [])
theorem lw_h_X_ok : ab_hit0 nn_T 2 lw_E_X lw_S = some (lw_h_X.1, lw_h_X.2) := nq_someD (d := ([], [])) (by decide +kernel)
theorem lw_t1_X : lw_h_X.2[1]? = some (1, 0) := by decide +kernel
theorem lw_t2_X : lw_h_X.2[2]? = some (10, 0) := by decide +kernel
theorem lw_n_X {cy : Nat → ClassId} {ad wr cr : Nat → Nat} {D : va_G} {A : Nat → Prop} {H0 : Heap} {ρb ρ2 : Nat → Int} {σb σ2 : ab_SG} {H : Heap} {locs : List Loc} {ls : Array Slot} {st : List Value} (hG : ab_Gm cy ad wr cr D vwCl nn_sh nn_T nn_C 8 10 ρb σb A H0 lw_X.2.1 ρ2 σ2 H locs ls st) : ∃ ρ3 : Nat → Int, ρ3 1 = ρ2 1 ∧ ρ3 2 = ρ2 10 ∧ ab_Gm cy ad wr cr D vwCl nn_sh nn_T nn_C 8 10 ρ3 σ2 A H0 lw_S.2.1 ρ3 σ2 H locs ls st := by
  obtain ⟨q1, q2, q3, q4, q5, q6, q7⟩ := hG
  have hG3 : ab_Gm cy ad wr cr D vwCl nn_sh nn_T nn_C 8 2 ρ2 σ2 A H0 lw_E_X ρ2 σ2 H locs ls st := ⟨ab_K_start q1, fun _ _ => rfl, by decide +kernel, q4, q5, q6, q7⟩
  obtain ⟨ρ1, k1, k2, k3, k4, k5, k6⟩ := ab_hit0_ok lw_h_X_ok hG3
  obtain ⟨z1, z2, z3, z4, z5, z6, z7⟩ := k6
  refine ⟨ab_thv lw_h_X.2 ρ1, ?_, ?_, ⟨z1, fun _ _ => rfl, by decide +kernel, z4, z5, z6, z7⟩⟩
  · unfold ab_thv
    rw [lw_t1_X]
    show ρ1 1 + 0 = _
    rw [Int.add_zero, k2 1 (by decide +kernel)]
  · unfold ab_thv
    rw [lw_t2_X]
    show ρ1 10 + 0 = _
    rw [Int.add_zero, k2 10 (by decide +kernel)]
theorem lw_s_X : sx_b lw_X.2.1.2.2.2.2.2 = true := by decide +kernel
theorem lw_y_X : (rx_c lw_X.2.1.2.2.2.2.2 && sy_b lw_X.2.1.2.2.2.2.2) = true := by decide +kernel
theorem lw_o_X : lw_X.2.1.2.2.2.2.2.all (fun q => !(q.1.beq 140)) = true := by decide +kernel
def lw_E_L1 : ab_AS := (lw_L1.2.1.1, lw_L1.2.1.2.1, lw_L1.2.1.2.2.1, lw_L1.2.1.2.2.2.1, lw_L1.2.1.2.2.2.2.1, [])
def lw_h_L1 : ab_BD × ab_TH := (ab_hit0 nn_T 2 lw_E_L1 lw_S).getD ([], [])
theorem lw_h_L1_ok : ab_hit0 nn_T 2 lw_E_L1 lw_S = some (lw_h_L1.1, lw_h_L1.2) := nq_someD (d := ([], [])) (by decide +kernel)
theorem lw_t1_L1 : lw_h_L1.2[1]? = some (1, 0) := by decide +kernel
theorem lw_t2_L1 : lw_h_L1.2[2]? = some (10, 0) := by decide +kernel
theorem lw_n_L1 {cy : Nat → ClassId} {ad wr cr : Nat → Nat} {D : va_G} {A : Nat → Prop} {H0 : Heap} {ρb ρ2 : Nat → Int} {σb σ2 : ab_SG} {H : Heap} {locs : List Loc} {ls : Array Slot} {st : List Value} (hG : ab_Gm cy ad wr cr D vwCl nn_sh nn_T nn_C 8 10 ρb σb A H0 lw_L1.2.1 ρ2 σ2 H locs ls st) : ∃ ρ3 : Nat → Int, ρ3 1 = ρ2 1 ∧ ρ3 2 = ρ2 10 ∧ ab_Gm cy ad wr cr D vwCl nn_sh nn_T nn_C 8 10 ρ3 σ2 A H0 lw_S.2.1 ρ3 σ2 H locs ls st := by
  obtain ⟨q1, q2, q3, q4, q5, q6, q7⟩ := hG
  have hG3 : ab_Gm cy ad wr cr D vwCl nn_sh nn_T nn_C 8 2 ρ2 σ2 A H0 lw_E_L1 ρ2 σ2 H locs ls st := ⟨ab_K_start q1, fun _ _ => rfl, by decide +kernel, q4, q5, q6, q7⟩
  obtain ⟨ρ1, k1, k2, k3, k4, k5, k6⟩ := ab_hit0_ok lw_h_L1_ok hG3
  obtain ⟨z1, z2, z3, z4, z5, z6, z7⟩ := k6
  refine ⟨ab_thv lw_h_L1.2 ρ1, ?_, ?_, ⟨z1, fun _ _ => rfl, by decide +kernel, z4, z5, z6, z7⟩⟩
  · unfold ab_thv
    rw [lw_t1_L1]
    show ρ1 1 + 0 = _
    rw [Int.add_zero, k2 1 (by decide +kernel)]
  · unfold ab_thv
    rw [lw_t2_L1]
    show ρ1 10 + 0 = _
    rw [Int.add_zero, k2 10 (by decide +kernel)]
theorem lw_s_L1 : sx_b lw_L1.2.1.2.2.2.2.2 = true := by decide +kernel
theorem lw_y_L1 : (rx_c lw_L1.2.1.2.2.2.2.2 && sy_b lw_L1.2.1.2.2.2.2.2) = true := by decide +kernel
theorem lw_o_L1 : lw_L1.2.1.2.2.2.2.2.all (fun q => !(q.1.beq 140)) = true := by decide +kernel
def lw_E_L0 : ab_AS := (lw_L0.2.1.1, lw_L0.2.1.2.1, lw_L0.2.1.2.2.1, lw_L0.2.1.2.2.2.1, lw_L0.2.1.2.2.2.2.1, [])
def lw_h_L0 : ab_BD × ab_TH := (ab_hit0 nn_T 2 lw_E_L0 lw_S).getD ([], [])
theorem lw_h_L0_ok : ab_hit0 nn_T 2 lw_E_L0 lw_S = some (lw_h_L0.1, lw_h_L0.2) := nq_someD (d := ([], [])) (by decide +kernel)
theorem lw_t1_L0 : lw_h_L0.2[1]? = some (1, 0) := by decide +kernel
theorem lw_t2_L0 : lw_h_L0.2[2]? = some (10, 0) := by decide +kernel
theorem lw_n_L0 {cy : Nat → ClassId} {ad wr cr : Nat → Nat} {D : va_G} {A : Nat → Prop} {H0 : Heap} {ρb ρ2 : Nat → Int} {σb σ2 : ab_SG} {H : Heap} {locs : List Loc} {ls : Array Slot} {st : List Value} (hG : ab_Gm cy ad wr cr D vwCl nn_sh nn_T nn_C 8 10 ρb σb A H0 lw_L0.2.1 ρ2 σ2 H locs ls st) : ∃ ρ3 : Nat → Int, ρ3 1 = ρ2 1 ∧ ρ3 2 = ρ2 10 ∧ ab_Gm cy ad wr cr D vwCl nn_sh nn_T nn_C 8 10 ρ3 σ2 A H0 lw_S.2.1 ρ3 σ2 H locs ls st := by
  obtain ⟨q1, q2, q3, q4, q5, q6, q7⟩ := hG
  have hG3 : ab_Gm cy ad wr cr D vwCl nn_sh nn_T nn_C 8 2 ρ2 σ2 A H0 lw_E_L0 ρ2 σ2 H locs ls st := ⟨ab_K_start q1, fun _ _ => rfl, by decide +kernel, q4, q5, q6, q7⟩
  obtain ⟨ρ1, k1, k2, k3, k4, k5, k6⟩ := ab_hit0_ok lw_h_L0_ok hG3
  obtain ⟨z1, z2, z3, z4, z5, z6, z7⟩ := k6
  refine ⟨ab_thv lw_h_L0.2 ρ1, ?_, ?_, ⟨z1, fun _ _ => rfl, by decide +kernel, z4, z5, z6, z7⟩⟩
  · unfold ab_thv
    rw [lw_t1_L0]
    show ρ1 1 + 0 = _
    rw [Int.add_zero, k2 1 (by decide +kernel)]
  · unfold ab_thv
    rw [lw_t2_L0]
    show ρ1 10 + 0 = _
    rw [Int.add_zero, k2 10 (by decide +kernel)]
theorem lw_s_L0 : sx_b lw_L0.2.1.2.2.2.2.2 = true := by decide +kernel
theorem lw_y_L0 : (rx_c lw_L0.2.1.2.2.2.2.2 && sy_b lw_L0.2.1.2.2.2.2.2) = true := by decide +kernel
theorem lw_o_L0 : lw_L0.2.1.2.2.2.2.2.all (fun q => !(q.1.beq 140)) = true := by decide +kernel
theorem lw_m_X : (mk_b lw_X.2.1.2.2.2.2.2 1 1 && mk_b lw_X.2.1.2.2.2.2.2 93 2 && mk_b lw_X.2.1.2.2.2.2.2 93 22) = true := by decide +kernel
theorem lw_r9_X {cy : Nat → ClassId} {ad wr cr : Nat → Nat} {D : va_G} {A : Nat → Prop} {H0 : Heap} {ρb ρ2 : Nat → Int} {σb σ2 : ab_SG} {H : Heap} {locs : List Loc} {ls : Array Slot} {st : List Value} (hG : ab_Gm cy ad wr cr D vwCl nn_sh nn_T nn_C 8 10 ρb σb A H0 lw_X.2.1 ρ2 σ2 H locs ls st) (h95 : ∀ j : Nat, j < 4 → σb 95 j = ρb (6 + j)) (hR : RQ9 σb) : RQ9 σ2 := by
  have hM := hG.1.2.2.2.2.2.2.2
  have hm := lw_m_X
  rw [Bool.and_eq_true, Bool.and_eq_true] at hm
  refine RQ9_keep (fun k j hs h23 => ?_) hR
  by_cases e1 : k = 1
  · subst e1
    have h3 : j = 1 := by
      unfold su at hs
      omega
    subst h3
    exact mk_at hM hm.1.1
  by_cases e2 : k = 93
  · subst e2
    have h3 : j = 2 ∨ j = 22 := by
      unfold su at hs
      omega
    rcases h3 with rfl | rfl
    · exact mk_at hM hm.1.2
    · exact mk_at hM hm.2
  by_cases e3 : k = 95
  · subst e3
    have h3 : j = 0 ∨ j = 1 ∨ j = 2 ∨ j = 3 := by
      unfold su at hs
      omega
    rw [h95 j (by omega)]
    rcases h3 with rfl | rfl | rfl | rfl
    · have h := lw_d hG.1.2.2.2.2.1 (k := 95) (j := 0) (s := 6) (c := 0) (by decide +kernel) rfl
      rw [Int.add_zero, hG.2.1 6 (by decide)] at h
      exact h
    · have h := lw_d hG.1.2.2.2.2.1 (k := 95) (j := 1) (s := 7) (c := 0) (by decide +kernel) rfl
      rw [Int.add_zero, hG.2.1 7 (by decide)] at h
      exact h
    · have h := lw_d hG.1.2.2.2.2.1 (k := 95) (j := 2) (s := 8) (c := 0) (by decide +kernel) rfl
      rw [Int.add_zero, hG.2.1 8 (by decide)] at h
      exact h
    · have h := lw_d hG.1.2.2.2.2.1 (k := 95) (j := 3) (s := 9) (c := 0) (by decide +kernel) rfl
      rw [Int.add_zero, hG.2.1 9 (by decide)] at h
      exact h
  · exact sx_ok hM lw_s_X hs e1 e2 e3
theorem lw_r_X {cy : Nat → ClassId} {ad wr cr : Nat → Nat} {D : va_G} {A : Nat → Prop} {H0 : Heap} {ρb ρ2 : Nat → Int} {σb σ2 : ab_SG} {H : Heap} {locs : List Loc} {ls : Array Slot} {st : List Value} (hG : ab_Gm cy ad wr cr D vwCl nn_sh nn_T nn_C 8 10 ρb σb A H0 lw_X.2.1 ρ2 σ2 H locs ls st) (h95 : ∀ j : Nat, j < 4 → σb 95 j = ρb (6 + j)) (hR : RQ σb) : RQ σ2 := by
  have hM := hG.1.2.2.2.2.2.2.2
  have hm := lw_m_X
  have hy := lw_y_X
  rw [Bool.and_eq_true] at hy
  rw [Bool.and_eq_true, Bool.and_eq_true] at hm
  have e3 : σ2 95 3 = σb 95 3 := by
    have h := lw_d hG.1.2.2.2.2.1 (k := 95) (j := 3) (s := 9) (c := 0) (by decide +kernel) rfl
    rw [Int.add_zero, hG.2.1 9 (by decide)] at h
    rw [h, h95 3 (by decide)]
  have e95 : ∀ j : Nat, j < 232 → σ2 95 j = σb 95 j := fun j hj => by
    by_cases h : j = 3
    · rw [h]
      exact e3
    · exact mk_95b hM hy.2 hj h
  exact ⟨lw_r9_X hG h95 hR.1, rx_one hM hy.1 (fun j hj => mlN_same (mk_at hM hm.2) e95 j hj) (fun j _ hj => e95 j hj) hR.2⟩
theorem lw_r_L1 {cy : Nat → ClassId} {ad wr cr : Nat → Nat} {D : va_G} {A : Nat → Prop} {H0 : Heap} {ρb ρ2 : Nat → Int} {σb σ2 : ab_SG} {H : Heap} {locs : List Loc} {ls : Array Slot} {st : List Value} (hG : ab_Gm cy ad wr cr D vwCl nn_sh nn_T nn_C 8 10 ρb σb A H0 lw_L1.2.1 ρ2 σ2 H locs ls st) (h95 : ∀ j : Nat, j < 4 → σb 95 j = ρb (6 + j)) (h22 : σb 93 22 = ρb 5) (hR : RQ σb) : RQ σ2 := by
  have hM := hG.1.2.2.2.2.2.2.2
  have z0 : ρ2 0 = 0 := hG.1.2.2.1
  have b5 : (1 : Int) ≤ ρ2 5 ∧ ρ2 5 ≤ 1 := hG.1.1 5 (by decide)
  have r5 : ρ2 5 = ρb 5 := hG.2.1 5 (by decide)
  have d1 : σ2 1 1 = 0 := by
    have h := lw_d hG.1.2.2.2.2.1 (k := 1) (j := 1) (s := 0) (c := 0) (by decide +kernel) rfl
    rw [z0] at h
    exact h
  have d2 : σ2 93 2 = 0 := by
    have h := lw_d hG.1.2.2.2.2.1 (k := 93) (j := 2) (s := 0) (c := 0) (by decide +kernel) rfl
    rw [z0] at h
    exact h
  have d3 : σ2 93 22 = 1 := by
    have h := lw_d hG.1.2.2.2.2.1 (k := 93) (j := 22) (s := 0) (c := 1) (by decide +kernel) rfl
    rw [z0] at h
    exact h
  have c0 : σ2 95 0 = σb 95 0 := by
    have h := lw_d hG.1.2.2.2.2.1 (k := 95) (j := 0) (s := 6) (c := 0) (by decide +kernel) rfl
    rw [Int.add_zero, hG.2.1 6 (by decide)] at h
    rw [h, h95 0 (by decide)]
  have c1 : σ2 95 1 = σb 95 1 := by
    have h := lw_d hG.1.2.2.2.2.1 (k := 95) (j := 1) (s := 7) (c := 0) (by decide +kernel) rfl
    rw [Int.add_zero, hG.2.1 7 (by decide)] at h
    rw [h, h95 1 (by decide)]
  have c2 : σ2 95 2 = σb 95 2 := by
    have h := lw_d hG.1.2.2.2.2.1 (k := 95) (j := 2) (s := 8) (c := 0) (by decide +kernel) rfl
    rw [Int.add_zero, hG.2.1 8 (by decide)] at h
    rw [h, h95 2 (by decide)]
  have c3 : σ2 95 3 = σb 95 3 := by
    have h := lw_d hG.1.2.2.2.2.1 (k := 95) (j := 3) (s := 9) (c := 0) (by decide +kernel) rfl
    rw [Int.add_zero, hG.2.1 9 (by decide)] at h
    rw [h, h95 3 (by decide)]
  have hl : ly_is σb σ2 := ⟨d3, fun h => absurd (h22.symm.trans h) (by omega), fun h => c3⟩
  have hy := lw_y_L1
  rw [Bool.and_eq_true] at hy
  have e95 : ∀ j : Nat, j < 232 → j ≠ 3 → σ2 95 j = σb 95 j := fun j hj h => mk_95b hM hy.2 hj h
  refine ⟨RQ9_lay (fun k j hs e1 e2 e3 => ?_) d1 d2 hl hR.1, rx_one hM hy.1 (fun j hj => mlN_ly hl e95 j hj) (fun j a hj => e95 j hj (by omega)) hR.2⟩
  by_cases e4 : k = 95
  · subst e4
    have h3 : j = 0 ∨ j = 1 ∨ j = 2 := by
      have : ¬ j = 3 := fun h => e3 ⟨rfl, h⟩
      unfold su at hs
      omega
    rcases h3 with rfl | rfl | rfl
    · exact c0
    · exact c1
    · exact c2
  · exact sx_ok hM lw_s_L1 hs e1 e2 e4
theorem lw_r_L0 {cy : Nat → ClassId} {ad wr cr : Nat → Nat} {D : va_G} {A : Nat → Prop} {H0 : Heap} {ρb ρ2 : Nat → Int} {σb σ2 : ab_SG} {H : Heap} {locs : List Loc} {ls : Array Slot} {st : List Value} (hG : ab_Gm cy ad wr cr D vwCl nn_sh nn_T nn_C 8 10 ρb σb A H0 lw_L0.2.1 ρ2 σ2 H locs ls st) (h95 : ∀ j : Nat, j < 4 → σb 95 j = ρb (6 + j)) (h22 : σb 93 22 = ρb 5) (hR : RQ σb) : RQ σ2 := by
  have hM := hG.1.2.2.2.2.2.2.2
  have z0 : ρ2 0 = 0 := hG.1.2.2.1
  have b5 : (0 : Int) ≤ ρ2 5 ∧ ρ2 5 ≤ 0 := hG.1.1 5 (by decide)
  have r5 : ρ2 5 = ρb 5 := hG.2.1 5 (by decide)
  have d1 : σ2 1 1 = 0 := by
    have h := lw_d hG.1.2.2.2.2.1 (k := 1) (j := 1) (s := 0) (c := 0) (by decide +kernel) rfl
    rw [z0] at h
    exact h
  have d2 : σ2 93 2 = 0 := by
    have h := lw_d hG.1.2.2.2.2.1 (k := 93) (j := 2) (s := 0) (c := 0) (by decide +kernel) rfl
    rw [z0] at h
    exact h
  have d3 : σ2 93 22 = 1 := by
    have h := lw_d hG.1.2.2.2.2.1 (k := 93) (j := 22) (s := 0) (c := 1) (by decide +kernel) rfl
    rw [z0] at h
    exact h
  have c0 : σ2 95 0 = σb 95 0 := by
    have h := lw_d hG.1.2.2.2.2.1 (k := 95) (j := 0) (s := 6) (c := 0) (by decide +kernel) rfl
    rw [Int.add_zero, hG.2.1 6 (by decide)] at h
    rw [h, h95 0 (by decide)]
  have c1 : σ2 95 1 = σb 95 1 := by
    have h := lw_d hG.1.2.2.2.2.1 (k := 95) (j := 1) (s := 7) (c := 0) (by decide +kernel) rfl
    rw [Int.add_zero, hG.2.1 7 (by decide)] at h
    rw [h, h95 1 (by decide)]
  have c2 : σ2 95 2 = σb 95 2 := by
    have h := lw_d hG.1.2.2.2.2.1 (k := 95) (j := 2) (s := 8) (c := 0) (by decide +kernel) rfl
    rw [Int.add_zero, hG.2.1 8 (by decide)] at h
    rw [h, h95 2 (by decide)]
  have c3 : σ2 95 3 = 9 := by
    have h := lw_d hG.1.2.2.2.2.1 (k := 95) (j := 3) (s := 0) (c := 9) (by decide +kernel) rfl
    rw [z0] at h
    exact h
  have hl : ly_is σb σ2 := ⟨d3, fun h => c3, fun h => absurd (by omega) h⟩
  have hy := lw_y_L0
  rw [Bool.and_eq_true] at hy
  have e95 : ∀ j : Nat, j < 232 → j ≠ 3 → σ2 95 j = σb 95 j := fun j hj h => mk_95b hM hy.2 hj h
  refine ⟨RQ9_lay (fun k j hs e1 e2 e3 => ?_) d1 d2 hl hR.1, rx_one hM hy.1 (fun j hj => mlN_ly hl e95 j hj) (fun j a hj => e95 j hj (by omega)) hR.2⟩
  by_cases e4 : k = 95
  · subst e4
    have h3 : j = 0 ∨ j = 1 ∨ j = 2 := by
      have : ¬ j = 3 := fun h => e3 ⟨rfl, h⟩
      unfold su at hs
      omega
    rcases h3 with rfl | rfl | rfl
    · exact c0
    · exact c1
    · exact c2
  · exact sx_ok hM lw_s_L0 hs e1 e2 e4
set_option maxHeartbeats 8000000 in
theorem lw_turns {p : Program} {e : Env} {s : State} {m : MethodId} {below : List Frame} {meth : Method} {c : Code} {l : Launch} {b L : Nat} {xs : Nat → Int32} {cy : Nat → ClassId} {ad wr cr av : Nat → Nat} {D : va_G} (htr : l.stackTraces = false) (C0 : lw_At p s m meth c b L xs) (hinj : nn_inj ad) (hcr : cr 999 = b) (hAd : ∀ k, k < nn_sh.length → s.heap.size ≤ ad k) (hKK : va_K D vwCl (ab_tys cy) s) (hN : ab_okN nn_NW s) (hF : fw_CB cy ad wr cr nn_kd fw_kv fw_wc (fun q : Nat => s.heap.size ≤ q) s) (hZ : nx_Z (fun q : Nat => s.heap.size ≤ q) s) (hY : nt_Z cr av (fun q : Nat => s.heap.size ≤ q) s) (hplay : np_H l cy ad wr cr av D (108, 12, npd_play)) :
    ∀ (n : Nat) (cells slots : Nat) (ρ : Nat → Int) (σ : ab_SG) (H : Heap) (locs : List Loc) (ls : Array Slot) (st : List Value), 3584 - ρ 2 < (n : Int) → cells + n ≤ 601024 → slots + 6 * n ≤ 7293034 → ρ 1 = (L : Int) → (∀ j : Nat, j < L → σ 140 j = (xs j).toInt) → RQ σ → ab_Gm cy ad wr cr D vwCl nn_sh nn_T nn_C 8 10 ρ σ (fun q : Nat => s.heap.size ≤ q) s.heap lw_S.2.1 ρ σ H locs ls st → W p l e room_1 s m #[Value.ref b] below meth c H locs cells slots (lw_Z below #[Value.ref b] s) (F0 m 23 ls st) := by
  have C1 := C0
  obtain ⟨hx, hb, hr, hml, hown, hts, hX, hbl, hlocks, hgv⟩ := C0
  have hown2 : s.vm.findClass "NameNotesLaw" = some m.cls := hown
  have hTT : ∀ w ∈ nn_TT, w ∈ lw_tbl := fun w hw => (List.mem_filter.mp hw).1
  intro n
  induction n with
  | zero =>
    intro cells slots ρ σ H locs ls st h1 _ _ _ _ _ hG
    have h9 : (0 : Int) ≤ ρ 2 ∧ ρ 2 ≤ 3584 := hG.1.1 2 (by decide)
    omega
  | succ n ih =>
    intro cells slots ρ σ H locs ls st h1 h2 h3 h4 h5 hR hG
    have d95 : ∀ j : Nat, j < 4 → σ 95 j = ρ (6 + j) := by
      intro j hj
      rcases (show j = 0 ∨ j = 1 ∨ j = 2 ∨ j = 3 by omega) with rfl | rfl | rfl | rfl
      · have h := lw_d hG.1.2.2.2.2.1 (k := 95) (j := 0) (s := 6) (c := 0) (by decide +kernel) rfl
        rw [Int.add_zero] at h
        exact h
      · have h := lw_d hG.1.2.2.2.2.1 (k := 95) (j := 1) (s := 7) (c := 0) (by decide +kernel) rfl
        rw [Int.add_zero] at h
        exact h
      · have h := lw_d hG.1.2.2.2.2.1 (k := 95) (j := 2) (s := 8) (c := 0) (by decide +kernel) rfl
        rw [Int.add_zero] at h
        exact h
      · have h := lw_d hG.1.2.2.2.2.1 (k := 95) (j := 3) (s := 9) (c := 0) (by decide +kernel) rfl
        rw [Int.add_zero] at h
        exact h
    have d22 : σ 93 22 = ρ 5 := by
      have h := lw_d hG.1.2.2.2.2.1 (k := 93) (j := 22) (s := 5) (c := 0) (by decide +kernel) rfl
      rw [Int.add_zero] at h
      exact h
    have hgo : ∀ c2 s2 : Nat, c2 ≤ cells + 1 → s2 ≤ slots + 6 → ∀ (ρ2 ρ3 : Nat → Int) (σ2 : ab_SG) (H : Heap) (locs : List Loc) (ls : Array Slot) (st : List Value), ρ2 2 = ρ 2 → ρ2 1 = ρ 1 → ρ2 2 - ρ2 10 ≤ -1 → ρ3 1 = ρ2 1 → ρ3 2 = ρ2 10 → (∀ j : Nat, j < L → σ2 140 j = (xs j).toInt) → RQ σ2 → ab_Gm cy ad wr cr D vwCl nn_sh nn_T nn_C 8 10 ρ3 σ2 (fun q : Nat => s.heap.size ≤ q) s.heap lw_S.2.1 ρ3 σ2 H locs ls st → W p l e room_1 s m #[Value.ref b] below meth c H locs c2 s2 (lw_Z below #[Value.ref b] s) (F0 m 23 ls st) := by
      intro c2 s2 g1 g2 ρ2 ρ3 σ2 H locs ls st r2 r1 f1 e1 e2 h14 hR2 hG3
      exact ih c2 s2 ρ3 σ2 H locs ls st (by rw [e2]; omega) (by omega) (by omega) (by rw [e1, r1]; exact h4) h14 hR2 hG3
    have hhead : ∀ c2 s2 : Nat, c2 ≤ cells + 1 → s2 ≤ slots + 6 → ∀ (ρb : Nat → Int) (σb : ab_SG), ρb 1 = ρ 1 → ρb 2 = ρ 2 → (∀ j : Nat, j < L → σb 140 j = (xs j).toInt) → RQ σb → (∀ j : Nat, j < 4 → σb 95 j = ρb (6 + j)) → ∀ (ρ2 : Nat → Int) (σ2 : ab_SG) (H : Heap) (locs : List Loc) (ls : Array Slot) (st : List Value), ab_Gm cy ad wr cr D vwCl nn_sh nn_T nn_C 8 10 ρb σb (fun q : Nat => s.heap.size ≤ q) s.heap lw_X.2.1 ρ2 σ2 H locs ls st → W p l e room_1 s m #[Value.ref b] below meth c H locs c2 s2 (lw_Z below #[Value.ref b] s) (F0 m 23 ls st) := by
      intro c2 s2 g1 g2 ρb σb b1 b2 b14 bR b95 ρ2 σ2 H locs ls st hG2
      obtain ⟨ρ3, e1, e2, hG3⟩ := lw_n_X hG2
      exact hgo c2 s2 g1 g2 ρ2 ρ3 σ2 H locs ls st ((hG2.2.1 2 (by decide)).trans b2) ((hG2.2.1 1 (by decide)).trans b1) (hG2.1.2.1 (2, 10, -1) (by decide +kernel)).2.2 e1 e2 (fun j hj => (mk_row hG2.1.2.2.2.2.2.2.2 lw_o_X j).trans (b14 j hj)) (lw_r_X hG2 b95 bR) hG3
    have haft : ∀ (pcB : Nat) (RR : List ab_AS), (RR.map (nq_nd pcB)).all (lw_cn 10 [lw_X] (RR.map (nq_nd pcB))) = true → ∀ c2 s2 : Nat, c2 ≤ cells + 1 → s2 ≤ slots + 6 → ∀ x ∈ RR, ∀ (ρ2 : Nat → Int) (σ2 : ab_SG) (H : Heap) (locs : List Loc) (ls : Array Slot) (st : List Value), ab_Gm cy ad wr cr D vwCl nn_sh nn_T nn_C 8 10 ρ σ (fun q : Nat => s.heap.size ≤ q) s.heap x ρ2 σ2 H locs ls st → W p l e room_1 s m #[Value.ref b] below meth c H locs c2 s2 (lw_Z below #[Value.ref b] s) (F0 m pcB ls st) := by
      intro pcB RR hck c2 s2 g1 g2 x hx9 ρ2 σ2 H locs ls st hG2
      refine lw_go C1 hinj hcr hAd hKK hN hF (by decide) h4 h5 (by omega) (by omega) hck (fun nd hnd => ?_) (nd := nq_nd pcB x) (List.mem_map.mpr ⟨x, hx9, rfl⟩) hG2
      rw [List.mem_singleton.mp hnd]
      exact hhead c2 s2 g1 g2 ρ σ rfl rfl h5 hR d95
    refine lw_go C1 hinj hcr hAd hKK hN hF (by decide) h4 h5 (by omega) (by omega) lw_ck (fun nd hnd => ?_) (nd := lw_S) List.mem_cons_self hG
    unfold lw_EX at hnd
    rcases List.mem_cons.mp hnd with rfl | hnd
    · exact hhead cells slots (Nat.le_succ _) (Nat.le_add_right _ _) ρ σ rfl rfl h5 hR d95
    rcases List.mem_cons.mp hnd with rfl | hnd
    · intro ρ2 σ2 H locs ls st hG2
      obtain ⟨ρ3, e1, e2, hG3⟩ := lw_n_L1 hG2
      exact hgo cells slots (Nat.le_succ _) (Nat.le_add_right _ _) ρ2 ρ3 σ2 H locs ls st (hG2.2.1 2 (by decide)) (hG2.2.1 1 (by decide)) (hG2.1.2.1 (2, 10, -1) (by decide +kernel)).2.2 e1 e2 (fun j hj => (mk_row hG2.1.2.2.2.2.2.2.2 lw_o_L1 j).trans (h5 j hj)) (lw_r_L1 hG2 d95 d22 hR) hG3
    rcases List.mem_cons.mp hnd with rfl | hnd
    · intro ρ2 σ2 H locs ls st hG2
      obtain ⟨ρ3, e1, e2, hG3⟩ := lw_n_L0 hG2
      exact hgo cells slots (Nat.le_succ _) (Nat.le_add_right _ _) ρ2 ρ3 σ2 H locs ls st (hG2.2.1 2 (by decide)) (hG2.2.1 1 (by decide)) (hG2.1.2.1 (2, 10, -1) (by decide +kernel)).2.2 e1 e2 (fun j hj => (mk_row hG2.1.2.2.2.2.2.2.2 lw_o_L0 j).trans (h5 j hj)) (lw_r_L0 hG2 d95 d22 hR) hG3
    rcases List.mem_cons.mp hnd with rfl | hnd
    · exact lw_d_feed C1 hinj hcr hAd hKK hN hF (by omega) (by omega) h4 h5 hR (hhead cells slots (Nat.le_succ _) (Nat.le_add_right _ _))
    rcases List.mem_cons.mp hnd with rfl | hnd
    · exact lw_d_end C1 hinj hcr hAd hKK hN hF (by omega) (by omega) h4 h5 hR (hhead cells slots (Nat.le_succ _) (Nat.le_add_right _ _))
    rcases List.mem_cons.mp hnd with rfl | hnd
    · exact lw_d_studio C1 hinj hcr hAd hKK hN hF (by omega) (by omega) h4 h5 hR (hhead cells slots (Nat.le_succ _) (Nat.le_add_right _ _))
    rcases List.mem_cons.mp hnd with rfl | hnd
    · exact fun ρ2 σ2 H locs ls st hG2 => nq_cl (own := "NameNotesLaw") (cells := cells) (slots := slots) (nL := 8) (Ts := lw_tbl) (na := 7) (rest := []) ⟨(show cells + 1 ≤ 601024 by omega), (show slots + 6 ≤ 7293034 by omega)⟩ hx hb hml hown2 hts hKK hN hF.1 hZ rfl hTT hAd (fun q hq => hq) (nqh_named l htr cy ad wr cr D hinj) (nn_at_ok (i := 6085) (by decide +kernel)) (nn_at_ok (i := 1000) (by decide +kernel)) ⟨by decide, by decide⟩ (by decide +kernel) (nn_at_ok (i := 6083) (by decide +kernel)) (nn_at_ok (i := 6084) (by decide +kernel)) ⟨by decide, by decide⟩ (as := [(2, 0, 0), (0, 12, 0), (0, 13, 0), (0, 14, 0), (0, 15, 0), (0, 16, 0), (2, 122, 0)]) rfl rfl (by decide) (by decide) lw_R813_ok (show decode code 813 = .ok (.invokestatic 105, 3) by decide +kernel) hG2
        (fun x hx9 ρ3 σ3 H1 locs1 st1 _ hG3 => haft 816 lw_R813 lw_c813 (cells + 1) (slots + 6) (Nat.le_refl _) (Nat.le_refl _) x hx9 ρ3 σ3 H1 locs1 ls st1 hG3)
    rcases List.mem_cons.mp hnd with rfl | hnd
    · exact fun ρ2 σ2 H locs ls st hG2 => nq_cl (own := "NameNotesLaw") (cells := cells) (slots := slots) (nL := 8) (Ts := lw_tbl) (na := 6) (rest := []) ⟨(show cells + 1 ≤ 601024 by omega), (show slots + 6 ≤ 7293034 by omega)⟩ hx hb hml hown2 hts hKK hN hF.1 hZ rfl hTT hAd (fun q hq => hq) (nqh_odds l htr cy ad wr cr D hinj) (nn_at_ok (i := 6177) (by decide +kernel)) (nn_at_ok (i := 1000) (by decide +kernel)) ⟨by decide, by decide⟩ (by decide +kernel) (nn_at_ok (i := 6175) (by decide +kernel)) (nn_at_ok (i := 6176) (by decide +kernel)) ⟨by decide, by decide⟩ (as := [(2, 0, 0), (0, 12, 0), (0, 13, 0), (0, 14, 0), (0, 15, 0), (2, 122, 0)]) rfl rfl (by decide) (by decide) lw_R883_ok (show decode code 883 = .ok (.invokestatic 111, 3) by decide +kernel) hG2
        (fun x hx9 ρ3 σ3 H1 locs1 st1 _ hG3 => haft 886 lw_R883 lw_c883 (cells + 1) (slots + 6) (Nat.le_refl _) (Nat.le_refl _) x hx9 ρ3 σ3 H1 locs1 ls st1 hG3)
    rcases List.mem_cons.mp hnd with rfl | hnd
    · exact fun ρ2 σ2 H locs ls st hG2 => nq_cl (own := "NameNotesLaw") (cells := cells) (slots := slots) (nL := 8) (Ts := lw_tbl) (na := 7) (rest := []) ⟨(show cells + 1 ≤ 601024 by omega), (show slots + 6 ≤ 7293034 by omega)⟩ hx hb hml hown2 hts hKK hN hF.1 hZ rfl hTT hAd (fun q hq => hq) (nqh_worth l htr cy ad wr cr D hinj) (nn_at_ok (i := 6184) (by decide +kernel)) (nn_at_ok (i := 1000) (by decide +kernel)) ⟨by decide, by decide⟩ (by decide +kernel) (nn_at_ok (i := 6182) (by decide +kernel)) (nn_at_ok (i := 6183) (by decide +kernel)) ⟨by decide, by decide⟩ (as := [(2, 0, 0), (0, 12, 0), (0, 13, 0), (0, 14, 0), (0, 15, 0), (0, 16, 0), (2, 122, 0)]) rfl rfl (by decide) (by decide) lw_R1063_ok (show decode code 1063 = .ok (.invokestatic 123, 3) by decide +kernel) hG2
        (fun x hx9 ρ3 σ3 H1 locs1 st1 _ hG3 => haft 1066 lw_R1063 lw_c1063 (cells + 1) (slots + 6) (Nat.le_refl _) (Nat.le_refl _) x hx9 ρ3 σ3 H1 locs1 ls st1 hG3)
    rcases List.mem_cons.mp hnd with rfl | hnd
    · exact lw_d_reply C1 hinj hcr hAd hKK hN hF (by omega) (by omega) h4 h5 hR (hhead cells slots (Nat.le_succ _) (Nat.le_add_right _ _))
    rcases List.mem_cons.mp hnd with rfl | hnd
    · exact fun ρ2 σ2 H locs ls st hG2 => nq_cl (own := "NameNotesLaw") (cells := cells) (slots := slots) (nL := 8) (Ts := lw_tbl) (na := 7) (rest := []) ⟨(show cells + 1 ≤ 601024 by omega), (show slots + 6 ≤ 7293034 by omega)⟩ hx hb hml hown2 hts hKK hN hF.1 hZ rfl hTT hAd (fun q hq => hq) (nqh_gains l htr cy ad wr cr D hinj) (nn_at_ok (i := 6191) (by decide +kernel)) (nn_at_ok (i := 1000) (by decide +kernel)) ⟨by decide, by decide⟩ (by decide +kernel) (nn_at_ok (i := 6189) (by decide +kernel)) (nn_at_ok (i := 6190) (by decide +kernel)) ⟨by decide, by decide⟩ (as := [(2, 0, 0), (0, 12, 0), (0, 13, 0), (0, 14, 0), (0, 15, 0), (0, 16, 0), (2, 122, 0)]) rfl rfl (by decide) (by decide) lw_R1200_ok (show decode code 1200 = .ok (.invokestatic 130, 3) by decide +kernel) hG2
        (fun x hx9 ρ3 σ3 H1 locs1 st1 _ hG3 => haft 1203 lw_R1200 lw_c1200 (cells + 1) (slots + 6) (Nat.le_refl _) (Nat.le_refl _) x hx9 ρ3 σ3 H1 locs1 ls st1 hG3)
    rcases List.mem_cons.mp hnd with rfl | hnd
    · exact fun ρ2 σ2 H locs ls st hG2 => nq_cl (own := "NameNotesLaw") (cells := cells) (slots := slots) (nL := 8) (Ts := lw_tbl) (na := 8) (rest := []) ⟨(show cells + 1 ≤ 601024 by omega), (show slots + 6 ≤ 7293034 by omega)⟩ hx hb hml hown2 hts hKK hN hF.1 hZ rfl hTT hAd (fun q hq => hq) (nqh_held l htr cy ad wr cr D hinj) (nn_at_ok (i := 6198) (by decide +kernel)) (nn_at_ok (i := 1000) (by decide +kernel)) ⟨by decide, by decide⟩ (by decide +kernel) (nn_at_ok (i := 6196) (by decide +kernel)) (nn_at_ok (i := 6197) (by decide +kernel)) ⟨by decide, by decide⟩ (as := [(2, 0, 0), (0, 12, 0), (0, 13, 0), (0, 14, 0), (0, 15, 0), (0, 16, 0), (0, 17, 0), (2, 122, 0)]) rfl rfl (by decide) (by decide) lw_R1332_ok (show decode code 1332 = .ok (.invokestatic 137, 3) by decide +kernel) hG2
        (fun x hx9 ρ3 σ3 H1 locs1 st1 _ hG3 => haft 1335 lw_R1332 lw_c1332 (cells + 1) (slots + 6) (Nat.le_refl _) (Nat.le_refl _) x hx9 ρ3 σ3 H1 locs1 ls st1 hG3)
    rcases List.mem_cons.mp hnd with rfl | hnd
    · exact fun ρ2 σ2 H locs ls st hG2 => nq_cl (own := "NameNotesLaw") (cells := cells) (slots := slots) (nL := 8) (Ts := lw_tbl) (na := 6) (rest := []) ⟨(show cells + 1 ≤ 601024 by omega), (show slots + 6 ≤ 7293034 by omega)⟩ hx hb hml hown2 hts hKK hN hF.1 hZ rfl hTT hAd (fun q hq => hq) (nqh_among l htr cy ad wr cr D hinj) (nn_at_ok (i := 6207) (by decide +kernel)) (nn_at_ok (i := 1000) (by decide +kernel)) ⟨by decide, by decide⟩ (by decide +kernel) (nn_at_ok (i := 6205) (by decide +kernel)) (nn_at_ok (i := 6206) (by decide +kernel)) ⟨by decide, by decide⟩ (as := [(2, 0, 0), (0, 12, 0), (0, 13, 0), (0, 14, 0), (0, 15, 0), (2, 122, 0)]) rfl rfl (by decide) (by decide) lw_R1409_ok (show decode code 1409 = .ok (.invokestatic 141, 3) by decide +kernel) hG2
        (fun x hx9 ρ3 σ3 H1 locs1 st1 _ hG3 => haft 1412 lw_R1409 lw_c1409 (cells + 1) (slots + 6) (Nat.le_refl _) (Nat.le_refl _) x hx9 ρ3 σ3 H1 locs1 ls st1 hG3)
    rcases List.mem_cons.mp hnd with rfl | hnd
    · exact fun ρ2 σ2 H locs ls st hG2 => np_cl (own := "NameNotesLaw") (cells := cells) (slots := slots) (nL := 8) (Ts := lw_tbl) (rest := []) (q := (108, 12, npd_play)) (mr := (⟨"NameNotes", "play", "(III)I"⟩, prog_1_method_28_code, 7, (Option.some Jvm.ClassFile.FieldType.int), 3, true, 0)) ⟨(show cells ≤ 601024 by omega), (show slots ≤ 7293034 by omega)⟩ hx hb hml hown2 hts hKK hN hF.1 hZ hY rfl hTT hAd (fun q hq => hq) rfl rfl (ab_mlk_mono (nn_PM0_ok (156, 0, 108) (by decide +kernel)) hTT) (hTT _ (nn_at_ok (i := 4170) (by decide +kernel))) hplay ⟨by decide, by decide⟩ (as := [(2, 0, 0), (0, 12, 0), (0, 13, 0), (0, 14, 0)]) rfl rfl (by decide) (by decide) lw_R1589_ok (show decode code 1589 = .ok (.invokevirtual 156, 3) by decide +kernel) hG2
        (fun x hx9 ρ3 σ3 H1 locs1 st1 _ hG3 => haft 1592 lw_R1589 lw_c1589 cells slots (Nat.le_succ _) (Nat.le_add_right _ _) x hx9 ρ3 σ3 H1 locs1 ls st1 hG3)
    rcases List.mem_cons.mp hnd with rfl | hnd
    · exact lw_d_teach C1 hinj hcr hAd hKK hN hF (by omega) (by omega) h4 h5 hR (hhead cells slots (Nat.le_succ _) (Nat.le_add_right _ _))
    rcases List.mem_cons.mp hnd with rfl | hnd
    · exact lw_d_dares C1 hinj hcr hAd hKK hN hF (by omega) (by omega) h4 h5 hR (hhead cells slots (Nat.le_succ _) (Nat.le_add_right _ _))
    rcases List.mem_cons.mp hnd with rfl | hnd
    · exact lw_d_undo C1 hinj hcr hAd hKK hN hF (by omega) (by omega) h4 h5 hR (hhead cells slots (Nat.le_succ _) (Nat.le_add_right _ _))
    rcases List.mem_cons.mp hnd with rfl | hnd
    · exact fun ρ2 σ2 H locs ls st hG2 => nq_cl (own := "NameNotesLaw") (cells := cells) (slots := slots) (nL := 8) (Ts := lw_tbl) (na := 6) (rest := []) ⟨(show cells + 1 ≤ 601024 by omega), (show slots + 6 ≤ 7293034 by omega)⟩ hx hb hml hown2 hts hKK hN hF.1 hZ rfl hTT hAd (fun q hq => hq) (nqh_match l htr cy ad wr cr D hinj) (nn_at_ok (i := 6214) (by decide +kernel)) (nn_at_ok (i := 1000) (by decide +kernel)) ⟨by decide, by decide⟩ (by decide +kernel) (nn_at_ok (i := 6212) (by decide +kernel)) (nn_at_ok (i := 6213) (by decide +kernel)) ⟨by decide, by decide⟩ (as := [(2, 0, 0), (0, 12, 0), (0, 13, 0), (0, 14, 0), (0, 15, 0), (2, 122, 0)]) rfl rfl (by decide) (by decide) lw_R1879_ok (show decode code 1879 = .ok (.invokestatic 186, 3) by decide +kernel) hG2
        (fun x hx9 ρ3 σ3 H1 locs1 st1 _ hG3 => haft 1882 lw_R1879 lw_c1879 (cells + 1) (slots + 6) (Nat.le_refl _) (Nat.le_refl _) x hx9 ρ3 σ3 H1 locs1 ls st1 hG3)
    rcases List.mem_cons.mp hnd with rfl | hnd
    · exact fun ρ2 σ2 H locs ls st hG2 => nq_cl (own := "NameNotesLaw") (cells := cells) (slots := slots) (nL := 8) (Ts := lw_tbl) (na := 7) (rest := []) ⟨(show cells + 1 ≤ 601024 by omega), (show slots + 6 ≤ 7293034 by omega)⟩ hx hb hml hown2 hts hKK hN hF.1 hZ rfl hTT hAd (fun q hq => hq) (nqh_bolder l htr cy ad wr cr D hinj) (nn_at_ok (i := 6222) (by decide +kernel)) (nn_at_ok (i := 1000) (by decide +kernel)) ⟨by decide, by decide⟩ (by decide +kernel) (nn_at_ok (i := 6220) (by decide +kernel)) (nn_at_ok (i := 6221) (by decide +kernel)) ⟨by decide, by decide⟩ (as := [(2, 0, 0), (0, 12, 0), (0, 13, 0), (0, 14, 0), (0, 15, 0), (0, 16, 0), (2, 122, 0)]) rfl rfl (by decide) (by decide) lw_R2010_ok (show decode code 2010 = .ok (.invokestatic 193, 3) by decide +kernel) hG2
        (fun x hx9 ρ3 σ3 H1 locs1 st1 _ hG3 => haft 2013 lw_R2010 lw_c2010 (cells + 1) (slots + 6) (Nat.le_refl _) (Nat.le_refl _) x hx9 ρ3 σ3 H1 locs1 ls st1 hG3)
    rcases List.mem_cons.mp hnd with rfl | hnd
    · exact lw_d_copies C1 hinj hcr hAd hKK hN hF (by omega) (by omega) h4 h5 hR (hhead cells slots (Nat.le_succ _) (Nat.le_add_right _ _))
    rcases List.mem_cons.mp hnd with rfl | hnd
    · exact fun ρ2 σ2 H locs ls st hG2 => nq_cl (own := "NameNotesLaw") (cells := cells) (slots := slots) (nL := 8) (Ts := lw_tbl) (na := 3) (rest := []) ⟨(show cells + 1 ≤ 601024 by omega), (show slots + 6 ≤ 7293034 by omega)⟩ hx hb hml hown2 hts hKK hN hF.1 hZ rfl hTT hAd (fun q hq => hq) (nqh_told l htr cy ad wr cr D hinj) (nn_at_ok (i := 6229) (by decide +kernel)) (nn_at_ok (i := 1000) (by decide +kernel)) ⟨by decide, by decide⟩ (by decide +kernel) (nn_at_ok (i := 6227) (by decide +kernel)) (nn_at_ok (i := 6228) (by decide +kernel)) ⟨by decide, by decide⟩ (as := [(2, 0, 0), (0, 12, 0), (2, 122, 0)]) rfl rfl (by decide) (by decide) lw_R2445_ok (show decode code 2445 = .ok (.invokestatic 240, 3) by decide +kernel) hG2
        (fun x hx9 ρ3 σ3 H1 locs1 st1 _ hG3 => haft 2448 lw_R2445 lw_c2445 (cells + 1) (slots + 6) (Nat.le_refl _) (Nat.le_refl _) x hx9 ρ3 σ3 H1 locs1 ls st1 hG3)
    rcases List.mem_cons.mp hnd with rfl | hnd
    · exact lw_d_image C1 hinj hcr hAd hKK hN hF (by omega) (by omega) h4 h5 hR (hhead cells slots (Nat.le_succ _) (Nat.le_add_right _ _))
    rcases List.mem_cons.mp hnd with rfl | hnd
    · exact lw_d_restore C1 hinj hcr hAd hKK hN hF (by omega) (by omega) h4 h5 hR (hhead cells slots (Nat.le_succ _) (Nat.le_add_right _ _))
    rcases List.mem_cons.mp hnd with rfl | hnd
    · exact lw_d_count C1 hinj hcr hAd hKK hN hF (by omega) (by omega) h4 h5 hR (hhead cells slots (Nat.le_succ _) (Nat.le_add_right _ _))
    rcases List.mem_cons.mp hnd with rfl | hnd
    · intro ρ2 σ2 H locs ls st hG2
      obtain ⟨q1, q2, q3, q4, q5, q6, q7⟩ := hG2
      have hst : st = [.int 1] := by
        rw [q5.1]
        show [Value.int (Int32.ofInt (ρ2 0 + 1))] = _
        rw [q1.2.2.1]
        rfl
      subst hst
      refine va_forget (fun q hq => q7.2.2 q hq) ?_
      refine W.widen (k := 601024) (n := 7293034) (by omega) (by omega) ?_
      exact lw_ret hx hb hr hlocks (show decode code 2770 = .ok (.ireturn, 1) by decide +kernel)
    exact absurd hnd List.not_mem_nil
