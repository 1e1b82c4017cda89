/-! both sides agree: the tape, how many there are of each, what is kept -/
def su (k j : Nat) : Prop := (k = 2 ∧ j < 940) ∨ (k = 94 ∧ j < 940) ∨ (k = 95 ∧ j < 4) ∨ (k = 97 ∧ j < 948) ∨ (k = 102 ∧ j < 2) ∨ (k = 1 ∧ j = 1) ∨ (k = 3 ∧ 11 ≤ j ∧ j ≤ 14) ∨ (k = 18 ∧ (11 ≤ j ∧ j ≤ 14 ∨ j = 16)) ∨ (k = 33 ∧ (11 ≤ j ∧ j ≤ 14 ∨ j = 16)) ∨ (k = 93 ∧ (j = 2 ∨ j = 22 ∨ j = 23))
def su_b (k a b : Nat) : Bool := match ab_rdT nn_T k a b with
  | some r => decide (-2147483648 ≤ r.1 ∧ r.2 ≤ 2147483647)
  | none => false
theorem su_b_ok {k a b j : Nat} {σ : ab_SG} (h : su_b k a b = true) (hR : ab_okR nn_T σ) (h1 : a ≤ j) (h2 : j ≤ b) : fw_c (σ k j) = σ k j := by
  unfold su_b at h
  cases hr : ab_rdT nn_T k a b with
  | none => rw [hr] at h; cases h
  | some r =>
    rw [hr] at h
    have h3 : -2147483648 ≤ r.1 ∧ r.2 ≤ 2147483647 := of_decide_eq_true h
    have h4 := ab_rdT_ok hR hr h1 h2
    exact fw_c_id (by omega) (by omega)
def cn (σ : ab_SG) : Prop := ∀ k j : Nat, su k j → fw_c (σ k j) = σ k j
def vw (σ' σ : ab_SG) : Prop := ∀ k j : Nat, su k j → σ' k j = fw_c (σ k j)
theorem su_b2 : su_b 2 0 939 = true := by decide +kernel
theorem su_b94 : su_b 94 0 939 = true := by decide +kernel
theorem su_b95 : su_b 95 0 3 = true := by decide +kernel
theorem su_b97 : su_b 97 0 947 = true := by decide +kernel
theorem su_b102 : su_b 102 0 1 = true := by decide +kernel
theorem su_bf : (su_b 1 1 1 && su_b 93 2 2 && su_b 93 22 22 && su_b 3 11 11 && su_b 3 12 12 && su_b 3 13 13 && su_b 3 14 14 && su_b 18 11 11 && su_b 18 12 12 && su_b 18 13 13 && su_b 18 14 14 && su_b 18 16 16 && su_b 33 11 11 && su_b 33 12 12 && su_b 33 13 13 && su_b 33 14 14 && su_b 33 16 16 && su_b 93 23 23) = true := by decide +kernel
theorem cn_of {σ : ab_SG} (h : ab_okR nn_T σ) : cn σ := by
  have hf := su_bf
  simp only [Bool.and_eq_true] at hf
  obtain ⟨⟨⟨⟨⟨⟨⟨⟨⟨⟨⟨⟨⟨⟨⟨⟨⟨f1, f2⟩, f3⟩, f4⟩, f5⟩, f6⟩, f7⟩, f8⟩, f9⟩, f10⟩, f11⟩, f12⟩, f13⟩, f14⟩, f15⟩, f16⟩, f17⟩, f18⟩ := hf
  rintro k j (⟨rfl, h1⟩ | ⟨rfl, h1⟩ | ⟨rfl, h1⟩ | ⟨rfl, h1⟩ | ⟨rfl, h1⟩ | ⟨rfl, rfl⟩ | ⟨rfl, h1⟩ | ⟨rfl, h1⟩ | ⟨rfl, h1⟩ | ⟨rfl, h1⟩)
  · exact su_b_ok su_b2 h (by omega) (by omega)
  · exact su_b_ok su_b94 h (by omega) (by omega)
  · exact su_b_ok su_b95 h (by omega) (by omega)
  · exact su_b_ok su_b97 h (by omega) (by omega)
  · exact su_b_ok su_b102 h (by omega) (by omega)
  · exact su_b_ok f1 h (by omega) (by omega)
  · rcases (show j = 11 ∨ j = 12 ∨ j = 13 ∨ j = 14 by omega) with rfl | rfl | rfl | rfl
    · exact su_b_ok f4 h (by omega) (by omega)
    · exact su_b_ok f5 h (by omega) (by omega)
    · exact su_b_ok f6 h (by omega) (by omega)
    · exact su_b_ok f7 h (by omega) (by omega)
  · rcases (show j = 11 ∨ j = 12 ∨ j = 13 ∨ j = 14 ∨ j = 16 by omega) with rfl | rfl | rfl | rfl | rfl
    · exact su_b_ok f8 h (by omega) (by omega)
    · exact su_b_ok f9 h (by omega) (by omega)
    · exact su_b_ok f10 h (by omega) (by omega)
    · exact su_b_ok f11 h (by omega) (by omega)
    · exact su_b_ok f12 h (by omega) (by omega)
  · rcases (show j = 11 ∨ j = 12 ∨ j = 13 ∨ j = 14 ∨ j = 16 by omega) with rfl | rfl | rfl | rfl | rfl
    · exact su_b_ok f13 h (by omega) (by omega)
    · exact su_b_ok f14 h (by omega) (by omega)
    · exact su_b_ok f15 h (by omega) (by omega)
    · exact su_b_ok f16 h (by omega) (by omega)
    · exact su_b_ok f17 h (by omega) (by omega)
  · rcases h1 with rfl | rfl | rfl
    · exact su_b_ok f2 h (by omega) (by omega)
    · exact su_b_ok f3 h (by omega) (by omega)
    · exact su_b_ok f18 h (by omega) (by omega)
theorem vw_of {cy : Nat → ClassId} {ad wr : Nat → Nat} {D : va_G} {σ σ' : ab_SG} {H : Heap} (hR : ab_okR nn_T σ) (h : va_P D vwCl (ab_WD cy ad wr nn_sh σ) H) (h' : va_P D vwCl (ab_WD cy ad wr nn_sh σ') H) : vw σ σ' := by
  intro k j hs
  rw [← cn_of hR k j hs]
  rcases hs with ⟨rfl, h1⟩ | ⟨rfl, h1⟩ | ⟨rfl, h1⟩ | ⟨rfl, h1⟩ | ⟨rfl, h1⟩ | ⟨rfl, rfl⟩ | ⟨rfl, h1⟩ | ⟨rfl, h1⟩ | ⟨rfl, h1⟩ | ⟨rfl, h1⟩
  · exact wd_arr h h' (k := 2) (t := 2) (n := 940) rfl (by decide) h1
  · exact wd_arr h h' (k := 94) (t := 0) (n := 940) rfl (by decide) h1
  · exact wd_arr h h' (k := 95) (t := 0) (n := 474) rfl (by decide) (by omega)
  · exact wd_arr h h' (k := 97) (t := 0) (n := 948) rfl (by decide) h1
  · exact wd_arr h h' (k := 102) (t := 3) (n := 2) rfl (by decide) h1
  · exact wd_int h h' (k := 1) (j := 1) rfl rfl rfl (by decide)
  · rcases (show j = 11 ∨ j = 12 ∨ j = 13 ∨ j = 14 by omega) with rfl | rfl | rfl | rfl
    · exact wd_int h h' (k := 3) (j := 11) rfl rfl rfl (by decide)
    · exact wd_int h h' (k := 3) (j := 12) rfl rfl rfl (by decide)
    · exact wd_int h h' (k := 3) (j := 13) rfl rfl rfl (by decide)
    · exact wd_int h h' (k := 3) (j := 14) rfl rfl rfl (by decide)
  · rcases (show j = 11 ∨ j = 12 ∨ j = 13 ∨ j = 14 ∨ j = 16 by omega) with rfl | rfl | rfl | rfl | rfl
    · exact wd_int h h' (k := 18) (j := 11) rfl rfl rfl (by decide)
    · exact wd_int h h' (k := 18) (j := 12) rfl rfl rfl (by decide)
    · exact wd_int h h' (k := 18) (j := 13) rfl rfl rfl (by decide)
    · exact wd_int h h' (k := 18) (j := 14) rfl rfl rfl (by decide)
    · exact wd_int h h' (k := 18) (j := 16) rfl rfl rfl (by decide)
  · rcases (show j = 11 ∨ j = 12 ∨ j = 13 ∨ j = 14 ∨ j = 16 by omega) with rfl | rfl | rfl | rfl | rfl
    · exact wd_int h h' (k := 33) (j := 11) rfl rfl rfl (by decide)
    · exact wd_int h h' (k := 33) (j := 12) rfl rfl rfl (by decide)
    · exact wd_int h h' (k := 33) (j := 13) rfl rfl rfl (by decide)
    · exact wd_int h h' (k := 33) (j := 14) rfl rfl rfl (by decide)
    · exact wd_int h h' (k := 33) (j := 16) rfl rfl rfl (by decide)
  · rcases h1 with rfl | rfl | rfl
    · exact wd_int h h' (k := 93) (j := 2) rfl rfl rfl (by decide)
    · exact wd_int h h' (k := 93) (j := 22) rfl rfl rfl (by decide)
    · exact wd_int h h' (k := 93) (j := 23) rfl rfl rfl (by decide)
/-- the tapes -/
def ra (σ : ab_SG) : Prop := σ 1 1 = σ 93 2 ∧ 0 ≤ σ 1 1 ∧ σ 1 1 ≤ 940 ∧ ∀ j : Nat, (j : Int) < σ 1 1 → tp_t σ j = σ 94 j
/-- how many there are -/
def rb (σ : ab_SG) : Prop := σ 3 11 = σ 95 0 ∧ σ 3 12 = σ 95 1 ∧ σ 3 13 = σ 95 2 ∧ ((σ 93 22 = 1 ∧ σ 95 3 = σ 3 14) ∨ (σ 93 22 = 0 ∧ σ 3 14 = 9 ∧ σ 102 0 = 0 ∧ σ 102 1 = 0 ∧ σ 95 2 = 0))
/-- what is kept -/
def rk (σ : ab_SG) : Prop := (σ 18 16 = σ 102 0 ∧ (σ 102 0 = 0 ∨ σ 102 0 = 1) ∧ (σ 102 0 = 1 → σ 18 11 = σ 97 0 ∧ σ 18 12 = σ 97 1 ∧ σ 18 13 = σ 97 2 ∧ σ 18 14 = σ 97 3)) ∧
  (σ 33 16 = σ 102 1 ∧ (σ 102 1 = 0 ∨ σ 102 1 = 1) ∧ (σ 102 1 = 1 → σ 33 11 = σ 97 474 ∧ σ 33 12 = σ 97 475 ∧ σ 33 13 = σ 97 476 ∧ σ 33 14 = σ 97 477))
def RQ9 (σ : ab_SG) : Prop := ra σ ∧ rb σ ∧ rk σ
theorem su2 {j : Nat} (h : j < 940) : su 2 j := Or.inl ⟨rfl, h⟩
theorem su94 {j : Nat} (h : j < 940) : su 94 j := Or.inr (Or.inl ⟨rfl, h⟩)
theorem su95 {j : Nat} (h : j < 4) : su 95 j := Or.inr (Or.inr (Or.inl ⟨rfl, h⟩))
theorem su97 {j : Nat} (h : j < 948) : su 97 j := Or.inr (Or.inr (Or.inr (Or.inl ⟨rfl, h⟩)))
theorem su102 {j : Nat} (h : j < 2) : su 102 j := Or.inr (Or.inr (Or.inr (Or.inr (Or.inl ⟨rfl, h⟩))))
theorem su1 : su 1 1 := Or.inr (Or.inr (Or.inr (Or.inr (Or.inr (Or.inl ⟨rfl, rfl⟩)))))
theorem su3 {j : Nat} (h : 11 ≤ j) (h' : j ≤ 14) : su 3 j := Or.inr (Or.inr (Or.inr (Or.inr (Or.inr (Or.inr (Or.inl ⟨rfl, h, h'⟩))))))
theorem su18 {j : Nat} (h : 11 ≤ j ∧ j ≤ 14 ∨ j = 16) : su 18 j := Or.inr (Or.inr (Or.inr (Or.inr (Or.inr (Or.inr (Or.inr (Or.inl ⟨rfl, h⟩)))))))
theorem su33 {j : Nat} (h : 11 ≤ j ∧ j ≤ 14 ∨ j = 16) : su 33 j := Or.inr (Or.inr (Or.inr (Or.inr (Or.inr (Or.inr (Or.inr (Or.inr (Or.inl ⟨rfl, h⟩))))))))
theorem su93 {j : Nat} (h : j = 2 ∨ j = 22) : su 93 j := Or.inr (Or.inr (Or.inr (Or.inr (Or.inr (Or.inr (Or.inr (Or.inr (Or.inr ⟨rfl, h.imp id Or.inl⟩))))))))
theorem su9323 : su 93 23 := Or.inr (Or.inr (Or.inr (Or.inr (Or.inr (Or.inr (Or.inr (Or.inr (Or.inr ⟨rfl, Or.inr (Or.inr rfl)⟩))))))))
theorem tp_c (σ σ' : ab_SG) (j : Nat) (h : σ' 2 j = fw_c (σ 2 j)) : tp_t σ' j = tp_t σ j := by
  show (Int32.ofInt (σ' 2 j) &&& Int32.ofInt 255).toInt = (Int32.ofInt (σ 2 j) &&& Int32.ofInt 255).toInt
  rw [h, fw_c_of]
theorem ra_tr {σ σ' : ab_SG} (hv : vw σ' σ) (h : ra σ) : ra σ' := by
  obtain ⟨h1, h2, h3, h4⟩ := h
  have e1 : σ' 1 1 = σ 1 1 := (hv 1 1 su1).trans (fw_c_id (by omega) (by omega))
  have e2 : σ' 93 2 = σ 93 2 := (hv 93 2 (su93 (Or.inl rfl))).trans (fw_c_id (by omega) (by omega))
  refine ⟨by rw [e1, e2]; exact h1, by rw [e1]; exact h2, by rw [e1]; exact h3, fun j hj => ?_⟩
  rw [e1] at hj
  have hj9 : j < 940 := by omega
  have e3 := tp_t_in σ j
  rw [tp_c σ σ' j (hv 2 j (su2 hj9)), hv 94 j (su94 hj9), ← h4 j hj]
  exact (fw_c_id (by omega) (by omega)).symm
theorem rb_tr {σ σ' : ab_SG} (hv : vw σ' σ) (h : rb σ) : rb σ' := by
  obtain ⟨h1, h2, h3, h4⟩ := h
  unfold rb
  rw [hv 3 11 (su3 (by omega) (by omega)), hv 3 12 (su3 (by omega) (by omega)), hv 3 13 (su3 (by omega) (by omega)), hv 3 14 (su3 (by omega) (by omega)), hv 95 0 (su95 (by omega)), hv 95 1 (su95 (by omega)), hv 95 2 (su95 (by omega)), hv 95 3 (su95 (by omega)), hv 93 22 (su93 (Or.inr rfl)), hv 102 0 (su102 (by omega)), hv 102 1 (su102 (by omega)), h1, h2, h3]
  refine ⟨rfl, rfl, rfl, ?_⟩
  rcases h4 with ⟨a, b⟩ | ⟨a, b, c, d, e⟩
  · rw [a, b]
    exact Or.inl ⟨(fw_c_id (by decide) (by decide)), rfl⟩
  · rw [a, b, c, d, e]
    exact Or.inr ⟨(fw_c_id (by decide) (by decide)), (fw_c_id (by decide) (by decide)), (fw_c_id (by decide) (by decide)), (fw_c_id (by decide) (by decide)), (fw_c_id (by decide) (by decide))⟩
theorem rk_tr {σ σ' : ab_SG} (hv : vw σ' σ) (h : rk σ) : rk σ' := by
  obtain ⟨⟨h1, h2, h3⟩, ⟨h4, h5, h6⟩⟩ := h
  unfold rk
  rw [hv 18 16 (su18 (Or.inr rfl)), hv 33 16 (su33 (Or.inr rfl)), hv 102 0 (su102 (by omega)), hv 102 1 (su102 (by omega)), hv 18 11 (su18 (by omega)), hv 18 12 (su18 (by omega)), hv 18 13 (su18 (by omega)), hv 18 14 (su18 (by omega)), hv 33 11 (su33 (by omega)), hv 33 12 (su33 (by omega)), hv 33 13 (su33 (by omega)), hv 33 14 (su33 (by omega)),
    hv 97 0 (su97 (by omega)), hv 97 1 (su97 (by omega)), hv 97 2 (su97 (by omega)), hv 97 3 (su97 (by omega)), hv 97 474 (su97 (by omega)), hv 97 475 (su97 (by omega)), hv 97 476 (su97 (by omega)), hv 97 477 (su97 (by omega)), h1, h4]
  refine ⟨⟨rfl, ?_, ?_⟩, ⟨rfl, ?_, ?_⟩⟩
  · rcases h2 with h2 | h2 <;> rw [h2]
    · exact Or.inl (fw_c_id (by decide) (by decide))
    · exact Or.inr (fw_c_id (by decide) (by decide))
  · intro g
    rcases h2 with h2 | h2
    · rw [h2, fw_c_id (by decide) (by decide)] at g
      exact absurd g (by decide)
    · obtain ⟨a, b, c, d⟩ := h3 h2
      rw [a, b, c, d]
      exact ⟨rfl, rfl, rfl, rfl⟩
  · rcases h5 with h5 | h5 <;> rw [h5]
    · exact Or.inl (fw_c_id (by decide) (by decide))
    · exact Or.inr (fw_c_id (by decide) (by decide))
  · intro g
    rcases h5 with h5 | h5
    · rw [h5, fw_c_id (by decide) (by decide)] at g
      exact absurd g (by decide)
    · obtain ⟨a, b, c, d⟩ := h6 h5
      rw [a, b, c, d]
      exact ⟨rfl, rfl, rfl, rfl⟩
theorem RQ9_tr {σ σ' : ab_SG} (hv : vw σ' σ) (h : RQ9 σ) : RQ9 σ' := ⟨ra_tr hv h.1, rb_tr hv h.2.1, rk_tr hv h.2.2⟩
theorem vw_same {σ σ' : ab_SG} (hc : cn σ) (h : ∀ k j : Nat, su k j → σ' k j = σ k j) : vw σ' σ := fun k j hs => (h k j hs).trans (hc k j hs).symm
/-- pieces that stay -/
theorem ra_fr {σ σ' : ab_SG} (e1 : σ' 1 1 = σ 1 1) (e2 : σ' 93 2 = σ 93 2) (e3 : ∀ j : Nat, j < 940 → tp_t σ' j = tp_t σ j) (e4 : ∀ j : Nat, j < 940 → σ' 94 j = σ 94 j) (h : ra σ) : ra σ' := by
  obtain ⟨h1, h2, h3, h4⟩ := h
  refine ⟨by rw [e1, e2]; exact h1, by rw [e1]; exact h2, by rw [e1]; exact h3, fun j hj => ?_⟩
  rw [e1] at hj
  rw [e3 j (by omega), e4 j (by omega)]
  exact h4 j hj
theorem rb_fr {σ σ' : ab_SG} (e1 : ∀ j : Nat, 11 ≤ j → j ≤ 14 → σ' 3 j = σ 3 j) (e2 : ∀ j : Nat, j < 4 → σ' 95 j = σ 95 j) (e3 : σ' 93 22 = σ 93 22) (e4 : ∀ j : Nat, j < 2 → σ' 102 j = σ 102 j) (h : rb σ) : rb σ' := by
  unfold rb
  rw [e1 11 (by omega) (by omega), e1 12 (by omega) (by omega), e1 13 (by omega) (by omega), e1 14 (by omega) (by omega), e2 0 (by omega), e2 1 (by omega), e2 2 (by omega), e2 3 (by omega), e3, e4 0 (by omega), e4 1 (by omega)]
  exact h
theorem rb_ly {σ σ' : ab_SG} (e1 : ∀ j : Nat, 11 ≤ j → j ≤ 14 → σ' 3 j = σ 3 j) (e2 : ∀ j : Nat, j < 3 → σ' 95 j = σ 95 j) (e3 : ly_is σ σ') (h : rb σ) : rb σ' := by
  obtain ⟨h1, h2, h3, h4⟩ := h
  obtain ⟨g1, g2, g3⟩ := e3
  refine ⟨by rw [e1 11 (by omega) (by omega), e2 0 (by omega)]; exact h1, by rw [e1 12 (by omega) (by omega), e2 1 (by omega)]; exact h2, by rw [e1 13 (by omega) (by omega), e2 2 (by omega)]; exact h3, Or.inl ⟨g1, ?_⟩⟩
  rw [e1 14 (by omega) (by omega)]
  rcases h4 with ⟨a, b⟩ | ⟨a, b, -, -⟩
  · rw [g3 (by omega)]
    exact b
  · rw [g2 a]
    exact b.symm
theorem rk_fr {σ σ' : ab_SG} (e1 : ∀ j : Nat, (11 ≤ j ∧ j ≤ 14 ∨ j = 16) → σ' 18 j = σ 18 j) (e2 : ∀ j : Nat, (11 ≤ j ∧ j ≤ 14 ∨ j = 16) → σ' 33 j = σ 33 j) (e3 : ∀ j : Nat, j < 948 → σ' 97 j = σ 97 j) (e4 : ∀ j : Nat, j < 2 → σ' 102 j = σ 102 j) (h : rk σ) : rk σ' := by
  unfold rk
  rw [e1 11 (by omega), e1 12 (by omega), e1 13 (by omega), e1 14 (by omega), e1 16 (by omega), e2 11 (by omega), e2 12 (by omega), e2 13 (by omega), e2 14 (by omega), e2 16 (by omega), e3 0 (by omega), e3 1 (by omega), e3 2 (by omega), e3 3 (by omega), e3 474 (by omega), e3 475 (by omega), e3 476 (by omega), e3 477 (by omega), e4 0 (by omega), e4 1 (by omega)]
  exact h
/-- a row, a place that a list does not name -/
def mk_b (M : ab_ML) (k j : Nat) : Bool := M.all (fun q => !(q.1.beq k && (q.2.beq j || q.2.beq 1000000)))
theorem mk_at {M : ab_ML} {σ σ' : ab_SG} (h : ab_okM M σ σ') {k j : Nat} (hk : mk_b M k j = true) : σ' k j = σ k j := by
  refine h k j (fun q hq hh => ?_)
  have h1 := List.all_eq_true.mp hk q hq
  rw [hh.1, Nat.beq_refl] at h1
  rcases hh.2 with h2 | h2
  · rw [h2, Nat.beq_refl] at h1
    cases h1
  · rw [h2, Nat.beq_refl, Bool.or_true] at h1
    cases h1
theorem mk_row {M : ab_ML} {σ σ' : ab_SG} (h : ab_okM M σ σ') {k : Nat} (hk : M.all (fun q => !(q.1.beq k)) = true) (j : Nat) : σ' k j = σ k j := by
  refine h k j (fun q hq hh => ?_)
  have h1 := List.all_eq_true.mp hk q hq
  rw [hh.1, Nat.beq_refl] at h1
  cases h1
theorem cn_vw {σ σ' : ab_SG} (h : vw σ' σ) : cn σ' := fun k j hs => by rw [h k j hs, fw_c_c]
section
variable {M1 M2 : ab_ML} {σ σ1 σm σ2 : ab_SG}
theorem mid_at (hc : cn σ) (h1 : ab_okM M1 σ σ1) (hv : vw σm σ1) {k j : Nat} (hs : su k j) (hk : mk_b M1 k j = true) : σm k j = σ k j := by
  rw [hv k j hs, mk_at h1 hk]
  exact hc k j hs
theorem mid_row (hc : cn σ) (h1 : ab_okM M1 σ σ1) (hv : vw σm σ1) {k : Nat} (hk : M1.all (fun q => !(q.1.beq k)) = true) (j : Nat) (hs : su k j) : σm k j = σ k j := by
  rw [hv k j hs, mk_row h1 hk]
  exact hc k j hs
theorem two_at (hc : cn σ) (h1 : ab_okM M1 σ σ1) (hv : vw σm σ1) (h2 : ab_okM M2 σm σ2) {k j : Nat} (hs : su k j) (hk : mk_b M1 k j = true) (hk2 : mk_b M2 k j = true) : σ2 k j = σ k j := (mk_at h2 hk2).trans (mid_at hc h1 hv hs hk)
theorem two_row (hc : cn σ) (h1 : ab_okM M1 σ σ1) (hv : vw σm σ1) (h2 : ab_okM M2 σm σ2) {k : Nat} (hk : M1.all (fun q => !(q.1.beq k)) = true) (hk2 : M2.all (fun q => !(q.1.beq k)) = true) (j : Nat) (hs : su k j) : σ2 k j = σ k j := (mk_row h2 hk2 j).trans (mid_row hc h1 hv hk j hs)
/-- both leave the counts -/
def kb_b (M : ab_ML) : Bool := M.all (fun q => !(q.1.beq 3) && !(q.1.beq 95) && !(q.1.beq 102)) && mk_b M 93 22
/-- both leave what is kept -/
def kk_b (M : ab_ML) : Bool := M.all (fun q => !(q.1.beq 18) && !(q.1.beq 33) && !(q.1.beq 97) && !(q.1.beq 102))
/-- both leave the tapes -/
def ka_b (M : ab_ML) : Bool := M.all (fun q => !(q.1.beq 2) && !(q.1.beq 94)) && mk_b M 1 1 && mk_b M 93 2
theorem kb_row {M : ab_ML} {k : Nat} (h : M.all (fun q => !(q.1.beq 3) && !(q.1.beq 95) && !(q.1.beq 102)) = true) (hk : k = 3 ∨ k = 95 ∨ k = 102) : M.all (fun q => !(q.1.beq k)) = true := by
  refine List.all_eq_true.mpr (fun q hq => ?_)
  have g := List.all_eq_true.mp h q hq
  rw [Bool.and_eq_true, Bool.and_eq_true] at g
  rcases hk with rfl | rfl | rfl
  · exact g.1.1
  · exact g.1.2
  · exact g.2
theorem kk_row {M : ab_ML} {k : Nat} (h : kk_b M = true) (hk : k = 18 ∨ k = 33 ∨ k = 97 ∨ k = 102) : M.all (fun q => !(q.1.beq k)) = true := by
  refine List.all_eq_true.mpr (fun q hq => ?_)
  have g := List.all_eq_true.mp h q hq
  rw [Bool.and_eq_true, Bool.and_eq_true, Bool.and_eq_true] at g
  rcases hk with rfl | rfl | rfl | rfl
  · exact g.1.1.1
  · exact g.1.1.2
  · exact g.1.2
  · exact g.2
theorem ka_row {M : ab_ML} {k : Nat} (h : M.all (fun q => !(q.1.beq 2) && !(q.1.beq 94)) = true) (hk : k = 2 ∨ k = 94) : M.all (fun q => !(q.1.beq k)) = true := by
  refine List.all_eq_true.mpr (fun q hq => ?_)
  have g := List.all_eq_true.mp h q hq
  rw [Bool.and_eq_true] at g
  rcases hk with rfl | rfl
  · exact g.1
  · exact g.2
theorem rb_two (hc : cn σ) (h1 : ab_okM M1 σ σ1) (hv : vw σm σ1) (h2 : ab_okM M2 σm σ2) (k1 : kb_b M1 = true) (k2 : kb_b M2 = true) (h : rb σ) : rb σ2 := by
  unfold kb_b at k1 k2
  rw [Bool.and_eq_true] at k1 k2
  exact rb_fr (fun j a b => two_row hc h1 hv h2 (kb_row k1.1 (Or.inl rfl)) (kb_row k2.1 (Or.inl rfl)) j (su3 a b)) (fun j a => two_row hc h1 hv h2 (kb_row k1.1 (Or.inr (Or.inl rfl))) (kb_row k2.1 (Or.inr (Or.inl rfl))) j (su95 a)) (two_at hc h1 hv h2 (su93 (Or.inr rfl)) k1.2 k2.2) (fun j a => two_row hc h1 hv h2 (kb_row k1.1 (Or.inr (Or.inr rfl))) (kb_row k2.1 (Or.inr (Or.inr rfl))) j (su102 a)) h
theorem rk_two (hc : cn σ) (h1 : ab_okM M1 σ σ1) (hv : vw σm σ1) (h2 : ab_okM M2 σm σ2) (k1 : kk_b M1 = true) (k2 : kk_b M2 = true) (h : rk σ) : rk σ2 :=
  rk_fr (fun j a => two_row hc h1 hv h2 (kk_row k1 (Or.inl rfl)) (kk_row k2 (Or.inl rfl)) j (su18 a)) (fun j a => two_row hc h1 hv h2 (kk_row k1 (Or.inr (Or.inl rfl))) (kk_row k2 (Or.inr (Or.inl rfl))) j (su33 a)) (fun j a => two_row hc h1 hv h2 (kk_row k1 (Or.inr (Or.inr (Or.inl rfl)))) (kk_row k2 (Or.inr (Or.inr (Or.inl rfl)))) j (su97 a)) (fun j a => two_row hc h1 hv h2 (kk_row k1 (Or.inr (Or.inr (Or.inr rfl)))) (kk_row k2 (Or.inr (Or.inr (Or.inr rfl)))) j (su102 a)) h
theorem ra_two (hc : cn σ) (h1 : ab_okM M1 σ σ1) (hv : vw σm σ1) (h2 : ab_okM M2 σm σ2) (k1 : ka_b M1 = true) (k2 : ka_b M2 = true) (h : ra σ) : ra σ2 := by
  unfold ka_b at k1 k2
  rw [Bool.and_eq_true, Bool.and_eq_true] at k1 k2
  refine ra_fr (two_at hc h1 hv h2 su1 k1.1.2 k2.1.2) (two_at hc h1 hv h2 (su93 (Or.inl rfl)) k1.2 k2.2) (fun j a => ?_) (fun j a => two_row hc h1 hv h2 (ka_row k1.1.1 (Or.inr rfl)) (ka_row k2.1.1 (Or.inr rfl)) j (su94 a)) h
  have e := two_row hc h1 hv h2 (ka_row k1.1.1 (Or.inl rfl)) (ka_row k2.1.1 (Or.inl rfl)) j (su2 a)
  exact tp_c σ σ2 j (by rw [e]; exact (hc 2 j (su2 a)).symm)
theorem rb_two_ly (hc : cn σ) (h1 : ab_okM M1 σ σ1) (hv : vw σm σ1) (h2 : ab_okM M2 σm σ2) (k1 : kb_b M1 = true) (k2 : M2.all (fun q => !(q.1.beq 3)) = true) (k3 : (mk_b M2 95 0 && mk_b M2 95 1 && mk_b M2 95 2) = true) (hl : ly_is σm σ2) (h : rb σ) : rb σ2 := by
  unfold kb_b at k1
  rw [Bool.and_eq_true] at k1
  rw [Bool.and_eq_true, Bool.and_eq_true] at k3
  have e22 : σm 93 22 = σ 93 22 := mid_at hc h1 hv (su93 (Or.inr rfl)) k1.2
  have e95 : ∀ j : Nat, j < 4 → σm 95 j = σ 95 j := fun j a => mid_row hc h1 hv (kb_row k1.1 (Or.inr (Or.inl rfl))) j (su95 a)
  refine rb_ly (σ := σ) (fun j a b => two_row hc h1 hv h2 (kb_row k1.1 (Or.inl rfl)) k2 j (su3 a b)) (fun j a => ?_) ?_ h
  · rw [← e95 j (by omega)]
    rcases (show j = 0 ∨ j = 1 ∨ j = 2 by omega) with rfl | rfl | rfl
    · exact mk_at h2 k3.1.1
    · exact mk_at h2 k3.1.2
    · exact mk_at h2 k3.2
  · obtain ⟨g1, g2, g3⟩ := hl
    refine ⟨g1, fun q => g2 (e22.trans q), fun q => ?_⟩
    rw [g3 (by rw [e22]; exact q)]
    exact e95 3 (by omega)
end
theorem okM_of {M : ab_ML} {σ σ' : ab_SG} (h : σ' = σ) : ab_okM M σ σ' := by
  rw [h]
  exact fun _ _ _ => rfl
theorem okM_self (M : ab_ML) (σ : ab_SG) : ab_okM M σ σ := fun _ _ _ => rfl
theorem okM_one {σ : ab_SG} {k j : Nat} {x : Int} : ab_okM [(k, j)] σ (ab_ups σ k j x) := fun a b h => ab_ups_ne (fun q => h (k, j) List.mem_cons_self ⟨q.1.symm, Or.inl q.2.symm⟩)
theorem okM_two {σ : ab_SG} {k j k' j' : Nat} {x y : Int} : ab_okM [(k, j), (k', j')] σ (ab_ups (ab_ups σ k j x) k' j' y) := fun a b h => by
  rw [ab_ups_ne (fun q => h (k', j') (List.mem_cons_of_mem _ List.mem_cons_self) ⟨q.1.symm, Or.inl q.2.symm⟩), ab_ups_ne (fun q => h (k, j) List.mem_cons_self ⟨q.1.symm, Or.inl q.2.symm⟩)]
/-! bytes come -/
def k_feed (a b c d e : Int) (σ σ' : ab_SG) : Prop := (920 < (σ 1 1).toNat ∧ σ' = σ) ∨ ((σ 1 1).toNat ≤ 920 ∧ ap_is σ σ' (σ 1 1).toNat 20 (fd_w ap_b a b c d e))
def km_feed (a b c d e : Int) (σ σ' : ab_SG) : Prop := (920 < (σ 93 2).toNat ∧ σ' = ab_ups σ 93 0 0) ∨ ((σ 93 2).toNat ≤ 920 ∧ cm_is σ σ' (σ 93 2).toNat 20 (fd_w ap_m a b c d e))
theorem sk_feed {σ : ab_SG} {a b c d e : Int} (h : ra σ) : sp_feed [(2, 0, 0), (0, 0, a), (0, 0, b), (0, 0, c), (0, 0, d), (0, 0, e)] σ (fun _ σ' => k_feed a b c d e σ σ') := by
  obtain ⟨-, h2, h3, -⟩ := h
  exact ⟨a, b, c, d, e, (σ 1 1).toNat, rfl, by omega, by omega, fun g => Or.inl ⟨g, rfl⟩, fun g σ' hs => Or.inr ⟨g, hs⟩⟩
theorem mid_feed {σ σ1 σm : ab_SG} {a b c d e : Int} (hc : cn σ) (h1 : k_feed a b c d e σ σ1) (hv : vw σm σ1) {k j : Nat} (hs : su k j) (hk : mk_b ap_M k j = true) : σm k j = σ k j := by
  rcases h1 with ⟨-, h⟩ | ⟨-, g, -⟩
  · exact mid_at (M1 := ap_M) hc (okM_of h) hv hs hk
  · exact mid_at hc g hv hs hk
theorem sm_feed {σ σ1 σm : ab_SG} {a b c d e : Int} (hc : cn σ) (hR : RQ9 σ) (h1 : k_feed a b c d e σ σ1) (hv : vw σm σ1) : sp_m_feed [(2, 93, 0), (0, 0, a), (0, 0, b), (0, 0, c), (0, 0, d), (0, 0, e)] σm (fun _ σ' => km_feed a b c d e σm σ') := by
  obtain ⟨⟨r1, r2, r3, -⟩, -, -⟩ := hR
  have e2 : σm 93 2 = σ 93 2 := mid_feed hc h1 hv (su93 (Or.inl rfl)) (by decide)
  exact ⟨a, b, c, d, e, (σm 93 2).toNat, rfl, by omega, by omega, fun g => Or.inl ⟨g, rfl⟩, fun g σ' hs => Or.inr ⟨g, hs⟩⟩
theorem fd_eq (a b c d e : Int) (i : Nat) : fw_op 8 (fd_w ap_b a b c d e i) 255 = fd_w ap_m a b c d e i := (ap_eq _ (i % 4) (Nat.mod_lt _ (by decide))).1
theorem rr_feed {σ σ1 σm σ2 : ab_SG} {a b c d e : Int} (hc : cn σ) (hR : RQ9 σ) (h1 : k_feed a b c d e σ σ1) (hv : vw σm σ1) (h2 : km_feed a b c d e σm σ2) : RQ9 σ2 := by
  have e2 : σm 93 2 = σ 93 2 := mid_feed hc h1 hv (su93 (Or.inl rfl)) (by decide)
  obtain ⟨⟨r1, r2, r3, r4⟩, rB, rK⟩ := hR
  rcases h1 with ⟨g1, g2⟩ | ⟨g1, g2, g3, g4, g5⟩
  · rcases h2 with ⟨-, rfl⟩ | ⟨q1, -⟩
    · have s1 : ab_okM [] σ σ1 := okM_of g2
      have s2 : ab_okM [(93, 0)] σm (ab_ups σm 93 0 0) := okM_one
      exact ⟨ra_two hc s1 hv s2 (by decide) (by decide) ⟨r1, r2, r3, r4⟩, rb_two hc s1 hv s2 (by decide) (by decide) rB, rk_two hc s1 hv s2 (by decide) (by decide) rK⟩
    · omega
  · rcases h2 with ⟨q1, -⟩ | ⟨q1, q2, q3, q4, q5⟩
    · omega
    · refine ⟨?_, rb_two hc g2 hv q2 (by decide) (by decide) rB, rk_two hc g2 hv q2 (by decide) (by decide) rK⟩
      have e11 : σ2 1 1 = ((σ 1 1).toNat + 20 : Nat) := by
        rw [mk_at q2 (k := 1) (j := 1) (by decide), hv 1 1 su1, g3]
        exact fw_c_id (by omega) (by omega)
      rw [e2] at q1 q3 q4 q5
      have en : (σ 93 2).toNat = (σ 1 1).toNat := by rw [r1]
      rw [en] at q1 q3 q4 q5
      have et : ∀ j : Nat, j < 940 → tp_t σ2 j = tp_t σ1 j := fun j hj => by
        refine tp_c σ1 σ2 j ?_
        rw [mk_row q2 (k := 2) (by decide)]
        exact hv 2 j (su2 hj)
      refine ⟨by rw [e11, q3], by rw [e11]; omega, by rw [e11]; omega, fun j hj => ?_⟩
      rw [e11] at hj
      have hj9 : j < 940 := by omega
      rw [et j hj9]
      by_cases h : j < (σ 1 1).toNat
      · rw [q4 j h, mid_row hc g2 hv (k := 94) (by decide) j (su94 hj9), ← r4 j (by omega)]
        exact tp_c σ σ1 j (by rw [g4 j h]; exact (hc 2 j (su2 hj9)).symm)
      · obtain ⟨i, rfl⟩ : ∃ i : Nat, j = (σ 1 1).toNat + i := ⟨j - (σ 1 1).toNat, by omega⟩
        have hi : i < 20 := by omega
        rw [q5 i hi, ← fd_eq]
        show fw_op 8 (σ1 2 ((σ 1 1).toNat + i)) 255 = _
        rw [g5 i hi]
/-! bytes are taken away -/
def k_end (n : Int) (σ σ' : ab_SG) : Prop := ((0 ≤ fw_c n ∧ fw_c n ≤ σ 1 1) ∧ σ' = ab_ups σ 1 1 (fw_c n)) ∨ (¬ (0 ≤ fw_c n ∧ fw_c n ≤ σ 1 1) ∧ σ' = σ)
def km_end (n : Int) (σ σ' : ab_SG) : Prop := ((0 ≤ fw_c n ∧ fw_c n ≤ σ 93 2) ∧ σ' = ab_ups (ab_ups σ 93 0 0) 93 2 (fw_c n)) ∨ (¬ (0 ≤ fw_c n ∧ fw_c n ≤ σ 93 2) ∧ σ' = ab_ups σ 93 0 0)
theorem sk_end {σ : ab_SG} {n : Int} (h : ra σ) : sp_end [(2, 0, 0), (0, 0, n)] σ (fun _ σ' => k_end n σ σ') := ⟨n, rfl, ⟨h.2.1, h.2.2.1⟩, fun g => Or.inl ⟨g, rfl⟩, fun g => Or.inr ⟨g, rfl⟩⟩
theorem mid_end {σ σ1 σm : ab_SG} {n : Int} (hc : cn σ) (h1 : k_end n σ σ1) (hv : vw σm σ1) {k j : Nat} (hs : su k j) (hk : mk_b [(1, 1)] k j = true) : σm k j = σ k j := by
  rcases h1 with ⟨-, rfl⟩ | ⟨-, h⟩
  · exact mid_at hc okM_one hv hs hk
  · exact mid_at (M1 := [(1, 1)]) hc (okM_of h) hv hs hk
theorem sm_end {σ σ1 σm : ab_SG} {n : Int} (hc : cn σ) (hR : RQ9 σ) (h1 : k_end n σ σ1) (hv : vw σm σ1) : sp_m_end [(2, 93, 0), (0, 0, n)] σm (fun _ σ' => km_end n σm σ') := by
  obtain ⟨⟨r1, r2, r3, -⟩, -, -⟩ := hR
  have e2 : σm 93 2 = σ 93 2 := mid_end hc h1 hv (su93 (Or.inl rfl)) (by decide)
  exact ⟨n, rfl, ⟨by omega, by omega⟩, fun g => Or.inl ⟨g, rfl⟩, fun g => Or.inr ⟨g, rfl⟩⟩
theorem rr_end {σ σ1 σm σ2 : ab_SG} {n : Int} (hc : cn σ) (hR : RQ9 σ) (h1 : k_end n σ σ1) (hv : vw σm σ1) (h2 : km_end n σm σ2) : RQ9 σ2 := by
  have e2 : σm 93 2 = σ 93 2 := mid_end hc h1 hv (su93 (Or.inl rfl)) (by decide)
  obtain ⟨⟨r1, r2, r3, r4⟩, rB, rK⟩ := hR
  rcases h1 with ⟨g1, rfl⟩ | ⟨g1, g2⟩
  · rcases h2 with ⟨q1, rfl⟩ | ⟨q1, -⟩
    · have s1 : ab_okM [(1, 1)] σ (ab_ups σ 1 1 (fw_c n)) := okM_one
      have s2 : ab_okM [(93, 0), (93, 2)] σm (ab_ups (ab_ups σm 93 0 0) 93 2 (fw_c n)) := okM_two
      refine ⟨?_, rb_two hc s1 hv s2 (by decide) (by decide) rB, rk_two hc s1 hv s2 (by decide) (by decide) rK⟩
      have e11 : ab_ups (ab_ups σm 93 0 0) 93 2 (fw_c n) 1 1 = fw_c n := by
        rw [mk_at s2 (k := 1) (j := 1) (by decide), hv 1 1 su1, ab_ups_eq, fw_c_c]
      refine ⟨by rw [e11, ab_ups_eq], by rw [e11]; exact g1.1, by rw [e11]; omega, fun j hj => ?_⟩
      rw [e11] at hj
      have hj9 : j < 940 := by omega
      rw [two_row hc s1 hv s2 (k := 94) (by decide) (by decide) j (su94 hj9), ← r4 j (by omega)]
      refine tp_c σ _ j ?_
      rw [two_row hc s1 hv s2 (k := 2) (by decide) (by decide) j (su2 hj9)]
      exact (hc 2 j (su2 hj9)).symm
    · exact absurd (by rw [e2, ← r1]; exact g1) q1
  · rcases h2 with ⟨q1, -⟩ | ⟨q1, rfl⟩
    · exact absurd (by rw [r1, ← e2]; exact q1) g1
    · have s1 : ab_okM [] σ σ1 := okM_of g2
      have s2 : ab_okM [(93, 0)] σm (ab_ups σm 93 0 0) := okM_one
      exact ⟨ra_two hc s1 hv s2 (by decide) (by decide) ⟨r1, r2, r3, r4⟩, rb_two hc s1 hv s2 (by decide) (by decide) rB, rk_two hc s1 hv s2 (by decide) (by decide) rK⟩
/-! a studio is read -/
def k_studio (A : ab_SG) (σ σ' : ab_SG) : Prop := rl_is A ∧ rl_ok A ∧ (((pr_read A (tp_t σ) (σ 1 1).toNat).1.1 ≠ 0 ∧ ab_okM sf_M σ σ' ∧ σ' 1 1 = 0) ∨ ((pr_read A (tp_t σ) (σ 1 1).toNat).1.1 = 0 ∧ cs_ok σ σ' (pr_read A (tp_t σ) (σ 1 1).toNat).1.2.1))
def km_studio (A : ab_SG) (t : Nat → Int) (σ σ' : ab_SG) : Prop := ((pr_read A t (σ 93 2).toNat).1.1 ≠ 0 ∧ ab_okM mf_M σ σ' ∧ σ' 93 2 = 0 ∧ ly_is σ σ') ∨ ((pr_read A t (σ 93 2).toNat).1.1 = 0 ∧ ms_ok σ σ' (pr_read A t (σ 93 2).toNat).1.2.1)
theorem sk_studio {σ : ab_SG} (hl : rl_ok σ) (h : ra σ) : sp_studio [(2, 0, 0)] σ (fun _ σ' => ∃ A : ab_SG, k_studio A σ σ') :=
  ⟨rfl, ⟨h.2.1, h.2.2.1⟩, hl, fun A a b => ⟨fun g _ σ' q1 q2 _ => ⟨A, a, b, Or.inl ⟨g, q1, q2⟩⟩, fun g σ' q => ⟨A, a, b, Or.inr ⟨g, q⟩⟩⟩⟩
theorem mid_studio {A σ σ1 σm : ab_SG} (hc : cn σ) (h1 : k_studio A σ σ1) (hv : vw σm σ1) {k j : Nat} (hs : su k j) (hk : mk_b ss_M k j = true) (hk2 : mk_b sf_M k j = true) : σm k j = σ k j := by
  obtain ⟨-, -, ⟨-, g, -⟩ | ⟨-, g, -⟩⟩ := h1
  · exact mid_at hc g hv hs hk2
  · exact mid_at hc g hv hs hk
theorem row_studio {A σ σ1 σm : ab_SG} (hc : cn σ) (h1 : k_studio A σ σ1) (hv : vw σm σ1) {k : Nat} (hk : ss_M.all (fun q => !(q.1.beq k)) = true) (hk2 : sf_M.all (fun q => !(q.1.beq k)) = true) (j : Nat) (hs : su k j) : σm k j = σ k j := by
  obtain ⟨-, -, ⟨-, g, -⟩ | ⟨-, g, -⟩⟩ := h1
  · exact mid_row hc g hv hk2 j hs
  · exact mid_row hc g hv hk j hs
theorem ly_of {σ : ab_SG} (h : rb σ) : ly_ok σ := by
  rcases h.2.2.2 with ⟨a, -⟩ | ⟨a, -⟩
  · exact Or.inr a
  · exact Or.inl a
theorem sm_studio {A σ σ1 σm : ab_SG} (hc : cn σ) (hR : RQ9 σ) (h1 : k_studio A σ σ1) (hv : vw σm σ1) : sp_m_studio [(2, 93, 0)] σm (fun _ σ' => km_studio A (tp_t σ) σm σ') := by
  obtain ⟨⟨r1, r2, r3, r4⟩, rB, -⟩ := hR
  have e2 : σm 93 2 = σ 93 2 := mid_studio hc h1 hv (su93 (Or.inl rfl)) (by decide) (by decide)
  have e22 : σm 93 22 = σ 93 22 := mid_studio hc h1 hv (su93 (Or.inr rfl)) (by decide) (by decide)
  refine ⟨tp_t σ, A, rfl, ⟨by omega, by omega⟩, fun j hj => ?_, ?_, h1.1, h1.2.1, fun g _ σ' q1 _ q2 q3 => Or.inl ⟨g, q1, q2, q3⟩, fun g σ' q => Or.inr ⟨g, q⟩⟩
  · have hj9 : j < 940 := by omega
    refine ⟨?_, (tp_t_in σ j).1, (tp_t_in σ j).2⟩
    rw [row_studio hc h1 hv (k := 94) (by decide) (by decide) j (su94 hj9)]
    exact (r4 j (by omega)).symm
  · unfold ly_ok
    rw [e22]
    exact ly_of rB
theorem rr_studio {A σ σ1 σm σ2 σ3 : ab_SG} (hc : cn σ) (hR : RQ9 σ) (h1 : k_studio A σ σ1) (hv : vw σm σ1) (h2 : km_studio A (tp_t σ) σm σ2) (hw : vw σ3 σ2) : RQ9 σ3 := by
  have e2 : σm 93 2 = σ 93 2 := mid_studio hc h1 hv (su93 (Or.inl rfl)) (by decide) (by decide)
  obtain ⟨⟨r1, r2, r3, r4⟩, rB, rK⟩ := hR
  obtain ⟨-, -, h1⟩ := h1
  unfold km_studio at h2
  rw [e2, ← r1] at h2
  rcases h1 with ⟨g1, g2, g3⟩ | ⟨g1, g2⟩
  · rcases h2 with ⟨-, q2, q3, q4⟩ | ⟨q1, -⟩
    · refine RQ9_tr hw ⟨?_, rb_two_ly hc g2 hv q2 (by decide) (by decide) (by decide) q4 rB, rk_two hc g2 hv q2 (by decide) (by decide) rK⟩
      have e11 : σ2 1 1 = 0 := by
        rw [mk_at q2 (k := 1) (j := 1) (by decide), hv 1 1 su1, g3]
        exact fw_c_id (by decide) (by decide)
      exact ⟨by rw [e11, q3], by rw [e11]; exact Int.le_refl 0, by rw [e11]; decide, fun j hj => by rw [e11] at hj; omega⟩
    · exact absurd q1 g1
  · rcases h2 with ⟨q1, -⟩ | ⟨-, q2⟩
    · exact absurd g1 q1
    · obtain ⟨s1, s2, -, -, -, s6, -⟩ := g2
      obtain ⟨w1, -, w3, w4, -, -, -, w8, -⟩ := q2
      obtain ⟨c1, c2, c3, c4, -⟩ := s6
      obtain ⟨n1, n2, n3, n4, -⟩ := w8
      refine ⟨ra_tr hw ?_, ?_, rk_tr hw (rk_two hc s1 hv w1 (by decide) (by decide) rK)⟩
      · have e11 : σ2 1 1 = 0 := by
          rw [mk_at w1 (k := 1) (j := 1) (by decide), hv 1 1 su1, s2]
          exact fw_c_id (by decide) (by decide)
        exact ⟨by rw [e11, w3], by rw [e11]; exact Int.le_refl 0, by rw [e11]; decide, fun j hj => by rw [e11] at hj; omega⟩
      · have e : ∀ j : Nat, 11 ≤ j → j ≤ 14 → σ3 3 j = fw_c (σ1 3 j) := fun j a b => by
          rw [hw 3 j (su3 a b), mk_row w1 (k := 3) (by decide), hv 3 j (su3 a b), fw_c_c]
        refine ⟨?_, ?_, ?_, Or.inl ⟨?_, ?_⟩⟩
        · rw [e 11 (by omega) (by omega), hw 95 0 (su95 (by omega)), c1, n1]
        · rw [e 12 (by omega) (by omega), hw 95 1 (su95 (by omega)), c2, n2]
        · rw [e 13 (by omega) (by omega), hw 95 2 (su95 (by omega)), c3, n3]
        · rw [hw 93 22 (su93 (Or.inr rfl)), w4]
          exact fw_c_id (by decide) (by decide)
        · rw [e 14 (by omega) (by omega), hw 95 3 (su95 (by omega)), c4, n4]
/-! what is kept, what comes back -/
def k_image (k : Int) (σ σ' : ab_SG) : Prop := (k ≠ 0 ∧ k ≠ 1 ∧ σ' = σ) ∨ (k = 0 ∧ ab_okM (im_M 18) σ σ' ∧ cy_is σ σ' 3 18 ∧ σ' 18 16 = 1) ∨ (k = 1 ∧ ab_okM (im_M 33) σ σ' ∧ cy_is σ σ' 3 33 ∧ σ' 33 16 = 1)
def km_image (k : Int) (σ σ' : ab_SG) : Prop := (k ≠ 0 ∧ k ≠ 1 ∧ ab_okM lm_M σ σ' ∧ ly_is σ σ') ∨ ∃ (q : Nat) (σ1 : ab_SG), q < 2 ∧ k = (q : Int) ∧ ab_okM lm_M σ σ1 ∧ ly_is σ σ1 ∧ kp_is σ1 σ' q
theorem sk_image {σ : ab_SG} {k : Int} (hk : fw_c k = k) : sp_image [(2, 0, 0), (0, 0, k)] σ (fun _ σ' => k_image k σ σ') :=
  ⟨k, rfl, hk, fun a b => Or.inl ⟨a, b, rfl⟩, fun a σ' p q r => Or.inr (Or.inl ⟨a, p, q, r⟩), fun a σ' p q r => Or.inr (Or.inr ⟨a, p, q, r⟩)⟩
theorem mid_image {σ σ1 σm : ab_SG} {k : Int} (hc : cn σ) (h1 : k_image k σ σ1) (hv : vw σm σ1) {a j : Nat} (hs : su a j) (h18 : mk_b (im_M 18) a j = true) (h33 : mk_b (im_M 33) a j = true) : σm a j = σ a j := by
  rcases h1 with ⟨-, -, h⟩ | ⟨-, g, -⟩ | ⟨-, g, -⟩
  · exact mid_at (M1 := []) hc (okM_of h) hv hs rfl
  · exact mid_at hc g hv hs h18
  · exact mid_at hc g hv hs h33
theorem sm_image {σ σ1 σm : ab_SG} {k : Int} (hk : fw_c k = k) (hc : cn σ) (hR : RQ9 σ) (h1 : k_image k σ σ1) (hv : vw σm σ1) : sp_m_image [(2, 93, 0), (0, 0, k)] σm (fun _ σ' => km_image k σm σ') := by
  have e22 : σm 93 22 = σ 93 22 := mid_image hc h1 hv (su93 (Or.inr rfl)) (by decide) (by decide)
  refine ⟨k, rfl, hk, ?_, fun a b σ' p q => Or.inl ⟨a, b, p, q⟩, fun q a b s1 σ' p r t => Or.inr ⟨q, s1, a, b, p, r, t⟩⟩
  unfold ly_ok
  rw [e22]
  exact ly_of hR.2.1
theorem RQ9_keep {σ σ' : ab_SG} (h : ∀ k j : Nat, su k j → ¬ (k = 93 ∧ j = 23) → σ' k j = σ k j) (hR : RQ9 σ) : RQ9 σ' :=
  ⟨ra_fr (h 1 1 su1 (fun q => absurd q.1 (by decide))) (h 93 2 (su93 (Or.inl rfl)) (fun q => absurd q.2 (by decide))) (fun j a => by
    show fw_op 8 (σ' 2 j) 255 = fw_op 8 (σ 2 j) 255
    rw [h 2 j (su2 a) (fun q => absurd q.1 (by decide))]) (fun j a => h 94 j (su94 a) (fun q => absurd q.1 (by decide))) hR.1, rb_fr (fun j a b => h 3 j (su3 a b) (fun q => absurd q.1 (by decide))) (fun j a => h 95 j (su95 a) (fun q => absurd q.1 (by decide))) (h 93 22 (su93 (Or.inr rfl)) (fun q => absurd q.2 (by decide))) (fun j a => h 102 j (su102 a) (fun q => absurd q.1 (by decide))) hR.2.1, rk_fr (fun j a => h 18 j (su18 a) (fun q => absurd q.1 (by decide))) (fun j a => h 33 j (su33 a) (fun q => absurd q.1 (by decide))) (fun j a => h 97 j (su97 a) (fun q => absurd q.1 (by decide))) (fun j a => h 102 j (su102 a) (fun q => absurd q.1 (by decide))) hR.2.2⟩
/-- the tape is empty, a studio is laid -/
theorem RQ9_lay {σ σ' : ab_SG} (h : ∀ k j : Nat, su k j → k ≠ 1 → k ≠ 93 → ¬ (k = 95 ∧ j = 3) → σ' k j = σ k j) (h1 : σ' 1 1 = 0) (h2 : σ' 93 2 = 0) (h3 : ly_is σ σ') (hR : RQ9 σ) : RQ9 σ' :=
  ⟨⟨by rw [h1, h2], by rw [h1]; exact Int.le_refl 0, by rw [h1]; decide, fun j hj => by rw [h1] at hj; omega⟩, rb_ly (fun j a b => h 3 j (su3 a b) (by decide) (by decide) (fun q => absurd q.1 (by decide))) (fun j a => h 95 j (su95 (by omega)) (by decide) (by decide) (fun q => by omega)) h3 hR.2.1,
    rk_fr (fun j a => h 18 j (su18 a) (by decide) (by decide) (fun q => absurd q.1 (by decide))) (fun j a => h 33 j (su33 a) (by decide) (by decide) (fun q => absurd q.1 (by decide))) (fun j a => h 97 j (su97 a) (by decide) (by decide) (fun q => absurd q.1 (by decide))) (fun j a => h 102 j (su102 a) (by decide) (by decide) (fun q => absurd q.1 (by decide))) hR.2.2⟩
theorem okM_sub {M M' : ab_ML} {σ σ' : ab_SG} (h : ab_okM M σ σ') (hm : ∀ q ∈ M, q ∈ M') : ab_okM M' σ σ' := fun a b g => h a b (fun q hq => g q (hm q hq))
def rs (σ : ab_SG) (b q o : Nat) : Prop := σ b 16 = σ 102 q ∧ (σ 102 q = 0 ∨ σ 102 q = 1) ∧ (σ 102 q = 1 → σ b 11 = σ 97 o ∧ σ b 12 = σ 97 (o + 1) ∧ σ b 13 = σ 97 (o + 2) ∧ σ b 14 = σ 97 (o + 3))
theorem rs_fr {σ σ' : ab_SG} {b q o : Nat} (e1 : ∀ j : Nat, (11 ≤ j ∧ j ≤ 14 ∨ j = 16) → σ' b j = σ b j) (e2 : ∀ j : Nat, o ≤ j → j < o + 4 → σ' 97 j = σ 97 j) (e3 : σ' 102 q = σ 102 q) (h : rs σ b q o) : rs σ' b q o := by
  unfold rs
  rw [e1 11 (by omega), e1 12 (by omega), e1 13 (by omega), e1 14 (by omega), e1 16 (by omega), e2 o (by omega) (by omega), e2 (o + 1) (by omega) (by omega), e2 (o + 2) (by omega) (by omega), e2 (o + 3) (by omega) (by omega), e3]
  exact h
def km_M : ab_ML := [(93, 0), (93, 22), (95, 3), (97, 1000000), (101, 1000000), (102, 1000000)]
theorem km_two {σ σ1 σ2 : ab_SG} (h1 : ab_okM lm_M σ σ1) (h2 : ab_okM [(97, 1000000), (101, 1000000), (102, 1000000)] σ1 σ2) : ab_okM km_M σ σ2 := fw_okM_tr (okM_sub h1 (by decide)) h2 (by decide)
theorem kp_ly {σ σ1 σ2 : ab_SG} {q : Nat} (h1 : ly_is σ σ1) (h2 : kp_is σ1 σ2 q) : ly_is σ σ2 := by
  unfold ly_is
  rw [mk_at h2.1 (k := 93) (j := 22) (by decide), mk_at h2.1 (k := 95) (j := 3) (by decide)]
  exact h1
theorem im_new0 {σ σ1 σm s1 σ2 : ab_SG} (hc : cn σ) (hR : RQ9 σ) (g2 : ab_okM (im_M 18) σ σ1) (g3 : cy_is σ σ1 3 18) (g4 : σ1 18 16 = 1) (hv : vw σm σ1) (q1 : ab_okM lm_M σm s1) (q2 : ly_is σm s1) (q3 : kp_is s1 σ2 0) : RQ9 σ2 := by
  obtain ⟨rA, rB, rK⟩ := hR
  have w := km_two q1 q3.1
  have sB : rb s1 := rb_two_ly hc g2 hv q1 (by decide) (by decide) (by decide) q2 rB
  refine ⟨ra_two hc g2 hv w (by decide) (by decide) rA, rb_two_ly hc g2 hv w (by decide) (by decide) (by decide) (kp_ly q2 q3) rB, ?_⟩
  obtain ⟨-, p2, -, p4, -, p6, p7⟩ := q3
  obtain ⟨-, -, -, -, -, -, -, -, -, -, -, c11, c12, c13, c14, -⟩ := g3
  have e3 : ∀ j : Nat, 11 ≤ j → j ≤ 14 → s1 3 j = σ 3 j := fun j a b => two_row hc g2 hv q1 (k := 3) (by decide) (by decide) j (su3 a b)
  have eb : ∀ j : Nat, (11 ≤ j ∧ j ≤ 14 ∨ j = 16) → σ2 18 j = fw_c (σ1 18 j) := fun j a => (mk_row w (k := 18) (by decide) j).trans (hv 18 j (su18 a))
  have s3 : s1 95 3 = s1 3 14 := by
    rcases sB.2.2.2 with ⟨-, z⟩ | ⟨z, -⟩
    · exact z
    · rw [q2.1] at z
      exact absurd z (by decide)
  have new : rs σ2 18 0 0 := by
    refine ⟨?_, Or.inr p6, fun _ => ⟨?_, ?_, ?_, ?_⟩⟩
    · rw [eb 16 (Or.inr rfl), g4, p6]
      exact fw_c_id (by decide) (by decide)
    · have z : σ2 97 0 = fw_c (s1 95 0) := p2 0 (by decide)
      rw [z, eb 11 (by omega), c11, fw_c_c, ← sB.1, e3 11 (by omega) (by omega)]
    · have z : σ2 97 (0 + 1) = fw_c (s1 95 1) := p2 1 (by decide)
      rw [z, eb 12 (by omega), c12, fw_c_c, ← sB.2.1, e3 12 (by omega) (by omega)]
    · have z : σ2 97 (0 + 2) = fw_c (s1 95 2) := p2 2 (by decide)
      rw [z, eb 13 (by omega), c13, fw_c_c, ← sB.2.2.1, e3 13 (by omega) (by omega)]
    · have z : σ2 97 (0 + 3) = fw_c (s1 95 3) := p2 3 (by decide)
      rw [z, eb 14 (by omega), c14, fw_c_c, s3, e3 14 (by omega) (by omega)]
  have old : rs σ2 33 1 474 := by
    refine rs_fr (σ := σ) (fun j a => two_row hc g2 hv w (k := 33) (by decide) (by decide) j (su33 a)) (fun j a b => ?_) ?_ rK.2
    · rw [p4 j (by omega)]
      exact two_row hc g2 hv q1 (k := 97) (by decide) (by decide) j (su97 (by omega))
    · rw [p7 1 (by decide)]
      exact two_row hc g2 hv q1 (k := 102) (by decide) (by decide) 1 (su102 (by decide))
  exact ⟨new, old⟩
theorem im_new1 {σ σ1 σm s1 σ2 : ab_SG} (hc : cn σ) (hR : RQ9 σ) (g2 : ab_okM (im_M 33) σ σ1) (g3 : cy_is σ σ1 3 33) (g4 : σ1 33 16 = 1) (hv : vw σm σ1) (q1 : ab_okM lm_M σm s1) (q2 : ly_is σm s1) (q3 : kp_is s1 σ2 1) : RQ9 σ2 := by
  obtain ⟨rA, rB, rK⟩ := hR
  have w := km_two q1 q3.1
  have sB : rb s1 := rb_two_ly hc g2 hv q1 (by decide) (by decide) (by decide) q2 rB
  refine ⟨ra_two hc g2 hv w (by decide) (by decide) rA, rb_two_ly hc g2 hv w (by decide) (by decide) (by decide) (kp_ly q2 q3) rB, ?_⟩
  obtain ⟨-, p2, -, p4, -, p6, p7⟩ := q3
  obtain ⟨-, -, -, -, -, -, -, -, -, -, -, c11, c12, c13, c14, -⟩ := g3
  have e3 : ∀ j : Nat, 11 ≤ j → j ≤ 14 → s1 3 j = σ 3 j := fun j a b => two_row hc g2 hv q1 (k := 3) (by decide) (by decide) j (su3 a b)
  have eb : ∀ j : Nat, (11 ≤ j ∧ j ≤ 14 ∨ j = 16) → σ2 33 j = fw_c (σ1 33 j) := fun j a => (mk_row w (k := 33) (by decide) j).trans (hv 33 j (su33 a))
  have s3 : s1 95 3 = s1 3 14 := by
    rcases sB.2.2.2 with ⟨-, z⟩ | ⟨z, -⟩
    · exact z
    · rw [q2.1] at z
      exact absurd z (by decide)
  have new : rs σ2 33 1 474 := by
    refine ⟨?_, Or.inr p6, fun _ => ⟨?_, ?_, ?_, ?_⟩⟩
    · rw [eb 16 (Or.inr rfl), g4, p6]
      exact fw_c_id (by decide) (by decide)
    · have z : σ2 97 474 = fw_c (s1 95 0) := p2 0 (by decide)
      rw [z, eb 11 (by omega), c11, fw_c_c, ← sB.1, e3 11 (by omega) (by omega)]
    · have z : σ2 97 (474 + 1) = fw_c (s1 95 1) := p2 1 (by decide)
      rw [z, eb 12 (by omega), c12, fw_c_c, ← sB.2.1, e3 12 (by omega) (by omega)]
    · have z : σ2 97 (474 + 2) = fw_c (s1 95 2) := p2 2 (by decide)
      rw [z, eb 13 (by omega), c13, fw_c_c, ← sB.2.2.1, e3 13 (by omega) (by omega)]
    · have z : σ2 97 (474 + 3) = fw_c (s1 95 3) := p2 3 (by decide)
      rw [z, eb 14 (by omega), c14, fw_c_c, s3, e3 14 (by omega) (by omega)]
  have old : rs σ2 18 0 0 := by
    refine rs_fr (σ := σ) (fun j a => two_row hc g2 hv w (k := 18) (by decide) (by decide) j (su18 a)) (fun j a b => ?_) ?_ rK.1
    · rw [p4 j (by omega)]
      exact two_row hc g2 hv q1 (k := 97) (by decide) (by decide) j (su97 (by omega))
    · rw [p7 0 (by decide)]
      exact two_row hc g2 hv q1 (k := 102) (by decide) (by decide) 0 (su102 (by decide))
  exact ⟨old, new⟩
theorem re_new0 {σ σ1 σm σ2 : ab_SG} (hc : cn σ) (hR : RQ9 σ) (g1 : σ 102 0 = 1) (g2 : ab_okM re_M σ σ1) (g3 : cy_is σ σ1 18 3) (hv : vw σm σ1) (q3 : tb_is σm σ2 0) : RQ9 σ2 := by
  obtain ⟨rA, rB, rK⟩ := hR
  obtain ⟨w, p2, -, -⟩ := q3
  refine ⟨ra_two hc g2 hv w (by decide) (by decide) rA, ?_, rk_two hc g2 hv w (by decide) (by decide) rK⟩
  obtain ⟨-, -, -, -, -, -, -, -, -, -, -, c11, c12, c13, c14, -⟩ := g3
  obtain ⟨z11, z12, z13, z14⟩ := rK.1.2.2 g1
  have e3 : ∀ j : Nat, 11 ≤ j → j ≤ 14 → σ2 3 j = fw_c (σ1 3 j) := fun j a b => (mk_row w (k := 3) (by decide) j).trans (hv 3 j (su3 a b))
  have e9 : ∀ j : Nat, j < 4 → σ2 95 j = fw_c (σ 97 (0 + j)) := fun j a => by
    have z := p2 j (by omega)
    have e : 474 * 0 + j = 0 + j := by omega
    rw [e] at z
    rw [z, mid_row hc g2 hv (k := 97) (by decide) (0 + j) (su97 (by omega))]
  have e90 : σ2 95 0 = fw_c (σ 97 0) := e9 0 (by omega)
  have e91 : σ2 95 1 = fw_c (σ 97 1) := e9 1 (by omega)
  have e92 : σ2 95 2 = fw_c (σ 97 2) := e9 2 (by omega)
  have e93 : σ2 95 3 = fw_c (σ 97 3) := e9 3 (by omega)
  refine ⟨?_, ?_, ?_, Or.inl ⟨?_, ?_⟩⟩
  · rw [e3 11 (by omega) (by omega), e90, c11, fw_c_c, z11]
  · rw [e3 12 (by omega) (by omega), e91, c12, fw_c_c, z12]
  · rw [e3 13 (by omega) (by omega), e92, c13, fw_c_c, z13]
  · rw [two_at hc g2 hv w (su93 (Or.inr rfl)) (by decide) (by decide)]
    rcases rB.2.2.2 with ⟨a, -⟩ | ⟨-, -, a, b, -⟩
    · exact a
    · rw [a] at g1
      exact absurd g1 (by decide)
  · rw [e3 14 (by omega) (by omega), e93, c14, fw_c_c, z14]
theorem re_new1 {σ σ1 σm σ2 : ab_SG} (hc : cn σ) (hR : RQ9 σ) (g1 : σ 102 1 = 1) (g2 : ab_okM re_M σ σ1) (g3 : cy_is σ σ1 33 3) (hv : vw σm σ1) (q3 : tb_is σm σ2 1) : RQ9 σ2 := by
  obtain ⟨rA, rB, rK⟩ := hR
  obtain ⟨w, p2, -, -⟩ := q3
  refine ⟨ra_two hc g2 hv w (by decide) (by decide) rA, ?_, rk_two hc g2 hv w (by decide) (by decide) rK⟩
  obtain ⟨-, -, -, -, -, -, -, -, -, -, -, c11, c12, c13, c14, -⟩ := g3
  obtain ⟨z11, z12, z13, z14⟩ := rK.2.2.2 g1
  have e3 : ∀ j : Nat, 11 ≤ j → j ≤ 14 → σ2 3 j = fw_c (σ1 3 j) := fun j a b => (mk_row w (k := 3) (by decide) j).trans (hv 3 j (su3 a b))
  have e9 : ∀ j : Nat, j < 4 → σ2 95 j = fw_c (σ 97 (474 + j)) := fun j a => by
    have z := p2 j (by omega)
    have e : 474 * 1 + j = 474 + j := by omega
    rw [e] at z
    rw [z, mid_row hc g2 hv (k := 97) (by decide) (474 + j) (su97 (by omega))]
  have e90 : σ2 95 0 = fw_c (σ 97 474) := e9 0 (by omega)
  have e91 : σ2 95 1 = fw_c (σ 97 475) := e9 1 (by omega)
  have e92 : σ2 95 2 = fw_c (σ 97 476) := e9 2 (by omega)
  have e93 : σ2 95 3 = fw_c (σ 97 477) := e9 3 (by omega)
  refine ⟨?_, ?_, ?_, Or.inl ⟨?_, ?_⟩⟩
  · rw [e3 11 (by omega) (by omega), e90, c11, fw_c_c, z11]
  · rw [e3 12 (by omega) (by omega), e91, c12, fw_c_c, z12]
  · rw [e3 13 (by omega) (by omega), e92, c13, fw_c_c, z13]
  · rw [two_at hc g2 hv w (su93 (Or.inr rfl)) (by decide) (by decide)]
    rcases rB.2.2.2 with ⟨a, -⟩ | ⟨-, -, a, b, -⟩
    · exact a
    · rw [b] at g1
      exact absurd g1 (by decide)
  · rw [e3 14 (by omega) (by omega), e93, c14, fw_c_c, z14]
theorem rn_studio {A : ab_SG} {t : Nat → Int} {σm σ2 σ5 : ab_SG} (h0 : 0 ≤ σm 93 23) (h1 : σm 93 23 ≤ 3584) (h2 : km_studio A t σm σ2) (hw : vw σ5 σ2) : 0 ≤ σ5 93 23 ∧ σ5 93 23 ≤ σm 93 23 + 1 := by
  rw [hw 93 23 su9323]
  rcases h2 with ⟨-, q2, -⟩ | ⟨-, q2⟩
  · rw [mk_at q2 (k := 93) (j := 23) (by decide), fw_c_id (by omega) (by omega)]
    omega
  · obtain ⟨-, -, -, -, -, -, -, -, -, w, -⟩ := q2
    rw [w, fw_c_c, fw_c_id (by omega) (by omega)]
    omega
/-- names and sizes are numbers that fit -/
def sl_b (k a b : Nat) : Bool := match ab_rdT nn_T k a b with
  | some r => decide (-9223372036854775808 ≤ r.1 ∧ r.2 ≤ 9223372036854775807)
  | none => false
theorem sl_b_ok {k a b j : Nat} {σ : ab_SG} (h : sl_b k a b = true) (hR : ab_okR nn_T σ) (h1 : a ≤ j) (h2 : j ≤ b) : fw_d (σ k j) = σ k j := by
  unfold sl_b at h
  cases hr : ab_rdT nn_T k a b with
  | none => rw [hr] at h; cases h
  | some r =>
    rw [hr] at h
    have h3 : -9223372036854775808 ≤ r.1 ∧ r.2 ≤ 9223372036854775807 := of_decide_eq_true h
    have h4 := ab_rdT_ok hR hr h1 h2
    exact fw_d_id (by omega) (by omega)
theorem rl_of {σ : ab_SG} (h : ab_okR nn_T σ) : rl_ok σ :=
  ⟨fun j a => sl_b_ok (k := 57) (a := 0) (b := 8) (by decide +kernel) h (by omega) (by omega), fun j a => sl_b_ok (k := 58) (a := 0) (b := 5) (by decide +kernel) h (by omega) (by omega), fun j a => sl_b_ok (k := 59) (a := 0) (b := 4) (by decide +kernel) h (by omega) (by omega), fun j a => ab_rdT_ok (r := (0, 9)) (a := 0) (b := 8) h (by decide +kernel) (by omega) (by omega)⟩
theorem q_of {k : Int} {q : Nat} (hq : q < 2) (h : k = (q : Int)) : (k = 0 ∧ q = 0) ∨ (k = 1 ∧ q = 1) := by omega
theorem rr_image {σ σ1 σm σ2 : ab_SG} {k : Int} (hc : cn σ) (hR : RQ9 σ) (h1 : k_image k σ σ1) (hv : vw σm σ1) (h2 : km_image k σm σ2) : RQ9 σ2 := by
  rcases h1 with ⟨a, b, h⟩ | ⟨a, g2, g3, g4⟩ | ⟨a, g2, g3, g4⟩
  · have s1 : ab_okM [] σ σ1 := okM_of h
    rcases h2 with ⟨-, -, q2, q3⟩ | ⟨q, t1, hq, hk, -⟩
    · exact ⟨ra_two hc s1 hv q2 (by decide) (by decide) hR.1, rb_two_ly hc s1 hv q2 (by decide) (by decide) (by decide) q3 hR.2.1, rk_two hc s1 hv q2 (by decide) (by decide) hR.2.2⟩
    · rcases q_of hq hk with ⟨z, -⟩ | ⟨z, -⟩
      · exact absurd z a
      · exact absurd z b
  · rcases h2 with ⟨z, -⟩ | ⟨q, t1, hq, hk, q1, q2, q3⟩
    · exact absurd a z
    · rcases q_of hq hk with ⟨-, rfl⟩ | ⟨z, -⟩
      · exact im_new0 hc hR g2 g3 g4 hv q1 q2 q3
      · omega
  · rcases h2 with ⟨-, z, -⟩ | ⟨q, t1, hq, hk, q1, q2, q3⟩
    · exact absurd a z
    · rcases q_of hq hk with ⟨z, -⟩ | ⟨-, rfl⟩
      · omega
      · exact im_new1 hc hR g2 g3 g4 hv q1 q2 q3
def k_restore (k : Int) (σ σ' : ab_SG) : Prop := (((k ≠ 0 ∧ k ≠ 1) ∨ (k = 0 ∧ σ 18 16 = 0) ∨ (k = 1 ∧ σ 33 16 = 0)) ∧ σ' = σ) ∨ (k = 0 ∧ σ 18 16 = 1 ∧ ab_okM re_M σ σ' ∧ cy_is σ σ' 18 3 ∧ σ' 85 1 = 0) ∨ (k = 1 ∧ σ 33 16 = 1 ∧ ab_okM re_M σ σ' ∧ cy_is σ σ' 33 3 ∧ σ' 85 1 = 0)
def km_restore (k : Int) (σ σ' : ab_SG) : Prop := (((k ≠ 0 ∧ k ≠ 1) ∨ (∃ q : Nat, q < 2 ∧ k = (q : Int) ∧ σ 102 q = 0)) ∧ σ' = ab_ups σ 93 0 0) ∨ (∃ q : Nat, q < 2 ∧ k = (q : Int) ∧ σ 102 q = 1 ∧ tb_is σ σ' q)
theorem sk_restore {σ : ab_SG} {k : Int} (hk : fw_c k = k) (hR : rk σ) : sp_restore [(2, 0, 0), (0, 0, k)] σ (fun _ σ' => k_restore k σ σ') :=
  ⟨k, rfl, hk, by rw [hR.1.1]; exact hR.1.2.1, by rw [hR.2.1]; exact hR.2.2.1, fun a b => Or.inl ⟨Or.inl ⟨a, b⟩, rfl⟩, fun a b => Or.inl ⟨Or.inr (Or.inl ⟨a, b⟩), rfl⟩, fun a b => Or.inl ⟨Or.inr (Or.inr ⟨a, b⟩), rfl⟩, fun a b σ' p r t => Or.inr (Or.inl ⟨a, b, p, r, t⟩), fun a b σ' p r t => Or.inr (Or.inr ⟨a, b, p, r, t⟩)⟩
theorem mid_restore {σ σ1 σm : ab_SG} {k : Int} (hc : cn σ) (h1 : k_restore k σ σ1) (hv : vw σm σ1) {a : Nat} (ha : re_M.all (fun q => !(q.1.beq a)) = true) (j : Nat) (hs : su a j) : σm a j = σ a j := by
  rcases h1 with ⟨-, h⟩ | ⟨-, -, g, -⟩ | ⟨-, -, g, -⟩
  · exact mid_row (M1 := []) hc (okM_of h) hv rfl j hs
  · exact mid_row hc g hv ha j hs
  · exact mid_row hc g hv ha j hs
theorem sm_restore {σ σ1 σm : ab_SG} {k : Int} (hk : fw_c k = k) (hc : cn σ) (hR : rk σ) (h1 : k_restore k σ σ1) (hv : vw σm σ1) : sp_m_restore [(2, 93, 0), (0, 0, k)] σm (fun _ σ' => km_restore k σm σ') := by
  refine ⟨k, rfl, hk, fun r hr => ?_, fun a b => Or.inl ⟨Or.inl ⟨a, b⟩, rfl⟩, fun q a b c => Or.inl ⟨Or.inr ⟨q, a, b, c⟩, rfl⟩, fun q a b c σ' p => Or.inr ⟨q, a, b, c, p⟩⟩
  rw [mid_restore hc h1 hv (a := 102) (by decide) r (su102 hr)]
  rcases (show r = 0 ∨ r = 1 by omega) with rfl | rfl
  · exact hR.1.2.1
  · exact hR.2.2.1
theorem rr_restore {σ σ1 σm σ2 : ab_SG} {k : Int} (hc : cn σ) (hR : RQ9 σ) (h1 : k_restore k σ σ1) (hv : vw σm σ1) (h2 : km_restore k σm σ2) : RQ9 σ2 := by
  have e : ∀ r : Nat, r < 2 → σm 102 r = σ 102 r := fun r hr => mid_restore hc h1 hv (a := 102) (by decide) r (su102 hr)
  have f0 : σ 18 16 = σ 102 0 := hR.2.2.1.1
  have f1 : σ 33 16 = σ 102 1 := hR.2.2.2.1
  have e0 := e 0 (by decide)
  have e1 := e 1 (by decide)
  rcases h1 with ⟨a, h⟩ | ⟨a, b, g2, g3, -⟩ | ⟨a, b, g2, g3, -⟩
  · have s1 : ab_okM [] σ σ1 := okM_of h
    rcases h2 with ⟨-, rfl⟩ | ⟨q, hq, hk, q1, -⟩
    · have s2 : ab_okM [(93, 0)] σm (ab_ups σm 93 0 0) := okM_one
      exact ⟨ra_two hc s1 hv s2 (by decide) (by decide) hR.1, rb_two hc s1 hv s2 (by decide) (by decide) hR.2.1, rk_two hc s1 hv s2 (by decide) (by decide) hR.2.2⟩
    · rcases q_of hq hk with ⟨z, rfl⟩ | ⟨z, rfl⟩
      · rcases a with a | a | a <;> omega
      · rcases a with a | a | a <;> omega
  · rcases h2 with ⟨q1 | ⟨q, hq, hk, q1⟩, -⟩ | ⟨q, hq, hk, q1, q2⟩
    · omega
    · rcases q_of hq hk with ⟨z, rfl⟩ | ⟨z, rfl⟩ <;> omega
    · rcases q_of hq hk with ⟨z, rfl⟩ | ⟨z, rfl⟩
      · exact re_new0 hc hR (by omega) g2 g3 hv q2
      · omega
  · rcases h2 with ⟨q1 | ⟨q, hq, hk, q1⟩, -⟩ | ⟨q, hq, hk, q1, q2⟩
    · omega
    · rcases q_of hq hk with ⟨z, rfl⟩ | ⟨z, rfl⟩ <;> omega
    · rcases q_of hq hk with ⟨z, rfl⟩ | ⟨z, rfl⟩
      · omega
      · exact re_new1 hc hR (by omega) g2 g3 hv q2
/-! how many there are -/
theorem sk_count {σ : ab_SG} {w : Int} : sp_count [(2, 0, 0), (0, 0, w)] σ (fun rv σ' => σ' = σ ∧ rv = some (0, 0, cq_v (σ 3 11) (σ 3 12) (σ 3 13) (σ 3 14) (σ 1 1) (fw_c w))) := ⟨w, rfl, rfl, rfl⟩
theorem sm_count {σ σm : ab_SG} {w : Int} (hc : cn σ) (hR : RQ9 σ) (hv : vw σm σ) : sp_m_count [(2, 93, 0), (0, 0, w)] σm (fun rv σ' => ab_okM lm_M σm σ' ∧ ly_is σm σ' ∧ rv = some (0, 0, cq_v (σ' 95 0) (σ' 95 1) (σ' 95 2) (σ' 95 3) (σ' 93 2) (fw_c w))) :=
  ⟨w, rfl, ly_of (rb_tr hv hR.2.1), fun σ' a b => ⟨a, b, rfl⟩⟩
theorem rr_count {σ σm σ2 : ab_SG} (hc : cn σ) (hR : RQ9 σ) (hv : vw σm σ) (h1 : ab_okM lm_M σm σ2) (h2 : ly_is σm σ2) : RQ9 σ2 ∧ ∀ w : Int, cq_v (σ2 95 0) (σ2 95 1) (σ2 95 2) (σ2 95 3) (σ2 93 2) w = cq_v (σ 3 11) (σ 3 12) (σ 3 13) (σ 3 14) (σ 1 1) w := by
  have s1 := okM_self [] σ
  have hB : rb σ2 := rb_two_ly hc s1 hv h1 (by decide) (by decide) (by decide) h2 hR.2.1
  refine ⟨⟨ra_two hc s1 hv h1 (by decide) (by decide) hR.1, hB, rk_two hc s1 hv h1 (by decide) (by decide) hR.2.2⟩, fun w => ?_⟩
  have e3 : ∀ j : Nat, 11 ≤ j → j ≤ 14 → σ2 3 j = σ 3 j := fun j a b => two_row hc s1 hv h1 (k := 3) (by decide) (by decide) j (su3 a b)
  have e4 : σ2 95 3 = σ2 3 14 := by
    rcases hB.2.2.2 with ⟨-, z⟩ | ⟨z, -⟩
    · exact z
    · rw [h2.1] at z
      exact absurd z (by decide)
  have e2 : σ2 93 2 = σ 93 2 := two_at hc s1 hv h1 (su93 (Or.inl rfl)) (by decide) (by decide)
  rw [← hB.1, ← hB.2.1, ← hB.2.2.1, e4, e2, ← hR.1.1, e3 11 (by omega) (by omega), e3 12 (by omega) (by omega), e3 13 (by omega) (by omega), e3 14 (by omega) (by omega)]
