/-! the relation over an evening -/
abbrev eo (σ : ab_SG) : tk_E := (tp_t σ, (σ 1 1).toNat, 400)
def evC (A σ σ' : ab_SG) : Prop := ((ev_r A (eo σ)).1 ≠ 0 ∧ ab_okM ef_M σ σ' ∧ σ' 1 9 = (ev_r A (eo σ)).1) ∨ ((ev_r A (eo σ)).1 = 0 ∧ σ' 1 9 = 0 ∧ jc_is σ' (jg_n A (eo σ) (ev_r A (eo σ)).2.2) ∧ σ' 69 5 = ev_c A (eo σ) ∧ σ' 69 6 = fw_c (σ 3 15) ∧ σ' 69 7 = 1)
def evM (A : ab_SG) (e : tk_E) (σ σ' : ab_SG) : Prop := ((ev_r A e).1 ≠ 0 ∧ ab_okM mf_N σ σ' ∧ σ' 93 10 = (ev_r A e).1) ∨ ((ev_r A e).1 = 0 ∧ σ' 93 10 = 0 ∧ jh_is σ' (jg_n A e (ev_r A e).2.2) ∧ σ' 93 51 = (if (jg_n A e (ev_r A e).2.2).1 = 0 ∧ (jg_n A e (ev_r A e).2.2).2.2.2.2.1 ≠ -1 then fw_c (σ 95 4) else -1) ∧ σ' 93 52 = ev_c A e)
def k_evening (A σ σ' : ab_SG) : Prop := ab_okM en_M σ σ' ∧ σ' 1 1 = 0 ∧ evC A σ σ'
def km_evening (A : ab_SG) (e : tk_E) (σ σ' : ab_SG) : Prop := ab_okM me_N σ σ' ∧ σ' 93 2 = 0 ∧ ly_is σ σ' ∧ evM A e σ σ'
theorem sk_evening {σ A : ab_SG} (h : ra σ) (hN : NC σ A) : sp_evening [(2, 0, 0)] σ (fun rv σ' => k_evening A σ σ' ∧ rv = some (0, 0, v_ev A (eo σ))) :=
  ⟨A, rfl, ⟨h.2.1, h.2.2.1⟩, hN, fun q _ M b c => ⟨⟨ev_up M (by decide), b, Or.inl ⟨q, M, c⟩⟩, rfl⟩, fun q _ M b c J a5 a6 a7 => ⟨⟨M, b, Or.inr ⟨q, c, J, a5, a6, a7⟩⟩, rfl⟩⟩
theorem NM_V {M : ab_ML} {σ σ1 σm A : ab_SG} (hc : cN σ) (hi : RI A) (hn : nb_is A) (hs : sr_is (mlN σ) (σ 99) A) (h1 : ab_okM M σ σ1) (hv : vW σm σ1) (m95 : M.all (fun q => !(q.1.beq 95)) = true) (m99 : M.all (fun q => !(q.1.beq 99)) = true) (m22 : mk_b M 93 22 = true) : NM σm A :=
  ⟨hi, hn, sr_cong hi (fun j hj _ => mlN_same (xm_at hc h1 hv (Or.inl (su93 (Or.inr rfl))) m22) (fun j hj => xm_at hc h1 hv (Or.inr (swr (by decide) hj)) (off_mk m95 j)) j hj) (fun j hj => xm_l hc h1 hv (slr (by decide) hj) (off_mk m99 j)) hs⟩
theorem ev_82 {A σ σ1 σm : ab_SG} (hc : cN σ) (hR : RQ σ) (h1 : k_evening A σ σ1) (hv : vW σm σ1) : σm 93 2 = σ 1 1 :=
  (mid_at (cn_N hc) h1.1 (vw_W hv) (su93 (Or.inl rfl)) (by decide)).trans hR.1.1.1.symm
theorem sm_evening {A σ σ1 σm : ab_SG} (hc : cN σ) (hR : RQ σ) (hi : RI A) (hn : nb_is A) (hs : sr_is (mlN σ) (σ 99) A) (h1 : k_evening A σ σ1) (hv : vW σm σ1) : sp_m_evening [(2, 93, 0)] σm (fun rv σ' => km_evening A (eo σ) σm σ' ∧ rv = some (0, 0, v_ev A (eo σ))) := by
  have e2 := ev_82 hc hR h1 hv
  have e22 : σm 93 22 = σ 93 22 := mid_at (cn_N hc) h1.1 (vw_W hv) (su93 (Or.inr rfl)) (by decide)
  have hN := NM_V hc hi hn hs h1.1 hv (by decide) (by decide) (by decide)
  obtain ⟨⟨⟨r1, r2, r3, r4⟩, rB, -⟩, -⟩ := hR
  refine ⟨A, tp_t σ, rfl, ⟨by omega, by omega⟩, fun j hj => ?_, ?_, hN, fun q σ' M z2 l c => ?_, fun q σ' M z2 l c J a b => ?_⟩
  · have hj9 : j < 940 := by omega
    refine ⟨?_, (tp_t_in σ j).1, (tp_t_in σ j).2⟩
    rw [mid_row (cn_N hc) h1.1 (vw_W hv) (k := 94) (by decide) j (su94 hj9)]
    exact (r4 j (by omega)).symm
  · unfold ly_ok
    rw [e22]
    exact ly_of rB
  · rw [e2] at q c ⊢
    exact ⟨⟨ev_up M (by decide), z2, l, Or.inl ⟨q, M, c⟩⟩, rfl⟩
  · rw [e2] at q J a b ⊢
    exact ⟨⟨M, z2, l, Or.inr ⟨q, c, J, a, b⟩⟩, rfl⟩
theorem RQ_evening {A : ab_SG} {e : tk_E} {σ σ1 σm σ2 σ5 : ab_SG} (hc : cN σ) (hR : RQ σ) (h1 : k_evening A σ σ1) (hv : vW σm σ1) (h2 : km_evening A e σm σ2) (hw : vW σ5 σ2) : RQ σ5 := by
  obtain ⟨g2, g3, -⟩ := h1
  obtain ⟨q2, q3, q4, -⟩ := h2
  refine ⟨RQ9_tr (vw_W hw) ⟨?_, rb_two_ly (cn_N hc) g2 (vw_W hv) q2 (by decide) (by decide) (by decide) q4 hR.1.2.1, rk_two (cn_N hc) g2 (vw_W hv) q2 (by decide) (by decide) hR.1.2.2⟩, rx_two_ly hc g2 hv q2 hw (by decide +kernel) (by decide +kernel) q4 hR.2⟩
  have e11 : σ2 1 1 = 0 := by
    rw [mk_at q2 (k := 1) (j := 1) (by decide), (vw_W hv) 1 1 su1, g3]
    exact fw_c_id (by decide) (by decide)
  exact ⟨by rw [e11, q3], by rw [e11]; exact Int.le_refl 0, by rw [e11]; decide, fun j hj => by rw [e11] at hj; omega⟩
