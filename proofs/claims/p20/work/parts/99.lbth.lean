/-! the relation over calls that play a duel -/
theorem vW_du {σ σ1 σm : ab_SG} (hc : cN σ) (h1 : ab_okM du_M σ σ1) (hv : vW σm σ1) : vW σm σ := vW_free (by decide +kernel) h1 hv
theorem RQ_du {σ σ1 σm σ2 σ5 : ab_SG} (hc : cN σ) (hR : RQ σ) (h1 : ab_okM du_M σ σ1) (hv : vW σm σ1) (h2 : ab_okM dm_N σm σ2) (hw : vW σ5 σ2) : RQ σ5 :=
  ⟨RQ9_tr (vw_W hw) ⟨ra_two (cn_N hc) h1 (vw_W hv) h2 (by decide) (by decide) hR.1.1, rb_two (cn_N hc) h1 (vw_W hv) h2 (by decide) (by decide) hR.1.2.1, rk_two (cn_N hc) h1 (vw_W hv) h2 (by decide) (by decide) hR.1.2.2⟩, rx_two hc h1 hv h2 hw (by decide +kernel) (by decide +kernel) hR.2⟩
theorem vW_dz {σ σ1 σm : ab_SG} (hc : cN σ) (h1 : ab_okM du_M σ σ1) (hv : vW σm σ1) : vW σm σ := vW_du hc h1 hv
theorem RQ_dz {σ σ1 σm σ2 σ5 : ab_SG} (hc : cN σ) (hR : RQ σ) (h1 : ab_okM du_M σ σ1) (hv : vW σm σ1) (h2 : ab_okM dz_N σm σ2) (hw : vW σ5 σ2) : RQ σ5 :=
  ⟨RQ9_tr (vw_W hw) ⟨ra_two (cn_N hc) h1 (vw_W hv) h2 (by decide) (by decide) hR.1.1, rb_two (cn_N hc) h1 (vw_W hv) h2 (by decide) (by decide) hR.1.2.1, rk_two (cn_N hc) h1 (vw_W hv) h2 (by decide) (by decide) hR.1.2.2⟩, rx_two hc h1 hv h2 hw (by decide +kernel) (by decide +kernel) hR.2⟩
/-- where there is a person, the reference has laid what it counts from -/
theorem du_95 {σ σ1 σm A : ab_SG} (hc : cN σ) (hR : RQ σ) (h1 : ab_okM du_M σ σ1) (hv : vW σm σ1) (hA : cn_is σ 3 A) (hp : 0 < A 49 13) : σm 95 3 = A 49 14 := by
  have e : σm 95 3 = σ 95 3 := xm_at hc h1 hv (Or.inl (su95 (by decide))) (by decide)
  obtain ⟨-, -, h13, h4⟩ := hR.1.2.1
  rcases h4 with ⟨-, b⟩ | ⟨-, -, -, -, b⟩
  · rw [e, b]
    exact hA.2.2.2.1
  · have := hA.2.2.1
    omega
