/-! a contract by one reading of its nodes -/
def nn_isO (ret : Option FieldType) : Bool := match ret with
  | some (.object _) => true
  | _ => false
theorem nn_isO_ok {ret : Option FieldType} (h : nn_isO ret = true) : ∃ n, ret = some (.object n) := by
  unfold nn_isO at h
  split at h
  · exact ⟨_, rfl⟩
  · cases h
def nn_rkB (rk : Nat) (ret : Option FieldType) : Bool := match rk with
  | 0 => decide (ret = some .int)
  | 1 => decide (ret = some .boolean)
  | 2 => decide (ret = some .long)
  | 3 => nn_isO ret
  | 4 => decide (ret = none)
  | _ => false
theorem nn_rk_ok {rk : Nat} {ret : Option FieldType} (h : nn_rkB rk ret = true) : ab_rkok rk ret := by
  match rk, h with
  | 0, h => exact of_decide_eq_true (p := ret = some .int) h
  | 1, h => exact of_decide_eq_true (p := ret = some .boolean) h
  | 2, h => exact of_decide_eq_true (p := ret = some .long) h
  | 3, h => exact nn_isO_ok h
  | 4, h => exact of_decide_eq_true (p := ret = none) h
def nn_rcB (cl : List vw_C) (sh : List ab_SP) (C : String) (as : List ab_AV) : Bool := match as with
  | (2, k, _) :: _ => (match sh[k]? with
    | some (.inl o) => (match cl[o.1]? with | some q => decide (q.1 = C) | none => false)
    | _ => false)
  | _ => false
theorem nn_rc_ok {cl : List vw_C} {sh : List ab_SP} {C : String} {as0 : List ab_AV} (h : nn_rcB cl sh C as0 = true) : ∃ (k : Nat) (z : Int) (as : List ab_AV) (ci : Nat) (fs : List (Nat × Nat)) (T9 : u_T) (N9 : Nat), as0 = (2, k, z) :: as ∧ sh[k]? = some (.inl (ci, fs)) ∧ cl[ci]? = some (C, T9, N9) := by
  unfold nn_rcB at h
  split at h
  · rename_i k9 z9 as9
    split at h
    · rename_i o9 ho9
      split at h
      · rename_i q9 hq9
        have h := of_decide_eq_true h
        obtain ⟨a, b, c⟩ := q9
        have h : a = C := h
        subst h
        exact ⟨k9, z9, as9, o9.1, o9.2, b, c, rfl, ho9, hq9⟩
      · cases h
    · cases h
  · cases h
noncomputable def nn_ck (cl : List vw_C) (T : ab_RG) (C : ab_CT) (sh : List ab_SP) (MT : List ab_MR) (own : String) (KI KJ : List (Nat × Int)) (PF : ab_PT) (kd : ab_KD) (PS : ab_PS) (PM : ab_PC2) (KS : ab_KS) (lev mn fuel : Nat) (sp HD : List Nat) (HN : ab_HH) (mu : ab_M3) (ct : ab_CN) (NS : List ab_ND) : Bool := match MT[mn]?, nn_DT[mn]? with
  | some mr, some dt => (1 : Nat).ble ct.2.1.length && (!mr.2.2.2.2.2.1 || nn_rcB cl sh mr.1.cls ct.1) && (ab_cat ct.1).ble mr.2.2.1 && nn_rkB mr.2.2.2.2.2.2 mr.2.2.2.1 && plainName mr.1.cls && decide (mr.1.cls = own) &&
    (((0, (ab_en0 0 ct.1, [], ct.2.1, ct.2.2.1, ct.2.2.2.1, []), mu) : ab_ND) :: NS).all (fz_cn cl T C sh MT KI KJ PF kd PS PM KS lev 0 dt mr.2.2.1 ct.2.1.length ct.2.2.2.2 mr.2.2.2.2.2.2 sp HD HN [] (((0, (ab_en0 0 ct.1, [], ct.2.1, ct.2.2.1, ct.2.2.2.1, []), mu) : ab_ND) :: NS) fuel)
  | _, _ => false
theorem nn_hold {l : Launch} {cy : Nat → ClassId} {ad wr cr : Nat → Nat} {D : va_G} {cl : List vw_C} {sh : List ab_SP} {T : ab_RG} {C : ab_CT} {NW : ab_NW} {own : String} {KI KJ : List (Nat × Int)} {PF : ab_PT} {kd : ab_KD} {PS : ab_PS} {PM : ab_PC2} {KS : ab_KS} {lev mn fuel : Nat} {sp HD : List Nat} {HN : ab_HH} {mu : ab_M3} {ct : ab_CN} {NS : List ab_ND}
    (hinj : ∀ i j, i < sh.length → j < sh.length → ad i = ad j → i = j) (hcode : ∀ mr ∈ nn_MT, goodWord (Jvm.Cond.code mr.1 mr.2.1 mr.2.2.1 mr.2.2.2.1) = true)
    (hKI : ∀ q ∈ KI, Jvm.Cond.constant own q.1 (Int32.ofInt q.2) ∈ nn_TT) (hKJ : ∀ q ∈ KJ, Jvm.Cond.constantLong own q.1 (Int64.ofInt q.2) ∈ nn_TT) (hPF : ∀ q ∈ PF, ab_fok cl nn_TT own q) (hPS : ∀ q ∈ PS, ab_psok nn_TT kd own q) (hPM : ∀ q ∈ PM, ab_mlk nn_MT nn_TT NW own q)
    (hKS : ∀ q ∈ KS, ab_hold l cy ad wr cr D cl sh T C NW kd nn_TT nn_MT q) (h : nn_ck cl T C sh nn_MT own KI KJ PF kd PS PM KS lev mn fuel sp HD HN mu ct NS = true) : ab_hold l cy ad wr cr D cl sh T C NW kd nn_TT nn_MT (mn, lev, ct) := by
  intro mr hmr
  replace hmr : nn_MT[mn]? = some mr := hmr
  unfold nn_ck at h
  rw [fz_cn_eq] at h
  rw [hmr] at h
  split at h
  · rename_i mr9 dt e1 e2
    cases e1
    rw [Bool.and_eq_true, Bool.and_eq_true, Bool.and_eq_true, Bool.and_eq_true, Bool.and_eq_true, Bool.and_eq_true, Bool.or_eq_true, Bool.not_eq_true', decide_eq_true_eq] at h
    obtain ⟨⟨⟨⟨⟨⟨h1, h2⟩, h3⟩, h4⟩, h5⟩, h6⟩, h7⟩ := h
    refine ⟨Nat.le_of_ble_eq_true h1, fun g => ?_, ?_⟩
    · rcases h2 with h2 | h2
      · rw [g] at h2; cases h2
      · exact nn_rc_ok h2
    · exact ab_met mr ct hinj nn_TT_good hcode hKI hKJ hPF hPS hPM h5 h6 (nn_rk_ok h4) hKS h3 List.mem_cons_self (fun nd hnd => List.all_eq_true.mp h7 nd hnd) (nn_DT_ok hmr e2)
  · cases h
