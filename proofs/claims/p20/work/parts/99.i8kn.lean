/-! the reference's lines: what a person knows -/
def sp_m_readKnows : fw_SP := fun as σ K => ∃ (A : ab_SG) (e : tk_E) (p : Nat), as = [(2, 93, 0)] ∧ RM σ A e p ∧ md_post σ (pr_knows A e p) e K
abbrev fk_m_readKnows : List fw_CR := [(168, 1, true, 11, 0, sp_m_bad), (182, 0, true, 11, 1, sp_m_go), (210, 2, true, 11, 2, sp_m_readNumber), (213, 2, true, 11, 3, sp_m_isOne), (216, 2, false, 0, 0, sp_m_has)]
abbrev st_m_readKnows : fw_K → fw_KR → fw_K := fw_st vwCl nn_sh nn_kd fw_kv fw_wc (nn_KI20.map (fun x => x.1)) (nn_KJ20.map (fun x => x.1)) (nn_PF20.map (fun x => x.1)) (nn_PS20.map (fun x => x.1)) fk_m_readKnows 4 nn_dt232 3 1
theorem fs_m_readKnows_0 {G : fw_K} {R : fw_KR} (hG : fw_cls st_m_readKnows R G) {σ : ab_SG} (h : sp_m_go [(2, 93, 0)] σ (fun rv σ2 => G 4 [some (2, 93, 0), none, none] (rv.toList ++ []) σ2)) : G 0 [some (2, 93, 0), none, none] [] σ := fw_on hG [4, 16, 30, 41, 61, 69, 86, 93] 200 h
theorem fs_m_readKnows_4 {G : fw_K} {R : fw_KR} (hG : fw_cls st_m_readKnows R G) {σ : ab_SG} (h : (0 ≤ fw_c 2 ∧ fw_c 2 < ((232 : Nat) : Int)) ∧ (sp_m_isOne [(2, 93, 0), (0, 0, 15), (0, 0, σ 96 (fw_c 2).toNat)] σ (fun rv σ2 => G 16 [some (2, 93, 0), none, none] (rv.toList ++ []) σ2))) : G 4 [some (2, 93, 0), none, none] [] σ := fw_on hG [4, 16, 30, 41, 61, 69, 86, 93] 200 h
theorem fs_m_readKnows_16 {G : fw_K} {R : fw_KR} (hG : fw_cls st_m_readKnows R G) {b0 : Int} {σ : ab_SG} (h : (fw_c b0 ≠ 0 → sp_m_go [(2, 93, 0)] σ (fun rv σ2 => G 30 [some (2, 93, 0), some (0, 0, σ 93 13), none] (rv.toList ++ []) σ2)) ∧ (fw_c b0 = 0 → (0 ≤ fw_c 0 ∧ fw_c 0 ≤ 1) ∧ R (some (0, 0, 0)) σ)) : G 16 [some (2, 93, 0), none, none] [(0, 0, b0)] σ := fw_on hG [4, 16, 30, 41, 61, 69, 86, 93] 200 h
theorem fs_m_readKnows_30 {G : fw_K} {R : fw_KR} (hG : fw_cls st_m_readKnows R G) {a1 : Int} {σ : ab_SG} (h : (0 ≤ fw_c 0 ∧ fw_c 0 < ((232 : Nat) : Int)) ∧ (sp_m_isOne [(2, 93, 0), (0, 0, 0), (0, 0, σ 96 (fw_c 0).toNat)] σ (fun rv σ2 => G 41 [some (2, 93, 0), some (0, 0, a1), none] (rv.toList ++ []) σ2))) : G 30 [some (2, 93, 0), some (0, 0, a1), none] [] σ := fw_on hG [4, 16, 30, 41, 61, 69, 86, 93] 200 h
theorem fs_m_readKnows_41 {G : fw_K} {R : fw_KR} (hG : fw_cls st_m_readKnows R G) {a1 b0 : Int} {σ : ab_SG} (h : (fw_c b0 ≠ 0 → (0 ≤ fw_c a1 ∧ fw_c a1 < ((5 : Nat) : Int)) ∧ (sp_m_has [(0, 0, σ 103 (fw_c a1).toNat), (0, 0, σ 93 13)] σ (fun rv σ2 => G 61 [some (2, 93, 0), some (0, 0, a1), some (0, 0, σ 93 13)] (rv.toList ++ []) σ2))) ∧ (fw_c b0 = 0 → (0 ≤ fw_c 0 ∧ fw_c 0 ≤ 1) ∧ R (some (0, 0, 0)) σ)) : G 41 [some (2, 93, 0), some (0, 0, a1), none] [(0, 0, b0)] σ := fw_on hG [4, 16, 30, 41, 61, 69, 86, 93] 200 h
theorem fs_m_readKnows_61 {G : fw_K} {R : fw_KR} (hG : fw_cls st_m_readKnows R G) {a1 a2 b0 : Int} {σ : ab_SG} (h : (fw_c b0 = 0 → (0 ≤ fw_c a1 ∧ fw_c a1 < ((5 : Nat) : Int)) ∧ ((0 ≤ fw_c a1 ∧ fw_c a1 < ((5 : Nat) : Int)) ∧ True ∧ (sp_m_go [(2, 93, 0)] (ab_ups σ 103 (fw_c a1).toNat (fw_c (fw_op 9 (σ 103 (fw_c a1).toNat) (fw_op 5 1 a2)))) (fun rv σ2 => G 86 [some (2, 93, 0), some (0, 0, a1), some (0, 0, a2)] (rv.toList ++ []) σ2)))) ∧ (fw_c b0 ≠ 0 → sp_m_bad [(2, 93, 0), (0, 0, 3)] σ (fun rv σ2 => G 69 [some (2, 93, 0), some (0, 0, a1), some (0, 0, a2)] (rv.toList ++ []) σ2))) : G 61 [some (2, 93, 0), some (0, 0, a1), some (0, 0, a2)] [(0, 0, b0)] σ := fw_on hG [4, 16, 30, 41, 61, 69, 86, 93] 200 h
theorem fs_m_readKnows_86 {G : fw_K} {R : fw_KR} (hG : fw_cls st_m_readKnows R G) {a1 a2 : Int} {σ : ab_SG} (h : sp_m_readNumber [(2, 93, 0), (0, 0, 0), (0, 0, 9)] σ (fun rv σ2 => G 93 [some (2, 93, 0), some (0, 0, a1), some (0, 0, a2)] (rv.toList ++ []) σ2)) : G 86 [some (2, 93, 0), some (0, 0, a1), some (0, 0, a2)] [] σ := fw_on hG [4, 16, 30, 41, 61, 69, 86, 93] 200 h
theorem fs_m_readKnows_69 {G : fw_K} {R : fw_KR} (hG : fw_cls st_m_readKnows R G) {a1 a2 b0 : Int} {σ : ab_SG} (h : (0 ≤ fw_c b0 ∧ fw_c b0 ≤ 1) ∧ R (some (0, 0, b0)) σ) : G 69 [some (2, 93, 0), some (0, 0, a1), some (0, 0, a2)] [(0, 0, b0)] σ := fw_on hG [4, 16, 30, 41, 61, 69, 86, 93] 200 h
theorem fs_m_readKnows_93 {G : fw_K} {R : fw_KR} (hG : fw_cls st_m_readKnows R G) {a1 a2 b0 : Int} {σ : ab_SG} (h : (fw_c b0 ≠ 0 → (0 ≤ fw_c ((182 + (9 * a1)) + a2) ∧ fw_c ((182 + (9 * a1)) + a2) < ((232 : Nat) : Int)) ∧ True ∧ ((0 ≤ fw_c 1 ∧ fw_c 1 ≤ 1) ∧ R (some (0, 0, 1)) (ab_ups σ 96 (fw_c ((182 + (9 * a1)) + a2)).toNat (fw_c (σ 93 13))))) ∧ (fw_c b0 = 0 → (0 ≤ fw_c 0 ∧ fw_c 0 ≤ 1) ∧ R (some (0, 0, 0)) σ)) : G 93 [some (2, 93, 0), some (0, 0, a1), some (0, 0, a2)] [(0, 0, b0)] σ := fw_on hG [4, 16, 30, 41, 61, 69, 86, 93] 200 h
section
variable {l : Launch} {cy : Nat → ClassId} {ad wr cr : Nat → Nat} {D : va_G}
theorem fm_m_readKnows (hinj : nn_inj ad) : fw_H l cy ad wr cr D 232 4 sp_m_readKnows := fw_mk hinj (⟨"NameNotesModel", "readKnows", "()Z"⟩, prog_14_method_35_code, 3, (Option.some Jvm.ClassFile.FieldType.boolean), 0, true, 1) rfl rfl nn_KI20_ok nn_KJ20_ok nn_PF20_ok nn_PS20_ok (by decide +kernel) rfl rfl (List.forall_mem_cons.mpr ⟨fw_row nn_PM20_ok (x := 168) (k := 0) (mn := 221) (np := 1) (ob := true) (ci := 11) (⟨"NameNotesModel", "bad", "(I)Z"⟩, prog_14_method_23_code, 2, (Option.some Jvm.ClassFile.FieldType.boolean), 1, true, 1) rfl (by decide +kernel) rfl rfl (by decide) (fun _ => ⟨_, _, rfl⟩) (fm_m_bad hinj), (List.forall_mem_cons.mpr ⟨fw_row nn_PM20_ok (x := 182) (k := 0) (mn := 212) (np := 0) (ob := true) (ci := 11) (⟨"NameNotesModel", "go", "()V"⟩, prog_14_method_17_code, 5, (Option.none : Option Jvm.ClassFile.FieldType), 0, true, 4) rfl (by decide +kernel) rfl rfl (by decide) (fun _ => ⟨_, _, rfl⟩) (fm_m_go hinj), (List.forall_mem_cons.mpr ⟨fw_row nn_PM20_ok (x := 210) (k := 0) (mn := 227) (np := 2) (ob := true) (ci := 11) (⟨"NameNotesModel", "readNumber", "(II)Z"⟩, prog_14_method_25_code, 3, (Option.some Jvm.ClassFile.FieldType.boolean), 2, true, 1) rfl (by decide +kernel) rfl rfl (by decide) (fun _ => ⟨_, _, rfl⟩) (fm_m_readNumber hinj), (List.forall_mem_cons.mpr ⟨fw_row nn_PM20_ok (x := 213) (k := 0) (mn := 229) (np := 2) (ob := true) (ci := 11) (⟨"NameNotesModel", "isOne", "(II)Z"⟩, prog_14_method_31_code, 3, (Option.some Jvm.ClassFile.FieldType.boolean), 2, true, 1) rfl (by decide +kernel) rfl rfl (by decide) (fun _ => ⟨_, _, rfl⟩) (fm_m_isOne hinj), (List.forall_mem_cons.mpr ⟨fw_row nn_PM20_ok (x := 216) (k := 0) (mn := 230) (np := 2) (ob := false) (ci := 0) (⟨"NameNotesModel", "has", "(II)Z"⟩, prog_14_method_9_code, 2, (Option.some Jvm.ClassFile.FieldType.boolean), 2, false, 1) rfl (by decide +kernel) rfl rfl (by decide) (fun q => by cases q) (fm_m_has hinj), (fun _ h => absurd h List.not_mem_nil)⟩)⟩)⟩)⟩)⟩) (fun as σ K h => by
  obtain ⟨A, e, p, rfl, ⟨hm, hi, hr⟩, h0, h1⟩ := h
  have t0 : (fw_c 0).toNat = 0 := by rw [fw_c0]; rfl
  have u0 : 0 ≤ fw_c 0 ∧ fw_c 0 < ((232 : Nat) : Int) := by rw [fw_c0]; decide
  have t2 : (fw_c 2).toNat = 2 := by rw [fw_c_id (by decide) (by decide)]; rfl
  have u2 : 0 ≤ fw_c 2 ∧ fw_c 2 < ((232 : Nat) : Int) := by rw [fw_c_id (by decide) (by decide)]; decide
  have h11 := hr.1.1
  have h13 := hr.1.2.2.1
  unfold pr_knows at h0 h1
  refine ⟨rfl, fun G hG => fs_m_readKnows_0 hG (mt_go hm (fun σ1 M1 S1 => fs_m_readKnows_4 hG ⟨u2, ?_⟩))⟩
  have N1 : ab_okM ((93, 13) :: go_M) σ σ1 := fw_okM_tr (fw_okM_refl _ _) M1 (by decide)
  have hr1 := rs_M hr (fw_okM_tr (fw_okM_refl _ _) M1 (by decide))
  rw [t2, hr1.1.2.2.1.1]
  refine ⟨15, 59, A 49 13, A, e, tn e p, rfl, ⟨h13.2.1, by omega, by omega⟩, S1, hr1.1.2.2.2.2.2, fun q σ' M2 h10 => ?_, fun q q0 q1 => ?_⟩
  · rw [if_pos q] at h0
    exact fs_m_readKnows_16 hG ⟨fun z => absurd fw_c0 z, fun _ => ⟨fw_01, h0 q σ' (fw_okM_tr (fw_okM_tr (fw_okM_refl _ _) M1 (by decide)) M2 (by decide)) h10⟩⟩
  rw [if_neg (fun y => y q)] at h0 h1
  generalize pr_ix A e 59 (A 49 13) (tn e p) = u at h0 h1 q0 q1 ⊢
  have w13 : ab_ups σ1 93 13 u 93 13 = u := ab_ups_eq
  have cu : fw_c u = u := fw_c_id (by omega) (by omega)
  refine fs_m_readKnows_16 hG ⟨fun _ => ?_, fun z => absurd (fw_c1.symm.trans z) (by decide)⟩
  rw [w13]
  refine mt_go (mt_ups S1 (Or.inr ⟨rfl, by decide⟩)) (fun σ2 M2 S2 => fs_m_readKnows_30 hG ⟨u0, ?_⟩)
  have N2 : ab_okM ((93, 13) :: go_M) σ σ2 := fw_okM_tr (fw_okM_ups N1 (by decide)) M2 (by decide)
  have hr2 := rs_M hr (fw_okM_tr (fw_okM_refl _ _) N2 (by decide))
  have mk := mg_kind S2.1
  rw [t0, hr2.1.1.1]
  refine ⟨0, 57, A 49 11, A, e, _, rfl, ⟨h11.2.1, by omega, by omega⟩, S2, hr2.1.2.2.2.1, fun q σ' M3 h10 => ?_, fun q p0 p1 => ?_⟩
  · rw [if_pos q] at h0
    exact fs_m_readKnows_41 hG ⟨fun z => absurd fw_c0 z, fun _ => ⟨fw_01, h0 q σ' (fw_okM_tr (fw_okM_tr (fw_okM_refl _ _) N2 (by decide)) M3 (by decide)) h10⟩⟩
  rw [if_neg (fun y => y q)] at h0 h1
  have kq := pr_sk_k q
  generalize pr_ix A e 57 (A 49 11) (tn e (tn e p)) = x at h0 h1 p0 p1 ⊢
  have cx : fw_c x = x := fw_c_id (by omega) (by omega)
  have v13 : ab_ups σ2 93 13 x 93 13 = x := ab_ups_eq
  have k7 : ab_ups σ2 93 13 x 93 7 = σ2 93 7 := ab_ups_ne (by decide)
  have v103 : ab_ups σ2 93 13 x 103 u.toNat = A 64 u.toNat := (ab_ups_ne (fun z => absurd z.1 (by decide))).trans (hr2.2.2.2.2.2.2.2.1 u.toNat (by omega))
  refine fs_m_readKnows_41 hG ⟨fun _ => ?_, fun z => absurd (fw_c1.symm.trans z) (by decide)⟩
  rw [cu, v103, v13]
  refine ⟨⟨q0, by show u < 5; omega⟩, A 64 u.toNat, x, rfl, fs_m_readKnows_61 hG ⟨fun z => ?_, fun z => ?_⟩⟩
  · have hf : pr_hs (A 64 u.toNat) x = false := bl_f (fw_bo_eq z)
    rw [hf, if_neg (show ¬ (false = true) by decide)] at h0 h1
    rw [cu, v103]
    refine ⟨⟨q0, by show u < 5; omega⟩, ⟨q0, by show u < 5; omega⟩, trivial, ?_⟩
    show sp_m_go [(2, 93, 0)] (ab_ups (ab_ups σ2 93 13 x) 103 u.toNat (pr_or (A 64 u.toNat) x)) _
    refine mt_go (mt_ups (mt_ups S2 (Or.inr ⟨rfl, by decide⟩)) (Or.inl ⟨by decide, by decide⟩)) (fun σ3 M3 S3 => fs_m_readKnows_86 hG ⟨0, 9, e, _, rfl, by decide, S3, fun n0 σ' M4 h10 => ?_, fun n0 na nb σ' M4 r13 S4 => ?_⟩)
    · rw [if_pos n0] at h0
      refine fs_m_readKnows_93 hG ⟨fun y => absurd fw_c0 y, fun _ => ⟨fw_01, h0 n0 σ' ?_ h10⟩⟩
      exact fw_okM_tr (fw_okM_tr (fw_okM_upa (fw_okM_ups (fw_okM_tr (fw_okM_refl _ _) N2 (by decide)) (by decide)) (by decide)) M3 (by decide)) M4 (by decide)
    · rw [if_neg (fun y => y n0)] at h1
      have h1 := h1 rfl
      dsimp only at h1
      generalize (tk e (tn e (tn e (tn e p)))).2.2.2.2 = v at h1 na nb r13
      have ev : fw_c v = v := fw_c_id (by omega) (by omega)
      have eq : (u * 9 + x).toNat = u.toNat * 9 + x.toNat := by omega
      rw [eq] at h1
      have ei : fw_c (182 + 9 * u + x) = ((182 + (u.toNat * 9 + x.toNat) : Nat) : Int) := by rw [fw_c_id (by omega) (by omega)]; omega
      refine fs_m_readKnows_93 hG ⟨fun _ => ⟨by rw [ei]; exact ⟨Int.natCast_nonneg _, by omega⟩, trivial, fw_11, ?_⟩, fun y => absurd (fw_c1.symm.trans y) (by decide)⟩
      rw [ei, Int.toNat_natCast, r13, ev]
      have N4 : ab_okM ((103, 1000000) :: (93, 13) :: go_M) σ σ' := fw_okM_tr (fw_okM_tr (fw_okM_upa (fw_okM_ups (fw_okM_tr (fw_okM_refl _ _) N2 (by decide)) (by decide)) (by decide)) M3 (by decide)) M4 (by decide)
      have e96 : σ' 96 = σ 96 := fw_okM_c N4 (by decide)
      have e100 : σ' 100 = σ 100 := fw_okM_c N4 (by decide)
      have e25 : σ' 93 25 = σ 93 25 := N4 93 25 (by decide)
      have e26 : σ' 93 26 = σ 93 26 := N4 93 26 (by decide)
      have e103 : σ' 103 = ab_ups (ab_ups σ2 93 13 x) 103 u.toNat (pr_or (A 64 u.toNat) x) 103 := (fw_okM_c M4 (by decide)).trans (fw_okM_c M3 (by decide))
      have o103 : σ2 103 = σ 103 := fw_okM_c N2 (by decide)
      have Bk : ∀ k j : Nat, k ≠ 64 → k ≠ 55 → ab_ups (ab_ups A 64 u.toNat (pr_or (A 64 u.toNat) x)) 55 (u.toNat * 9 + x.toNat) v k j = A k j := fun k j q1 q2 => by rw [ab_ups_ne (fun z => q2 z.1), ab_ups_ne (fun z => q1 z.1)]
      have s96 : ∀ j : Nat, j ≠ 182 + (u.toNat * 9 + x.toNat) → ab_ups σ' 96 (182 + (u.toNat * 9 + x.toNat)) v 96 j = σ 96 j := fun j q1 => by rw [ab_ups_ne (fun z => q1 z.2), e96]
      have s100 : ab_ups σ' 96 (182 + (u.toNat * 9 + x.toNat)) v 100 = σ 100 := by rw [ab_ups_row (by decide), e100]
      refine h1 _ (fw_okM_upa (fw_okM_tr (fw_okM_refl _ _) N4 (by decide)) (by decide)) ⟨mt_ups S4 (Or.inl ⟨by decide, by decide⟩), hi, ?_, ?_⟩
      · obtain ⟨⟨c0, c1⟩, ⟨d0, d1⟩, ⟨g0, g1⟩, r1, r2, r3⟩ := hr.1
        exact ⟨⟨(s96 0 (by omega)).trans c0, c1⟩, ⟨(s96 1 (by omega)).trans d0, d1⟩, ⟨(s96 2 (by omega)).trans g0, g1⟩, rn_k_M r1 s100, rn_k_M r2 s100, rn_k_M r3 s100⟩
      · obtain ⟨r1, r2, r3, r4, r5, r6, r7, r8, r9⟩ := hr.2
        refine ⟨(s96 3 (by omega)).trans r1, fun y hy => ?_, fun c hc => ?_, fun j hj => ?_, fun j hj => ?_, r6, fun j hj => ?_, ?_, ?_⟩
        · replace hy : (y : Int) < A 49 11 := hy
          have hs := hi.2.2.2.2.2.2.1 y (by omega)
          refine ⟨(s96 _ (by omega)).trans (r2 y hy).1, fun i hy2 => ?_⟩
          replace hy2 : (i : Int) < A 52 y := hy2
          exact ⟨(s96 _ (by omega)).trans ((r2 y hy).2 i hy2).1, (s96 _ (by omega)).trans ((r2 y hy).2 i hy2).2⟩
        · replace hc : (c : Int) < A 49 12 := hc
          have := hr.1.2.1
          exact (s96 _ (by omega)).trans (r3 c hc)
        · by_cases c : j = u.toNat * 9 + x.toNat
          · rw [c, ab_ups_eq, ab_ups_eq]
          · rw [s96 _ (by omega), ab_ups_ne (fun z => c z.2), ab_ups_ne (fun z => absurd z.1 (by decide))]; exact r4 j hj
        · replace hj : (j : Int) < A 49 13 := hj
          exact (s96 _ (by omega)).trans (r5 j hj)
        · have rr : ab_ups (ab_ups A 64 u.toNat (pr_or (A 64 u.toNat) x)) 55 (u.toNat * 9 + x.toNat) v 64 j = ab_ups A 64 u.toNat (pr_or (A 64 u.toNat) x) 64 j := ab_ups_ne (fun z => absurd z.1 (by decide))
          rw [ab_ups_ne (fun z => absurd z.1 (by decide)), e103]
          refine Eq.trans ?_ rr.symm
          by_cases c : j = u.toNat
          · rw [c, ab_ups_eq, ab_ups_eq]
          · rw [ab_ups_ne (fun z => c z.2), ab_ups_ne (fun z => absurd z.1 (by decide)), ab_ups_ne (fun z => c z.2), o103]; exact r7 j hj
        · exact ((ab_ups_ne (fun z => absurd z.1 (by decide))).trans e25).trans r8
        · exact ((ab_ups_ne (fun z => absurd z.1 (by decide))).trans e26).trans r9
  · have hp : pr_hs (A 64 u.toNat) x = true := fw_bo_ne z
    rw [hp, if_pos rfl] at h0
    refine ⟨3, rfl, by decide, by rw [k7]; exact mk.2.2.2.2, fun σ' hM h10 _ => fs_m_readKnows_69 hG ⟨fw_01, h0 (by show (3 : Int) ≠ 0; decide) σ' (fw_okM_tr (fw_okM_ups (fw_okM_tr (fw_okM_refl _ _) N2 (by decide)) (by decide)) hM (by decide)) ?_⟩⟩
    rw [h10, k7, if_neg (show ¬ σ2 93 7 = 1 by have := mk.1.mpr kq; omega)])
end
