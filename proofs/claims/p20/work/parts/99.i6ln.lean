/-! the reference's lines: a dare -/
def sp_m_readDare : fw_SP := fun as σ K => ∃ (A : ab_SG) (e : tk_E) (p : Nat), as = [(2, 93, 0)] ∧ RM σ A e p ∧ md_post σ (pr_dare A e p) e K
theorem pr_sk_k {A : ab_SG} {e : tk_E} {k : Nat} {n : Int} {p : Nat} (q : pr_sk A e k n p = 0) : (tk e p).1 = 2 := by
  unfold pr_sk at q
  by_cases y : (tk e p).1 = 2 ∧ tw e p < 0
  · exact y.1
  · rw [if_neg y] at q
    exact absurd q (by decide)
theorem bl_f {b : Bool} (h : ¬ b = true) : b = false := by
  cases b
  · rfl
  · exact absurd rfl h
abbrev fk_m_readDare : List fw_CR := [(168, 1, true, 11, 0, sp_m_bad), (182, 0, true, 11, 1, sp_m_go), (210, 2, true, 11, 2, sp_m_readNumber), (213, 2, true, 11, 3, sp_m_isOne), (216, 2, false, 0, 0, sp_m_has)]
abbrev st_m_readDare : fw_K → fw_KR → fw_K := fw_st vwCl nn_sh nn_kd fw_kv fw_wc (nn_KI20.map (fun x => x.1)) (nn_KJ20.map (fun x => x.1)) (nn_PF20.map (fun x => x.1)) (nn_PS20.map (fun x => x.1)) fk_m_readDare 4 nn_dt233 2 1
theorem fs_m_readDare_0 {G : fw_K} {R : fw_KR} (hG : fw_cls st_m_readDare R G) {σ : ab_SG} (h : sp_m_go [(2, 93, 0)] σ (fun rv σ2 => G 4 [some (2, 93, 0), none] (rv.toList ++ []) σ2)) : G 0 [some (2, 93, 0), none] [] σ := fw_on hG [4, 16, 34, 42, 59, 66] 200 h
theorem fs_m_readDare_4 {G : fw_K} {R : fw_KR} (hG : fw_cls st_m_readDare R G) {σ : ab_SG} (h : (0 ≤ fw_c 2 ∧ fw_c 2 < ((232 : Nat) : Int)) ∧ (sp_m_isOne [(2, 93, 0), (0, 0, 15), (0, 0, σ 96 (fw_c 2).toNat)] σ (fun rv σ2 => G 16 [some (2, 93, 0), none] (rv.toList ++ []) σ2))) : G 4 [some (2, 93, 0), none] [] σ := fw_on hG [4, 16, 34, 42, 59, 66] 200 h
theorem fs_m_readDare_16 {G : fw_K} {R : fw_KR} (hG : fw_cls st_m_readDare R G) {b0 : Int} {σ : ab_SG} (h : (fw_c b0 ≠ 0 → sp_m_has [(0, 0, σ 93 25), (0, 0, σ 93 13)] σ (fun rv σ2 => G 34 [some (2, 93, 0), some (0, 0, σ 93 13)] (rv.toList ++ []) σ2)) ∧ (fw_c b0 = 0 → (0 ≤ fw_c 0 ∧ fw_c 0 ≤ 1) ∧ R (some (0, 0, 0)) σ)) : G 16 [some (2, 93, 0), none] [(0, 0, b0)] σ := fw_on hG [4, 16, 34, 42, 59, 66] 200 h
theorem fs_m_readDare_34 {G : fw_K} {R : fw_KR} (hG : fw_cls st_m_readDare R G) {a1 b0 : Int} {σ : ab_SG} (h : (fw_c b0 = 0 → sp_m_go [(2, 93, 0)] (ab_ups σ 93 25 (fw_c (fw_op 9 (σ 93 25) (fw_op 5 1 a1)))) (fun rv σ2 => G 59 [some (2, 93, 0), some (0, 0, a1)] (rv.toList ++ []) σ2)) ∧ (fw_c b0 ≠ 0 → sp_m_bad [(2, 93, 0), (0, 0, 3)] σ (fun rv σ2 => G 42 [some (2, 93, 0), some (0, 0, a1)] (rv.toList ++ []) σ2))) : G 34 [some (2, 93, 0), some (0, 0, a1)] [(0, 0, b0)] σ := fw_on hG [4, 16, 34, 42, 59, 66] 200 h
theorem fs_m_readDare_59 {G : fw_K} {R : fw_KR} (hG : fw_cls st_m_readDare R G) {a1 : Int} {σ : ab_SG} (h : sp_m_readNumber [(2, 93, 0), (0, 0, 0), (0, 0, 9)] σ (fun rv σ2 => G 66 [some (2, 93, 0), some (0, 0, a1)] (rv.toList ++ []) σ2)) : G 59 [some (2, 93, 0), some (0, 0, a1)] [] σ := fw_on hG [4, 16, 34, 42, 59, 66] 200 h
theorem fs_m_readDare_42 {G : fw_K} {R : fw_KR} (hG : fw_cls st_m_readDare R G) {a1 b0 : Int} {σ : ab_SG} (h : (0 ≤ fw_c b0 ∧ fw_c b0 ≤ 1) ∧ R (some (0, 0, b0)) σ) : G 42 [some (2, 93, 0), some (0, 0, a1)] [(0, 0, b0)] σ := fw_on hG [4, 16, 34, 42, 59, 66] 200 h
theorem fs_m_readDare_66 {G : fw_K} {R : fw_KR} (hG : fw_cls st_m_readDare R G) {a1 b0 : Int} {σ : ab_SG} (h : (fw_c b0 ≠ 0 → (0 ≤ fw_c (227 + a1) ∧ fw_c (227 + a1) < ((232 : Nat) : Int)) ∧ True ∧ ((0 ≤ fw_c 1 ∧ fw_c 1 ≤ 1) ∧ R (some (0, 0, 1)) (ab_ups σ 96 (fw_c (227 + a1)).toNat (fw_c (σ 93 13))))) ∧ (fw_c b0 = 0 → (0 ≤ fw_c 0 ∧ fw_c 0 ≤ 1) ∧ R (some (0, 0, 0)) σ)) : G 66 [some (2, 93, 0), some (0, 0, a1)] [(0, 0, b0)] σ := fw_on hG [4, 16, 34, 42, 59, 66] 200 h
section
variable {l : Launch} {cy : Nat → ClassId} {ad wr cr : Nat → Nat} {D : va_G}
theorem fm_m_readDare (hinj : nn_inj ad) : fw_H l cy ad wr cr D 233 4 sp_m_readDare := fw_mk hinj (⟨"NameNotesModel", "readDare", "()Z"⟩, prog_14_method_36_code, 2, (Option.some Jvm.ClassFile.FieldType.boolean), 0, true, 1) rfl rfl nn_KI20_ok nn_KJ20_ok nn_PF20_ok nn_PS20_ok (by decide +kernel) rfl rfl (List.forall_mem_cons.mpr ⟨fw_row nn_PM20_ok (x := 168) (k := 0) (mn := 221) (np := 1) (ob := true) (ci := 11) (⟨"NameNotesModel", "bad", "(I)Z"⟩, prog_14_method_23_code, 2, (Option.some Jvm.ClassFile.FieldType.boolean), 1, true, 1) rfl (by decide +kernel) rfl rfl (by decide) (fun _ => ⟨_, _, rfl⟩) (fm_m_bad hinj), (List.forall_mem_cons.mpr ⟨fw_row nn_PM20_ok (x := 182) (k := 0) (mn := 212) (np := 0) (ob := true) (ci := 11) (⟨"NameNotesModel", "go", "()V"⟩, prog_14_method_17_code, 5, (Option.none : Option Jvm.ClassFile.FieldType), 0, true, 4) rfl (by decide +kernel) rfl rfl (by decide) (fun _ => ⟨_, _, rfl⟩) (fm_m_go hinj), (List.forall_mem_cons.mpr ⟨fw_row nn_PM20_ok (x := 210) (k := 0) (mn := 227) (np := 2) (ob := true) (ci := 11) (⟨"NameNotesModel", "readNumber", "(II)Z"⟩, prog_14_method_25_code, 3, (Option.some Jvm.ClassFile.FieldType.boolean), 2, true, 1) rfl (by decide +kernel) rfl rfl (by decide) (fun _ => ⟨_, _, rfl⟩) (fm_m_readNumber hinj), (List.forall_mem_cons.mpr ⟨fw_row nn_PM20_ok (x := 213) (k := 0) (mn := 229) (np := 2) (ob := true) (ci := 11) (⟨"NameNotesModel", "isOne", "(II)Z"⟩, prog_14_method_31_code, 3, (Option.some Jvm.ClassFile.FieldType.boolean), 2, true, 1) rfl (by decide +kernel) rfl rfl (by decide) (fun _ => ⟨_, _, rfl⟩) (fm_m_isOne hinj), (List.forall_mem_cons.mpr ⟨fw_row nn_PM20_ok (x := 216) (k := 0) (mn := 230) (np := 2) (ob := false) (ci := 0) (⟨"NameNotesModel", "has", "(II)Z"⟩, prog_14_method_9_code, 2, (Option.some Jvm.ClassFile.FieldType.boolean), 2, false, 1) rfl (by decide +kernel) rfl rfl (by decide) (fun q => by cases q) (fm_m_has hinj), (fun _ h => absurd h List.not_mem_nil)⟩)⟩)⟩)⟩)⟩) (fun as σ K h => by
  obtain ⟨A, e, p, rfl, ⟨hm, hi, hr⟩, h0, h1⟩ := h
  have t2 : (fw_c 2).toNat = 2 := by rw [fw_c_id (by decide) (by decide)]; rfl
  have u2 : 0 ≤ fw_c 2 ∧ fw_c 2 < ((232 : Nat) : Int) := by rw [fw_c_id (by decide) (by decide)]; decide
  have h13 := hr.1.2.2.1
  unfold pr_dare at h0 h1
  refine ⟨rfl, fun G hG => fs_m_readDare_0 hG (mt_go hm (fun σ1 M1 S1 => fs_m_readDare_4 hG ⟨u2, ?_⟩))⟩
  have hr1 := rs_M hr (fw_okM_tr (fw_okM_refl _ _) M1 (by decide))
  have mk := mg_kind S1.1
  have c2 : σ1 96 2 = A 49 13 := hr1.1.2.2.1.1
  rw [t2, c2]
  refine ⟨15, 59, A 49 13, A, e, tn e p, rfl, ⟨h13.2.1, by omega, by omega⟩, S1, hr1.1.2.2.2.2.2, fun q σ' M2 h10 => ?_, fun q q0 q1 => ?_⟩
  · rw [if_pos q] at h0
    exact fs_m_readDare_16 hG ⟨fun z => absurd fw_c0 z, fun _ => ⟨fw_01, h0 q σ' (fw_okM_tr (fw_okM_tr (fw_okM_refl _ _) M1 (by decide)) M2 (by decide)) h10⟩⟩
  · rw [if_neg (fun y => y q)] at h0 h1
    have kq := pr_sk_k q
    generalize pr_ix A e 59 (A 49 13) (tn e p) = u at h0 h1 q0 q1 ⊢
    have v25 : ab_ups σ1 93 13 u 93 25 = A 48 3 := (ab_ups_ne (by decide)).trans hr1.2.2.2.2.2.2.2.2.1
    have w13 : ab_ups σ1 93 13 u 93 13 = u := ab_ups_eq
    have k7 : ab_ups σ1 93 13 u 93 7 = σ1 93 7 := ab_ups_ne (by decide)
    refine fs_m_readDare_16 hG ⟨fun _ => ?_, fun z => absurd (fw_c1.symm.trans z) (by decide)⟩
    rw [v25, w13]
    refine ⟨A 48 3, u, rfl, fs_m_readDare_34 hG ⟨fun z => ?_, fun z => ?_⟩⟩
    · have hf : pr_hs (A 48 3) u = false := bl_f (fw_bo_eq z)
      rw [hf, if_neg (show ¬ (false = true) by decide)] at h0 h1
      rw [v25]
      show sp_m_go [(2, 93, 0)] (ab_ups (ab_ups σ1 93 13 u) 93 25 (pr_or (A 48 3) u)) _
      refine mt_go (mt_ups (mt_ups S1 (Or.inr ⟨rfl, by decide⟩)) (Or.inr ⟨rfl, by decide⟩)) (fun σ2 M2 S2 => fs_m_readDare_59 hG ⟨0, 9, e, _, rfl, by decide, S2, fun n0 σ' M3 h10 => ?_, fun n0 na nb σ' M3 r13 S3 => ?_⟩)
      · rw [if_pos n0] at h0
        refine fs_m_readDare_66 hG ⟨fun y => absurd fw_c0 y, fun _ => ⟨fw_01, h0 n0 σ' ?_ h10⟩⟩
        exact fw_okM_tr (fw_okM_tr (fw_okM_ups (fw_okM_ups (fw_okM_tr (fw_okM_refl _ _) M1 (by decide)) (by decide)) (by decide)) M2 (by decide)) M3 (by decide)
      · rw [if_neg (fun y => y n0)] at h1
        have h1 := h1 rfl
        dsimp only at h1
        have ev : fw_c (tk e (tn e (tn e p))).2.2.2.2 = (tk e (tn e (tn e p))).2.2.2.2 := fw_c_id (by omega) (by omega)
        have ei : fw_c (227 + u) = ((227 + u.toNat : Nat) : Int) := by rw [fw_c_id (by omega) (by omega)]; omega
        refine fs_m_readDare_66 hG ⟨fun _ => ⟨by rw [ei]; exact ⟨Int.natCast_nonneg _, by omega⟩, trivial, fw_11, ?_⟩, fun y => absurd (fw_c1.symm.trans y) (by decide)⟩
        rw [ei, Int.toNat_natCast, r13, ev]
        have M4 : ab_okM ((93, 25) :: (93, 13) :: go_M) σ σ' := fw_okM_tr (fw_okM_tr (fw_okM_ups (fw_okM_ups (fw_okM_tr (fw_okM_refl _ _) M1 (by decide)) (by decide)) (by decide)) M2 (by decide)) M3 (by decide)
        have w25 : σ' 93 25 = pr_or (A 48 3) u := (M3 93 25 (by decide)).trans ((M2 93 25 (by decide)).trans ab_ups_eq)
        have e96 : σ' 96 = σ 96 := fw_okM_c M4 (by decide)
        have e100 : σ' 100 = σ 100 := fw_okM_c M4 (by decide)
        have e103 : σ' 103 = σ 103 := fw_okM_c M4 (by decide)
        have e26 : σ' 93 26 = σ 93 26 := M4 93 26 (by decide)
        refine h1 _ (fw_okM_upa (fw_okM_tr (fw_okM_refl _ _) M4 (by decide)) (by decide)) ⟨mt_ups S3 (Or.inl ⟨by decide, by decide⟩), hi, ?_, ?_⟩
        · obtain ⟨⟨c0, c1⟩, ⟨d0, d1⟩, ⟨g0, g1⟩, r1, r2, r3⟩ := hr.1
          refine ⟨⟨?_, c1⟩, ⟨?_, d1⟩, ⟨?_, g1⟩, rn_k_M r1 ?_, rn_k_M r2 ?_, rn_k_M r3 ?_⟩
          · rw [ab_ups_ne (fun z => by omega), e96]; exact c0
          · rw [ab_ups_ne (fun z => by omega), e96]; exact d0
          · rw [ab_ups_ne (fun z => by omega), e96]; exact g0
          · rw [ab_ups_row (by decide), e100]
          · rw [ab_ups_row (by decide), e100]
          · rw [ab_ups_row (by decide), e100]
        · obtain ⟨r1, r2, r3, r4, r5, r6, r7, r8, r9⟩ := hr.2
          have nb3 := hr.1.1
          have nb4 := hr.1.2.1
          refine ⟨?_, fun x hx => ⟨?_, fun i hx2 => ⟨?_, ?_⟩⟩, fun c hc => ?_, fun j hj => ?_, fun j hj => ?_, fun j hj hj2 => ?_, fun j hj => ?_, ?_, ?_⟩
          · rw [ab_ups_ne (fun z => by omega), e96]; exact r1
          · replace hx : (x : Int) < A 49 11 := hx
            rw [ab_ups_ne (fun z => by omega), e96]; exact (r2 x hx).1
          · replace hx : (x : Int) < A 49 11 := hx
            replace hx2 : (i : Int) < A 52 x := hx2
            have hs := hi.2.2.2.2.2.2.1 x (by omega)
            rw [ab_ups_ne (fun z => by omega), e96]; exact ((r2 x hx).2 i hx2).1
          · replace hx : (x : Int) < A 49 11 := hx
            replace hx2 : (i : Int) < A 52 x := hx2
            have hs := hi.2.2.2.2.2.2.1 x (by omega)
            rw [ab_ups_ne (fun z => by omega), e96]; exact ((r2 x hx).2 i hx2).2
          · replace hc : (c : Int) < A 49 12 := hc
            rw [ab_ups_ne (fun z => by omega), e96]; exact r3 c hc
          · rw [ab_ups_ne (fun z => by omega), e96]; exact r4 j hj
          · replace hj : (j : Int) < A 49 13 := hj
            by_cases c : j = u.toNat
            · rw [c, ab_ups_eq, ab_ups_eq]
            · rw [ab_ups_ne (fun z => by omega), ab_ups_ne (fun z => c z.2), e96]; exact r5 j hj
          · replace hj2 : A 49 13 ≤ (j : Int) := hj2
            rw [ab_ups_ne (fun z => by omega)]; exact r6 j hj hj2
          · rw [ab_ups_ne (fun z => absurd z.1 (by decide)), e103]; exact r7 j hj
          · rw [ab_ups_ne (fun z => absurd z.1 (by decide)), w25, ab_ups_ne (fun z => absurd z.1 (by decide)), ab_ups_eq]
          · rw [ab_ups_ne (fun z => absurd z.1 (by decide)), e26]; exact r9
    · have hp : pr_hs (A 48 3) u = true := fw_bo_ne z
      rw [hp, if_pos rfl] at h0
      refine ⟨3, rfl, by decide, by rw [k7]; exact mk.2.2.2.2, fun σ' hM h10 _ => fs_m_readDare_42 hG ⟨fw_01, h0 (by show (3 : Int) ≠ 0; decide) σ' (fw_okM_tr (fw_okM_ups (fw_okM_tr (fw_okM_refl _ _) M1 (by decide)) (by decide)) hM (by decide)) ?_⟩⟩
      rw [h10, k7, if_neg (show ¬ σ1 93 7 = 1 by have := mk.1.mpr kq; omega)])
end
