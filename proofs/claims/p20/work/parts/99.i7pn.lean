/-! the reference's lines: a person -/
def sp_m_readPerson : fw_SP := fun as σ K => ∃ (A : ab_SG) (e : tk_E) (p : Nat), as = [(2, 93, 0)] ∧ RM σ A e p ∧ (tk e p).1 = 2 ∧ md_post σ (pr_person A e p) e K
abbrev fk_m_readPerson : List fw_CR := [(168, 1, true, 11, 0, sp_m_bad), (182, 0, true, 11, 1, sp_m_go), (207, 1, true, 11, 3, sp_m_readNew)]
abbrev st_m_readPerson : fw_K → fw_KR → fw_K := fw_st vwCl nn_sh nn_kd fw_kv fw_wc (nn_KI20.map (fun x => x.1)) (nn_KJ20.map (fun x => x.1)) (nn_PF20.map (fun x => x.1)) (nn_PS20.map (fun x => x.1)) fk_m_readPerson 4 nn_dt231 2 1
theorem fs_m_readPerson_0 {G : fw_K} {R : fw_KR} (hG : fw_cls st_m_readPerson R G) {σ : ab_SG} (h : (0 ≤ fw_c 2 ∧ fw_c 2 < ((232 : Nat) : Int)) ∧ ((fw_c (σ 96 (fw_c 2).toNat) ≠ fw_c 5 → sp_m_go [(2, 93, 0)] σ (fun rv σ2 => G 22 [some (2, 93, 0), some (0, 0, σ 96 (fw_c 2).toNat)] (rv.toList ++ []) σ2)) ∧ (fw_c (σ 96 (fw_c 2).toNat) = fw_c 5 → sp_m_bad [(2, 93, 0), (0, 0, 4)] σ (fun rv σ2 => G 17 [some (2, 93, 0), some (0, 0, σ 96 (fw_c 2).toNat)] (rv.toList ++ []) σ2)))) : G 0 [some (2, 93, 0), none] [] σ := fw_on hG [17, 22, 30] 200 h
theorem fs_m_readPerson_22 {G : fw_K} {R : fw_KR} (hG : fw_cls st_m_readPerson R G) {a1 : Int} {σ : ab_SG} (h : sp_m_readNew [(2, 93, 0), (0, 0, 15 + a1)] σ (fun rv σ2 => G 30 [some (2, 93, 0), some (0, 0, a1)] (rv.toList ++ []) σ2)) : G 22 [some (2, 93, 0), some (0, 0, a1)] [] σ := fw_on hG [17, 22, 30] 200 h
theorem fs_m_readPerson_17 {G : fw_K} {R : fw_KR} (hG : fw_cls st_m_readPerson R G) {a1 b0 : Int} {σ : ab_SG} (h : (0 ≤ fw_c b0 ∧ fw_c b0 ≤ 1) ∧ R (some (0, 0, b0)) σ) : G 17 [some (2, 93, 0), some (0, 0, a1)] [(0, 0, b0)] σ := fw_on hG [17, 22, 30] 200 h
theorem fs_m_readPerson_30 {G : fw_K} {R : fw_KR} (hG : fw_cls st_m_readPerson R G) {a1 b0 : Int} {σ : ab_SG} (h : (fw_c b0 ≠ 0 → (0 ≤ fw_c (227 + a1) ∧ fw_c (227 + a1) < ((232 : Nat) : Int)) ∧ True ∧ ((0 ≤ fw_c 2 ∧ fw_c 2 < ((232 : Nat) : Int)) ∧ ((0 ≤ fw_c 2 ∧ fw_c 2 < ((232 : Nat) : Int)) ∧ True ∧ ((0 ≤ fw_c 1 ∧ fw_c 1 ≤ 1) ∧ R (some (0, 0, 1)) (ab_ups (ab_ups σ 96 (fw_c (227 + a1)).toNat (fw_c 5)) 96 (fw_c 2).toNat (fw_c (((ab_ups σ 96 (fw_c (227 + a1)).toNat (fw_c 5)) 96 (fw_c 2).toNat) + 1))))))) ∧ (fw_c b0 = 0 → (0 ≤ fw_c 0 ∧ fw_c 0 ≤ 1) ∧ R (some (0, 0, 0)) σ)) : G 30 [some (2, 93, 0), some (0, 0, a1)] [(0, 0, b0)] σ := fw_on hG [17, 22, 30] 200 h
section
variable {l : Launch} {cy : Nat → ClassId} {ad wr cr : Nat → Nat} {D : va_G}
theorem fm_m_readPerson (hinj : nn_inj ad) : fw_H l cy ad wr cr D 231 4 sp_m_readPerson := fw_mk hinj (⟨"NameNotesModel", "readPerson", "()Z"⟩, prog_14_method_34_code, 2, (Option.some Jvm.ClassFile.FieldType.boolean), 0, true, 1) rfl rfl nn_KI20_ok nn_KJ20_ok nn_PF20_ok nn_PS20_ok (by decide +kernel) rfl rfl (List.forall_mem_cons.mpr ⟨fw_row nn_PM20_ok (x := 168) (k := 0) (mn := 221) (np := 1) (ob := true) (ci := 11) (⟨"NameNotesModel", "bad", "(I)Z"⟩, prog_14_method_23_code, 2, (Option.some Jvm.ClassFile.FieldType.boolean), 1, true, 1) rfl (by decide +kernel) rfl rfl (by decide) (fun _ => ⟨_, _, rfl⟩) (fm_m_bad hinj), (List.forall_mem_cons.mpr ⟨fw_row nn_PM20_ok (x := 182) (k := 0) (mn := 212) (np := 0) (ob := true) (ci := 11) (⟨"NameNotesModel", "go", "()V"⟩, prog_14_method_17_code, 5, (Option.none : Option Jvm.ClassFile.FieldType), 0, true, 4) rfl (by decide +kernel) rfl rfl (by decide) (fun _ => ⟨_, _, rfl⟩) (fm_m_go hinj), (List.forall_mem_cons.mpr ⟨fw_row nn_PM20_ok (x := 207) (k := 0) (mn := 222) (np := 1) (ob := true) (ci := 11) (⟨"NameNotesModel", "readNew", "(I)Z"⟩, prog_14_method_30_code, 3, (Option.some Jvm.ClassFile.FieldType.boolean), 1, true, 1) rfl (by decide +kernel) rfl rfl (by decide) (fun _ => ⟨_, _, rfl⟩) (fm_m_readNew hinj), (fun _ h => absurd h List.not_mem_nil)⟩)⟩)⟩) (fun as σ K h => by
  obtain ⟨A, e, p, rfl, ⟨hm, hi, hr⟩, hk, h0, h1⟩ := h
  have mk := mg_kind hm.1
  have t2 : (fw_c 2).toNat = 2 := by rw [fw_c_id (by decide) (by decide)]; rfl
  have u2 : 0 ≤ fw_c 2 ∧ fw_c 2 < ((232 : Nat) : Int) := by rw [fw_c_id (by decide) (by decide)]; decide
  have z5 : fw_c 5 = 5 := fw_c_id (by decide) (by decide)
  have h13 := hr.1.2.2.1
  have c13 : fw_c (A 49 13) = A 49 13 := fw_c_id (by omega) (by omega)
  unfold pr_person at h0 h1
  refine ⟨rfl, fun G hG => fs_m_readPerson_0 hG ⟨u2, ?_⟩⟩
  rw [t2, h13.1, c13, z5]
  refine ⟨fun q => ?_, fun q => ?_⟩
  · rw [if_neg (show ¬ 5 ≤ A 49 13 by omega)] at h0 h1
    refine mt_go hm (fun σ1 M1 S1 => fs_m_readPerson_22 hG ?_)
    have hr1 := rs_M hr (fw_okM_tr (fw_okM_refl _ _) M1 (by decide))
    generalize hx : A 49 13 = x at h0 h1 q h13 c13 ⊢
    refine ⟨15 + x.toNat, A, e, tn e p, by rw [show (((15 + x.toNat : Nat) : Int)) = 15 + x by omega], by omega, S1, hr1.1, fun n0 σ' M2 h10 => ?_, fun n0 k2 ok σ2 M2 S2 => ?_⟩
    · rw [if_pos n0] at h0
      exact fs_m_readPerson_30 hG ⟨fun z => absurd fw_c0 z, fun _ => ⟨fw_01, h0 n0 σ' (fw_okM_tr (fw_okM_tr (fw_okM_refl _ _) M1 (by decide)) M2 (by decide)) h10⟩⟩
    · rw [if_neg (fun y => y n0)] at h1
      have h1 := h1 rfl
      dsimp only at h1
      have bw := rf_ok_in 7 _ ok
      rw [rf_C7] at bw
      have dw : fw_d (pr_wd e (tn e p)) = pr_wd e (tn e p) := fw_d_id (by omega) (by omega)
      generalize pr_wd e (tn e p) = w at h1 ok dw M2
      have ei : fw_c (227 + x) = ((227 + x.toNat : Nat) : Int) := by rw [fw_c_id (by omega) (by omega)]; omega
      have N2 : ab_okM ((100, 1000000) :: go_M) σ σ2 := fw_okM_tr (fw_okM_upa (fw_okM_tr (fw_okM_refl _ _) M1 (by decide)) (by decide)) M2 (by decide)
      have e96 : σ2 96 = σ 96 := fw_okM_c N2 (by decide)
      have e103 : σ2 103 = σ 103 := fw_okM_c N2 (by decide)
      have e25 : σ2 93 25 = σ 93 25 := N2 93 25 (by decide)
      have e26 : σ2 93 26 = σ 93 26 := N2 93 26 (by decide)
      have e100 : σ2 100 = ab_ups σ1 100 (15 + x.toNat) (rf_w 7 w) 100 := fw_okM_c M2 (by decide)
      have o100 : σ1 100 = σ 100 := fw_okM_c M1 (by decide)
      refine fs_m_readPerson_30 hG ⟨fun _ => ⟨by rw [ei]; exact ⟨Int.natCast_nonneg _, by omega⟩, trivial, u2, u2, trivial, fw_11, ?_⟩, fun y => absurd (fw_c1.symm.trans y) (by decide)⟩
      rw [ei, Int.toNat_natCast, z5, t2]
      have v2 : ab_ups σ2 96 (227 + x.toNat) 5 96 2 = x := by rw [ab_ups_ne (fun z => by omega), e96]; exact h13.1
      have c1 : fw_c (x + 1) = x + 1 := fw_c_id (by omega) (by omega)
      rw [v2, c1]
      have B13 : ab_ups (ab_ups A 59 x.toNat w) 49 13 (x + 1) 49 13 = x + 1 := ab_ups_eq
      have B49 : ∀ j : Nat, j ≠ 13 → ab_ups (ab_ups A 59 x.toNat w) 49 13 (x + 1) 49 j = A 49 j := fun j hj => by rw [ab_ups_ne (fun z => hj z.2), ab_ups_ne (fun z => absurd z.1 (by decide))]
      have Bk : ∀ k j : Nat, k ≠ 49 → k ≠ 59 → ab_ups (ab_ups A 59 x.toNat w) 49 13 (x + 1) k j = A k j := fun k j q1 q2 => by rw [ab_ups_ne (fun z => q1 z.1), ab_ups_ne (fun z => q2 z.1)]
      have B59 : ∀ j : Nat, ab_ups (ab_ups A 59 x.toNat w) 49 13 (x + 1) 59 j = ab_ups A 59 x.toNat w 59 j := fun j => ab_ups_ne (fun z => absurd z.1 (by decide))
      have s100 : ∀ j : Nat, ab_ups (ab_ups σ2 96 (227 + x.toNat) 5) 96 2 (x + 1) 100 j = ab_ups σ1 100 (15 + x.toNat) (rf_w 7 w) 100 j := fun j => by rw [ab_ups_ne (fun z => absurd z.1 (by decide)), ab_ups_ne (fun z => absurd z.1 (by decide)), e100]
      have s96 : ∀ j : Nat, j ≠ 2 → j ≠ 227 + x.toNat → ab_ups (ab_ups σ2 96 (227 + x.toNat) 5) 96 2 (x + 1) 96 j = σ 96 j := fun j q1 q2 => by rw [ab_ups_ne (fun z => q1 z.2), ab_ups_ne (fun z => q2 z.2), e96]
      refine h1 _ (fw_okM_upa (fw_okM_upa (fw_okM_tr (fw_okM_refl _ _) N2 (by decide)) (by decide)) (by decide)) ⟨mt_ups (mt_ups S2 (Or.inl ⟨by decide, by decide⟩)) (Or.inl ⟨by decide, by decide⟩), ?_, ?_, ?_⟩
      · refine ⟨by rw [B49 11 (by decide)]; exact hi.1, by rw [B49 12 (by decide)]; exact hi.2.1, by rw [B13]; omega, fun j hj => by rw [Bk 57 j (by decide) (by decide)]; exact hi.2.2.2.1 j hj, fun j hj => by rw [Bk 58 j (by decide) (by decide)]; exact hi.2.2.2.2.1 j hj, fun j hj => ?_, fun j hj => by rw [Bk 52 j (by decide) (by decide)]; exact hi.2.2.2.2.2.2.1 j hj, by rw [Bk 48 4 (by decide) (by decide)]; exact hi.2.2.2.2.2.2.2⟩
        rw [B59]
        by_cases c : j = x.toNat
        · rw [c, ab_ups_eq]; exact dw
        · rw [ab_ups_ne (fun z => c z.2)]; exact hi.2.2.2.2.2.1 j hj
      · obtain ⟨⟨c0, c1⟩, ⟨d0, d1⟩, -, r1, r2, r3⟩ := hr.1
        refine ⟨⟨?_, ?_⟩, ⟨?_, ?_⟩, ⟨?_, ?_⟩, fun j hj => ?_, fun j hj => ?_, fun j hj => ?_⟩
        · rw [s96 0 (by decide) (by omega), B49 11 (by decide)]; exact c0
        · rw [B49 11 (by decide)]; exact c1
        · rw [s96 1 (by decide) (by omega), B49 12 (by decide)]; exact d0
        · rw [B49 12 (by decide)]; exact d1
        · rw [ab_ups_eq, B13]
        · rw [B13]; omega
        · rw [B49 11 (by decide)] at hj
          rw [Bk 57 j (by decide) (by decide), s100, ab_ups_ne (fun z => by omega), o100]; exact r1 j hj
        · rw [B49 12 (by decide)] at hj
          rw [Bk 58 j (by decide) (by decide), s100, ab_ups_ne (fun z => by omega), o100]; exact r2 j hj
        · rw [B13] at hj
          rw [B59, s100]
          by_cases c : j = x.toNat
          · rw [c, ab_ups_eq, ab_ups_eq]; exact ⟨ok, rfl⟩
          · rw [ab_ups_ne (fun z => c z.2), ab_ups_ne (fun z => by omega), o100]; exact r3 j (by omega)
      · obtain ⟨r1, r2, r3, r4, r5, r6, r7, r8, r9⟩ := hr.2
        have nb3 := hr.1.1
        have nb4 := hr.1.2.1
        refine ⟨?_, fun y hy => ⟨?_, fun i hy2 => ?_⟩, fun c hc => ?_, fun j hj => ?_, fun j hj => ?_, fun j hj hj2 => ?_, fun j hj => ?_, ?_, ?_⟩
        · rw [s96 3 (by decide) (by omega), B49 14 (by decide)]; exact r1
        · rw [B49 11 (by decide)] at hy
          rw [s96 _ (by omega) (by omega), Bk 52 y (by decide) (by decide)]; exact (r2 y hy).1
        · rw [B49 11 (by decide)] at hy
          rw [Bk 52 y (by decide) (by decide)] at hy2
          have hs := hi.2.2.2.2.2.2.1 y (by omega)
          rw [s96 _ (by omega) (by omega), s96 _ (by omega) (by omega), Bk 50 _ (by decide) (by decide), Bk 51 _ (by decide) (by decide)]; exact (r2 y hy).2 i hy2
        · rw [B49 12 (by decide)] at hc
          rw [s96 _ (by omega) (by omega), Bk 54 c (by decide) (by decide)]; exact r3 c hc
        · rw [s96 _ (by omega) (by omega), Bk 55 j (by decide) (by decide)]; exact r4 j hj
        · rw [B13] at hj
          rw [Bk 56 j (by decide) (by decide)]
          by_cases c : j = x.toNat
          · rw [c, ab_ups_ne (fun z => by omega), ab_ups_eq]
            exact (r6 _ (by omega) (by omega)).symm
          · rw [s96 _ (by omega) (by omega)]; exact r5 j (by omega)
        · rw [B13] at hj2
          rw [Bk 56 j (by decide) (by decide)]; exact r6 j hj (by omega)
        · rw [Bk 64 j (by decide) (by decide), ab_ups_ne (fun z => absurd z.1 (by decide)), ab_ups_ne (fun z => absurd z.1 (by decide)), e103]; exact r7 j hj
        · rw [Bk 48 3 (by decide) (by decide), ab_ups_ne (fun z => absurd z.1 (by decide)), ab_ups_ne (fun z => absurd z.1 (by decide)), e25]; exact r8
        · rw [Bk 48 4 (by decide) (by decide), ab_ups_ne (fun z => absurd z.1 (by decide)), ab_ups_ne (fun z => absurd z.1 (by decide)), e26]; exact r9
  · rw [if_pos (show 5 ≤ A 49 13 by omega)] at h0
    refine ⟨4, rfl, by decide, mk.2.2.2.2, fun σ' hM h10 _ => fs_m_readPerson_17 hG ⟨fw_01, h0 (by show (4 : Int) ≠ 0; decide) σ' (fw_okM_tr (fw_okM_refl _ _) hM (by decide)) ?_⟩⟩
    rw [h10, if_neg (show ¬ σ 93 7 = 1 by have := mk.1.mpr hk; omega)])
end
