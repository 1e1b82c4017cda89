/-! the reference's state tells A; its lines -/
/-- the numbers told (a dare not yet told is 5 in A) -/
def rs_is (σ A : ab_SG) : Prop := σ 96 3 = A 49 14 ∧ (∀ x : Nat, (x : Int) < A 49 11 → σ 96 (5 + 19 * x) = A 52 x ∧ ∀ i : Nat, (i : Int) < A 52 x → σ 96 (6 + 19 * x + 2 * i) = A 50 (x * 9 + i) ∧ σ 96 (7 + 19 * x + 2 * i) = A 51 (x * 9 + i)) ∧
  (∀ c : Nat, (c : Int) < A 49 12 → σ 96 (176 + c) = A 54 c) ∧ (∀ j : Nat, j < 45 → σ 96 (182 + j) = A 55 j) ∧ (∀ j : Nat, (j : Int) < A 49 13 → σ 96 (227 + j) = A 56 j) ∧ (∀ j : Nat, j < 5 → A 49 13 ≤ (j : Int) → A 56 j = 5) ∧
  (∀ j : Nat, j < 5 → σ 103 j = A 64 j) ∧ σ 93 25 = A 48 3 ∧ σ 93 26 = A 48 4
def RM (σ A : ab_SG) (e : tk_E) (p : Nat) : Prop := mt_is σ e p ∧ RI A ∧ rn_is σ A ∧ rs_is σ A
theorem rn_k_M {σ σ' A : ab_SG} {b k : Nat} {n : Int} (h : rn_k σ A b k n) (h1 : σ' 100 = σ 100) : rn_k σ' A b k n := by
  unfold rn_k
  rw [h1]
  exact h
theorem rs_M {σ σ' A : ab_SG} (h : rn_is σ A ∧ rs_is σ A) (hM : ab_okM ((93, 13) :: (93, 10) :: (93, 11) :: go_M) σ σ') : rn_is σ' A ∧ rs_is σ' A := by
  obtain ⟨h1, h2⟩ := h
  have e96 : σ' 96 = σ 96 := fw_okM_c hM (by decide)
  have e100 : σ' 100 = σ 100 := fw_okM_c hM (by decide)
  have e103 : σ' 103 = σ 103 := fw_okM_c hM (by decide)
  constructor
  · unfold rn_is rn_k
    rw [e96, e100]
    exact h1
  · unfold rs_is
    rw [e96, e103, hM 93 25 (by decide), hM 93 26 (by decide)]
    exact h2
def md_post (σ : ab_SG) (r : pr_R) (e : tk_E) (K : fw_KR) : Prop := (r.1 ≠ 0 → md_no σ r.1 K) ∧ (r.1 = 0 → ∀ σ' : ab_SG, ab_okM md_M σ σ' → RM σ' r.2.1 e r.2.2 → K (some (0, 0, 1)) σ')
def sp_m_readFrom : fw_SP := fun as σ K => ∃ (A : ab_SG) (e : tk_E) (p : Nat), as = [(2, 93, 0)] ∧ RM σ A e p ∧ (tk e p).1 = 2 ∧ md_post σ (pr_from A e p) e K
abbrev fk_m_readFrom : List fw_CR := [(168, 1, true, 11, 0, sp_m_bad), (182, 0, true, 11, 1, sp_m_go), (210, 2, true, 11, 2, sp_m_readNumber)]
abbrev st_m_readFrom : fw_K → fw_KR → fw_K := fw_st vwCl nn_sh nn_kd fw_kv fw_wc (nn_KI20.map (fun x => x.1)) (nn_KJ20.map (fun x => x.1)) (nn_PF20.map (fun x => x.1)) (nn_PS20.map (fun x => x.1)) fk_m_readFrom 4 nn_dt234 1 1
theorem fs_m_readFrom_0 {G : fw_K} {R : fw_KR} (hG : fw_cls st_m_readFrom R G) {σ : ab_SG} (h : (fw_c (σ 93 26) ≤ 0 → sp_m_go [(2, 93, 0)] (ab_ups σ 93 26 (fw_c 1)) (fun rv σ2 => G 22 [some (2, 93, 0)] (rv.toList ++ []) σ2)) ∧ (0 < fw_c (σ 93 26) → sp_m_bad [(2, 93, 0), (0, 0, 3)] σ (fun rv σ2 => G 12 [some (2, 93, 0)] (rv.toList ++ []) σ2))) : G 0 [some (2, 93, 0)] [] σ := fw_on hG [12, 22, 29] 200 h
theorem fs_m_readFrom_22 {G : fw_K} {R : fw_KR} (hG : fw_cls st_m_readFrom R G) {σ : ab_SG} (h : sp_m_readNumber [(2, 93, 0), (0, 0, 1), (0, 0, 9)] σ (fun rv σ2 => G 29 [some (2, 93, 0)] (rv.toList ++ []) σ2)) : G 22 [some (2, 93, 0)] [] σ := fw_on hG [12, 22, 29] 200 h
theorem fs_m_readFrom_12 {G : fw_K} {R : fw_KR} (hG : fw_cls st_m_readFrom R G) {b0 : Int} {σ : ab_SG} (h : (0 ≤ fw_c b0 ∧ fw_c b0 ≤ 1) ∧ R (some (0, 0, b0)) σ) : G 12 [some (2, 93, 0)] [(0, 0, b0)] σ := fw_on hG [12, 22, 29] 200 h
theorem fs_m_readFrom_29 {G : fw_K} {R : fw_KR} (hG : fw_cls st_m_readFrom R G) {b0 : Int} {σ : ab_SG} (h : (fw_c b0 ≠ 0 → (0 ≤ fw_c 3 ∧ fw_c 3 < ((232 : Nat) : Int)) ∧ True ∧ ((0 ≤ fw_c 1 ∧ fw_c 1 ≤ 1) ∧ R (some (0, 0, 1)) (ab_ups σ 96 (fw_c 3).toNat (fw_c (σ 93 13))))) ∧ (fw_c b0 = 0 → (0 ≤ fw_c 0 ∧ fw_c 0 ≤ 1) ∧ R (some (0, 0, 0)) σ)) : G 29 [some (2, 93, 0)] [(0, 0, b0)] σ := fw_on hG [12, 22, 29] 200 h
section
variable {l : Launch} {cy : Nat → ClassId} {ad wr cr : Nat → Nat} {D : va_G}
theorem fm_m_readFrom (hinj : nn_inj ad) : fw_H l cy ad wr cr D 234 4 sp_m_readFrom := fw_mk hinj (⟨"NameNotesModel", "readFrom", "()Z"⟩, prog_14_method_37_code, 1, (Option.some Jvm.ClassFile.FieldType.boolean), 0, true, 1) rfl rfl nn_KI20_ok nn_KJ20_ok nn_PF20_ok nn_PS20_ok (by decide +kernel) rfl rfl (List.forall_mem_cons.mpr ⟨fw_row nn_PM20_ok (x := 168) (k := 0) (mn := 221) (np := 1) (ob := true) (ci := 11) (⟨"NameNotesModel", "bad", "(I)Z"⟩, prog_14_method_23_code, 2, (Option.some Jvm.ClassFile.FieldType.boolean), 1, true, 1) rfl (by decide +kernel) rfl rfl (by decide) (fun _ => ⟨_, _, rfl⟩) (fm_m_bad hinj), (List.forall_mem_cons.mpr ⟨fw_row nn_PM20_ok (x := 182) (k := 0) (mn := 212) (np := 0) (ob := true) (ci := 11) (⟨"NameNotesModel", "go", "()V"⟩, prog_14_method_17_code, 5, (Option.none : Option Jvm.ClassFile.FieldType), 0, true, 4) rfl (by decide +kernel) rfl rfl (by decide) (fun _ => ⟨_, _, rfl⟩) (fm_m_go hinj), (List.forall_mem_cons.mpr ⟨fw_row nn_PM20_ok (x := 210) (k := 0) (mn := 227) (np := 2) (ob := true) (ci := 11) (⟨"NameNotesModel", "readNumber", "(II)Z"⟩, prog_14_method_25_code, 3, (Option.some Jvm.ClassFile.FieldType.boolean), 2, true, 1) rfl (by decide +kernel) rfl rfl (by decide) (fun _ => ⟨_, _, rfl⟩) (fm_m_readNumber hinj), (fun _ h => absurd h List.not_mem_nil)⟩)⟩)⟩) (fun as σ K h => by
  obtain ⟨A, e, p, rfl, ⟨hm, hi, hr⟩, hk, h0, h1⟩ := h
  have mk := mg_kind hm.1
  have b26 : σ 93 26 = A 48 4 := hr.2.2.2.2.2.2.2.2.2
  have hi4 := hi.2.2.2.2.2.2.2
  have c26 : fw_c (σ 93 26) = A 48 4 := by rw [b26]; exact fw_c_id (by omega) (by omega)
  have e3 : (fw_c 3).toNat = 3 := by rw [fw_c_id (by decide) (by decide)]; rfl
  have u3 : 0 ≤ fw_c 3 ∧ fw_c 3 < ((232 : Nat) : Int) := by rw [fw_c_id (by decide) (by decide)]; decide
  unfold pr_from at h0 h1
  refine ⟨rfl, fun G hG => fs_m_readFrom_0 hG ?_⟩
  rw [c26]
  refine ⟨fun q => ?_, fun q => ?_⟩
  · rw [if_neg (show ¬ A 48 4 ≠ 0 by omega)] at h0 h1
    rw [fw_c1]
    refine mt_go (mt_ups hm (Or.inr ⟨rfl, by decide⟩)) (fun σ1 M1 S1 => fs_m_readFrom_22 hG ⟨1, 9, e, tn e p, rfl, by decide, S1, fun n0 σ' M2 h10 => ?_, fun n0 na nb σ' M2 h13 S2 => ?_⟩)
    · rw [if_pos n0] at h0
      refine fs_m_readFrom_29 hG ⟨fun z => absurd fw_c0 z, fun _ => ⟨fw_01, h0 n0 σ' ?_ h10⟩⟩
      exact fw_okM_tr (fw_okM_tr (fw_okM_ups (fw_okM_refl _ _) (by decide)) M1 (by decide)) M2 (by decide)
    · rw [if_neg (fun y => y n0)] at h1
      have h1 := h1 rfl
      dsimp only at h1
      have ev : fw_c (tk e (tn e p)).2.2.2.2 = (tk e (tn e p)).2.2.2.2 := fw_c_id (by omega) (by omega)
      refine fs_m_readFrom_29 hG ⟨fun _ => ⟨u3, trivial, fw_11, ?_⟩, fun z => absurd (fw_c1.symm.trans z) (by decide)⟩
      rw [e3, h13, ev]
      have M3 : ab_okM ((93, 26) :: (93, 13) :: go_M) σ σ' := fw_okM_tr (fw_okM_tr (fw_okM_ups (fw_okM_refl _ _) (by decide)) M1 (by decide)) M2 (by decide)
      have v26 : σ' 93 26 = 1 := (M2 93 26 (by decide)).trans ((M1 93 26 (by decide)).trans ab_ups_eq)
      have e96 : σ' 96 = σ 96 := fw_okM_c M3 (by decide)
      have e100 : σ' 100 = σ 100 := fw_okM_c M3 (by decide)
      have e103 : σ' 103 = σ 103 := fw_okM_c M3 (by decide)
      have e25 : σ' 93 25 = σ 93 25 := M3 93 25 (by decide)
      refine h1 _ (fw_okM_upa (fw_okM_tr (fw_okM_refl _ _) M3 (by decide)) (by decide)) ⟨mt_ups S2 (Or.inl ⟨by decide, by decide⟩), ⟨hi.1, hi.2.1, hi.2.2.1, hi.2.2.2.1, hi.2.2.2.2.1, hi.2.2.2.2.2.1, hi.2.2.2.2.2.2.1, ?_⟩, ?_, ?_⟩
      · rw [ab_ups_ne (by decide), ab_ups_eq]; decide
      · obtain ⟨⟨c0, c1⟩, ⟨d0, d1⟩, ⟨g0, g1⟩, r1, r2, r3⟩ := hr.1
        refine ⟨⟨?_, c1⟩, ⟨?_, d1⟩, ⟨?_, g1⟩, rn_k_M r1 ?_, rn_k_M r2 ?_, rn_k_M r3 ?_⟩
        · rw [ab_ups_ne (by decide), e96]; exact c0
        · rw [ab_ups_ne (by decide), e96]; exact d0
        · rw [ab_ups_ne (by decide), e96]; exact g0
        · rw [ab_ups_row (by decide), e100]
        · rw [ab_ups_row (by decide), e100]
        · rw [ab_ups_row (by decide), e100]
      · obtain ⟨r1, r2, r3, r4, r5, r6, r7, r8, r9⟩ := hr.2
        refine ⟨?_, fun x hx => ⟨?_, fun i hx2 => ⟨?_, ?_⟩⟩, fun c hc => ?_, fun j hj => ?_, fun j hj => ?_, fun j hj hj2 => ?_, fun j hj => ?_, ?_, ?_⟩
        · rw [ab_ups_eq, ab_ups_eq]
        · rw [ab_ups_ne (fun z => by omega), e96]; exact (r2 x hx).1
        · rw [ab_ups_ne (fun z => by omega), e96]; exact ((r2 x hx).2 i hx2).1
        · rw [ab_ups_ne (fun z => by omega), e96]; exact ((r2 x hx).2 i hx2).2
        · rw [ab_ups_ne (fun z => by omega), e96]; exact r3 c hc
        · rw [ab_ups_ne (fun z => by omega), e96]; exact r4 j hj
        · rw [ab_ups_ne (fun z => by omega), e96]; exact r5 j hj
        · exact r6 j hj hj2
        · rw [ab_ups_ne (fun z => absurd z.1 (by decide)), e103]; exact r7 j hj
        · rw [ab_ups_ne (by decide), e25]; exact r8
        · rw [ab_ups_ne (by decide), v26, ab_ups_ne (by decide), ab_ups_eq]
  · rw [if_pos (show A 48 4 ≠ 0 by omega)] at h0
    refine ⟨3, rfl, by decide, mk.2.2.2.2, fun σ' hM h10 _ => fs_m_readFrom_12 hG ⟨fw_01, h0 (by show (3 : Int) ≠ 0; decide) σ' (fw_okM_tr (fw_okM_refl _ _) hM (by decide)) ?_⟩⟩
    rw [h10, if_neg (show ¬ σ 93 7 = 1 by have := mk.1.mpr hk; omega)])
end
