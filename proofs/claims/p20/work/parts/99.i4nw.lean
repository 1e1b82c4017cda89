/-! the reference's names: new ones, and one that is told -/
theorem rw_rf {a c : Nat → Int} {w : Int} (hw : rf_ok 7 w) : ∀ (f i : Nat), (∀ j : Nat, i ≤ j → j < i + f → rf_ok 7 (c j) ∧ a j = rf_w 7 (c j)) → rw_fd a (rf_w 7 w) f i = rw_fd c w f i := by
  intro f
  induction f with
  | zero => intro i _; rfl
  | succ f ih =>
    intro i h
    have hi := h i (Nat.le_refl _) (by omega)
    unfold rw_fd
    rw [ih (i + 1) (fun j h1 h2 => h j (by omega) (by omega)), hi.2]
    by_cases e : c i = w
    · rw [if_pos e, e, if_pos rfl]
    · rw [if_neg e, if_neg (fun z => e (rf_inj 7 _ _ hi.1 hw z))]
/-- the reference's names from b on are the row k's -/
def rn_k (σ A : ab_SG) (b k : Nat) (n : Int) : Prop := ∀ j : Nat, (j : Int) < n → rf_ok 7 (A k j) ∧ σ 100 (b + j) = rf_w 7 (A k j)
theorem rn_can {σ A : ab_SG} {b k : Nat} {n : Int} (h : rn_k σ A b k n) : ∀ j : Nat, j < n.toNat → fw_d (σ 100 (b + j)) = σ 100 (b + j) := by
  intro j hj
  have b1 := rf_w_in 7 (A k j)
  have hB := rf_B7
  rw [(h j (by omega)).2]
  exact fw_d_id (by omega) (by omega)
def sp_m_isOne : fw_SP := fun as σ K => ∃ (b k : Nat) (n : Int) (A : ab_SG) (e : tk_E) (p : Nat), as = [(2, 93, 0), (0, 0, (b : Int)), (0, 0, n)] ∧ (0 ≤ n ∧ n ≤ 9 ∧ b + n.toNat ≤ 20) ∧ mt_is σ e p ∧ rn_k σ A b k n ∧
  (pr_sk A e k n p ≠ 0 → md_no σ (pr_sk A e k n p) K) ∧ (pr_sk A e k n p = 0 → 0 ≤ pr_ix A e k n p → pr_ix A e k n p < n → K (some (0, 0, 1)) (ab_ups σ 93 13 (pr_ix A e k n p)))
def rn_is (σ A : ab_SG) : Prop := (σ 96 0 = A 49 11 ∧ 0 ≤ A 49 11 ∧ A 49 11 ≤ 9) ∧ (σ 96 1 = A 49 12 ∧ 0 ≤ A 49 12 ∧ A 49 12 ≤ 6) ∧ (σ 96 2 = A 49 13 ∧ 0 ≤ A 49 13 ∧ A 49 13 ≤ 5) ∧ rn_k σ A 0 57 (A 49 11) ∧ rn_k σ A 9 58 (A 49 12) ∧ rn_k σ A 15 59 (A 49 13)
def sp_m_readNew : fw_SP := fun as σ K => ∃ (x : Nat) (A : ab_SG) (e : tk_E) (p : Nat), as = [(2, 93, 0), (0, 0, (x : Int))] ∧ x < 20 ∧ mt_is σ e p ∧ rn_is σ A ∧
  (pr_new A e p ≠ 0 → md_no σ (pr_new A e p) K) ∧ (pr_new A e p = 0 → (tk e p).1 = 2 → rf_ok 7 (pr_wd e p) → ∀ σ' : ab_SG, ab_okM go_M (ab_ups σ 100 x (rf_w 7 (pr_wd e p))) σ' → mt_is σ' e (tn e p) → K (some (0, 0, 1)) σ')
theorem rw_fd_ge (a : Nat → Int) (w : Int) : ∀ (f i : Nat), -1 ≤ rw_fd a w f i := by
  intro f
  induction f with
  | zero => intro i; exact Int.le_refl _
  | succ f ih =>
    intro i
    unfold rw_fd
    split
    · omega
    · exact ih (i + 1)
theorem rw_fd_c (a : Nat → Int) (w : Int) (n : Nat) (hn : n ≤ 20) : fw_c (rw_fd a w n 0) = rw_fd a w n 0 ∧ -1 ≤ rw_fd a w n 0 := by
  have h := rw_fd_le a w n 0
  have g := rw_fd_ge a w n 0
  exact ⟨fw_c_id (by omega) (by omega), g⟩
abbrev fk_m_isOne : List fw_CR := [(168, 1, true, 11, 0, sp_m_bad), (199, 0, true, 11, 2, sp_m_isName), (203, 4, false, 0, 0, sp_m_findIn)]
abbrev st_m_isOne : fw_K → fw_KR → fw_K := fw_st vwCl nn_sh nn_kd fw_kv fw_wc (nn_KI20.map (fun x => x.1)) (nn_KJ20.map (fun x => x.1)) (nn_PF20.map (fun x => x.1)) (nn_PS20.map (fun x => x.1)) fk_m_isOne 3 nn_dt229 3 1
theorem fs_m_isOne_0 {G : fw_K} {R : fw_KR} (hG : fw_cls st_m_isOne R G) {b n : Int} {σ : ab_SG} (h : sp_m_isName [(2, 93, 0)] σ (fun rv σ2 => G 4 [some (2, 93, 0), some (0, 0, b), some (0, 0, n)] (rv.toList ++ []) σ2)) : G 0 [some (2, 93, 0), some (0, 0, b), some (0, 0, n)] [] σ := fw_on hG [4, 12, 27, 43] 200 h
theorem fs_m_isOne_4 {G : fw_K} {R : fw_KR} (hG : fw_cls st_m_isOne R G) {a1 a2 b0 : Int} {σ : ab_SG} (h : (fw_c b0 ≠ 0 → sp_m_findIn [(2, 100, 0), (0, 0, a1), (0, 0, a2), (1, 0, σ 93 12)] σ (fun rv σ2 => G 27 [some (2, 93, 0), some (0, 0, a1), some (0, 0, a2)] (rv.toList ++ [(2, 93, 0)]) σ2)) ∧ (fw_c b0 = 0 → sp_m_bad [(2, 93, 0), (0, 0, 1)] σ (fun rv σ2 => G 12 [some (2, 93, 0), some (0, 0, a1), some (0, 0, a2)] (rv.toList ++ []) σ2))) : G 4 [some (2, 93, 0), some (0, 0, a1), some (0, 0, a2)] [(0, 0, b0)] σ := fw_on hG [4, 12, 27, 43] 200 h
theorem fs_m_isOne_27 {G : fw_K} {R : fw_KR} (hG : fw_cls st_m_isOne R G) {a1 a2 b0 : Int} {σ : ab_SG} (h : (fw_c (fw_c b0) ≠ fw_c (-1) → (0 ≤ fw_c 1 ∧ fw_c 1 ≤ 1) ∧ R (some (0, 0, 1)) (ab_ups σ 93 13 (fw_c b0))) ∧ (fw_c (fw_c b0) = fw_c (-1) → sp_m_bad [(2, 93, 0), (0, 0, 3)] (ab_ups σ 93 13 (fw_c b0)) (fun rv σ2 => G 43 [some (2, 93, 0), some (0, 0, a1), some (0, 0, a2)] (rv.toList ++ []) σ2))) : G 27 [some (2, 93, 0), some (0, 0, a1), some (0, 0, a2)] [(0, 0, b0), (2, 93, 0)] σ := fw_on hG [4, 12, 27, 43] 200 h
theorem fs_m_isOne_12 {G : fw_K} {R : fw_KR} (hG : fw_cls st_m_isOne R G) {a1 a2 b0 : Int} {σ : ab_SG} (h : (0 ≤ fw_c b0 ∧ fw_c b0 ≤ 1) ∧ R (some (0, 0, b0)) σ) : G 12 [some (2, 93, 0), some (0, 0, a1), some (0, 0, a2)] [(0, 0, b0)] σ := fw_on hG [4, 12, 27, 43] 200 h
theorem fs_m_isOne_43 {G : fw_K} {R : fw_KR} (hG : fw_cls st_m_isOne R G) {a1 a2 b0 : Int} {σ : ab_SG} (h : (fw_c b0 = 0 → (0 ≤ fw_c 0 ∧ fw_c 0 ≤ 1) ∧ R (some (0, 0, 0)) σ) ∧ (fw_c b0 ≠ 0 → (0 ≤ fw_c 1 ∧ fw_c 1 ≤ 1) ∧ R (some (0, 0, 1)) σ)) : G 43 [some (2, 93, 0), some (0, 0, a1), some (0, 0, a2)] [(0, 0, b0)] σ := fw_on hG [4, 12, 27, 43] 200 h
abbrev fk_m_readNew : List fw_CR := [(168, 1, true, 11, 0, sp_m_bad), (182, 0, true, 11, 1, sp_m_go), (199, 0, true, 11, 2, sp_m_isName), (203, 4, false, 0, 0, sp_m_findIn)]
abbrev st_m_readNew : fw_K → fw_KR → fw_K := fw_st vwCl nn_sh nn_kd fw_kv fw_wc (nn_KI20.map (fun x => x.1)) (nn_KJ20.map (fun x => x.1)) (nn_PF20.map (fun x => x.1)) (nn_PS20.map (fun x => x.1)) fk_m_readNew 3 nn_dt222 3 1
theorem fs_m_readNew_0 {G : fw_K} {R : fw_KR} (hG : fw_cls st_m_readNew R G) {x : Int} {σ : ab_SG} (h : sp_m_isName [(2, 93, 0)] σ (fun rv σ2 => G 4 [some (2, 93, 0), some (0, 0, x), none] (rv.toList ++ []) σ2)) : G 0 [some (2, 93, 0), some (0, 0, x), none] [] σ := fw_on hG [4, 12, 31, 54, 77, 81, 86, 96, 111] 200 h
theorem fs_m_readNew_4 {G : fw_K} {R : fw_KR} (hG : fw_cls st_m_readNew R G) {a1 b0 : Int} {σ : ab_SG} (h : (fw_c b0 ≠ 0 → (0 ≤ fw_c 0 ∧ fw_c 0 < ((232 : Nat) : Int)) ∧ (sp_m_findIn [(2, 100, 0), (0, 0, 0), (0, 0, σ 96 (fw_c 0).toNat), (1, 0, σ 93 12)] σ (fun rv σ2 => G 31 [some (2, 93, 0), some (0, 0, a1), none] (rv.toList ++ []) σ2))) ∧ (fw_c b0 = 0 → sp_m_bad [(2, 93, 0), (0, 0, 1)] σ (fun rv σ2 => G 12 [some (2, 93, 0), some (0, 0, a1), none] (rv.toList ++ []) σ2))) : G 4 [some (2, 93, 0), some (0, 0, a1), none] [(0, 0, b0)] σ := fw_on hG [4, 12, 31, 54, 77, 81, 86, 96, 111] 200 h
theorem fs_m_readNew_31 {G : fw_K} {R : fw_KR} (hG : fw_cls st_m_readNew R G) {a1 b0 : Int} {σ : ab_SG} (h : (fw_c b0 ≠ fw_c (-1) → G 81 [some (2, 93, 0), some (0, 0, a1), none] [] σ) ∧ (fw_c b0 = fw_c (-1) → (0 ≤ fw_c 1 ∧ fw_c 1 < ((232 : Nat) : Int)) ∧ (sp_m_findIn [(2, 100, 0), (0, 0, 9), (0, 0, σ 96 (fw_c 1).toNat), (1, 0, σ 93 12)] σ (fun rv σ2 => G 54 [some (2, 93, 0), some (0, 0, a1), none] (rv.toList ++ []) σ2)))) : G 31 [some (2, 93, 0), some (0, 0, a1), none] [(0, 0, b0)] σ := fw_on hG [4, 12, 31, 54, 77, 81, 86, 96, 111] 200 h
theorem fs_m_readNew_12 {G : fw_K} {R : fw_KR} (hG : fw_cls st_m_readNew R G) {a1 b0 : Int} {σ : ab_SG} (h : (0 ≤ fw_c b0 ∧ fw_c b0 ≤ 1) ∧ R (some (0, 0, b0)) σ) : G 12 [some (2, 93, 0), some (0, 0, a1), none] [(0, 0, b0)] σ := fw_on hG [4, 12, 31, 54, 77, 81, 86, 96, 111] 200 h
theorem fs_m_readNew_81 {G : fw_K} {R : fw_KR} (hG : fw_cls st_m_readNew R G) {a1 : Int} {σ : ab_SG} (h : G 86 [some (2, 93, 0), some (0, 0, a1), none] [(0, 0, 1)] σ) : G 81 [some (2, 93, 0), some (0, 0, a1), none] [] σ := fw_on hG [4, 12, 31, 54, 77, 81, 86, 96, 111] 200 h
theorem fs_m_readNew_54 {G : fw_K} {R : fw_KR} (hG : fw_cls st_m_readNew R G) {a1 b0 : Int} {σ : ab_SG} (h : (fw_c b0 ≠ fw_c (-1) → G 81 [some (2, 93, 0), some (0, 0, a1), none] [] σ) ∧ (fw_c b0 = fw_c (-1) → (0 ≤ fw_c 2 ∧ fw_c 2 < ((232 : Nat) : Int)) ∧ (sp_m_findIn [(2, 100, 0), (0, 0, 15), (0, 0, σ 96 (fw_c 2).toNat), (1, 0, σ 93 12)] σ (fun rv σ2 => G 77 [some (2, 93, 0), some (0, 0, a1), none] (rv.toList ++ []) σ2)))) : G 54 [some (2, 93, 0), some (0, 0, a1), none] [(0, 0, b0)] σ := fw_on hG [4, 12, 31, 54, 77, 81, 86, 96, 111] 200 h
theorem fs_m_readNew_86 {G : fw_K} {R : fw_KR} (hG : fw_cls st_m_readNew R G) {a1 b0 : Int} {σ : ab_SG} (h : (fw_c b0 = 0 → (0 ≤ fw_c a1 ∧ fw_c a1 < ((20 : Nat) : Int)) ∧ True ∧ (sp_m_go [(2, 93, 0)] (ab_ups σ 100 (fw_c a1).toNat (fw_d (σ 93 12))) (fun rv σ2 => G 111 [some (2, 93, 0), some (0, 0, a1), some (0, 0, b0)] (rv.toList ++ []) σ2))) ∧ (fw_c b0 ≠ 0 → sp_m_bad [(2, 93, 0), (0, 0, 3)] σ (fun rv σ2 => G 96 [some (2, 93, 0), some (0, 0, a1), some (0, 0, b0)] (rv.toList ++ []) σ2))) : G 86 [some (2, 93, 0), some (0, 0, a1), none] [(0, 0, b0)] σ := fw_on hG [4, 12, 31, 54, 77, 81, 86, 96, 111] 200 h
theorem fs_m_readNew_77 {G : fw_K} {R : fw_KR} (hG : fw_cls st_m_readNew R G) {a1 b0 : Int} {σ : ab_SG} (h : (fw_c b0 = fw_c (-1) → G 86 [some (2, 93, 0), some (0, 0, a1), none] [(0, 0, 0)] σ) ∧ (fw_c b0 ≠ fw_c (-1) → G 81 [some (2, 93, 0), some (0, 0, a1), none] [] σ)) : G 77 [some (2, 93, 0), some (0, 0, a1), none] [(0, 0, b0)] σ := fw_on hG [4, 12, 31, 54, 77, 81, 86, 96, 111] 200 h
theorem fs_m_readNew_111 {G : fw_K} {R : fw_KR} (hG : fw_cls st_m_readNew R G) {a1 a2 : Int} {σ : ab_SG} (h : (0 ≤ fw_c 1 ∧ fw_c 1 ≤ 1) ∧ R (some (0, 0, 1)) σ) : G 111 [some (2, 93, 0), some (0, 0, a1), some (0, 0, a2)] [] σ := fw_on hG [4, 12, 31, 54, 77, 81, 86, 96, 111] 200 h
theorem fs_m_readNew_96 {G : fw_K} {R : fw_KR} (hG : fw_cls st_m_readNew R G) {a1 a2 b0 : Int} {σ : ab_SG} (h : (0 ≤ fw_c b0 ∧ fw_c b0 ≤ 1) ∧ R (some (0, 0, b0)) σ) : G 96 [some (2, 93, 0), some (0, 0, a1), some (0, 0, a2)] [(0, 0, b0)] σ := fw_on hG [4, 12, 31, 54, 77, 81, 86, 96, 111] 200 h
section
variable {l : Launch} {cy : Nat → ClassId} {ad wr cr : Nat → Nat} {D : va_G}
theorem fm_m_isOne (hinj : nn_inj ad) : fw_H l cy ad wr cr D 229 3 sp_m_isOne := fw_mk hinj (⟨"NameNotesModel", "isOne", "(II)Z"⟩, prog_14_method_31_code, 3, (Option.some Jvm.ClassFile.FieldType.boolean), 2, true, 1) rfl rfl nn_KI20_ok nn_KJ20_ok nn_PF20_ok nn_PS20_ok (by decide +kernel) rfl rfl (List.forall_mem_cons.mpr ⟨fw_row nn_PM20_ok (x := 168) (k := 0) (mn := 221) (np := 1) (ob := true) (ci := 11) (⟨"NameNotesModel", "bad", "(I)Z"⟩, prog_14_method_23_code, 2, (Option.some Jvm.ClassFile.FieldType.boolean), 1, true, 1) rfl (by decide +kernel) rfl rfl (by decide) (fun _ => ⟨_, _, rfl⟩) (fm_m_bad hinj), (List.forall_mem_cons.mpr ⟨fw_row nn_PM20_ok (x := 199) (k := 0) (mn := 223) (np := 0) (ob := true) (ci := 11) (⟨"NameNotesModel", "isName", "()Z"⟩, prog_14_method_22_code, 2, (Option.some Jvm.ClassFile.FieldType.boolean), 0, true, 1) rfl (by decide +kernel) rfl rfl (by decide) (fun _ => ⟨_, _, rfl⟩) (fm_m_isName hinj), (List.forall_mem_cons.mpr ⟨fw_row nn_PM20_ok (x := 203) (k := 0) (mn := 224) (np := 4) (ob := false) (ci := 0) (⟨"NameNotesModel", "findIn", "([JIIJ)I"⟩, prog_14_method_29_code, 6, (Option.some Jvm.ClassFile.FieldType.int), 4, false, 0) rfl (by decide +kernel) rfl rfl (by decide) (fun q => by cases q) (fm_m_findIn hinj), (fun _ h => absurd h List.not_mem_nil)⟩)⟩)⟩) (fun as σ K h => by
  obtain ⟨b, k, n, A, e, p, rfl, hn, hm, hr, h0, h1⟩ := h
  have mk := mg_kind hm.1
  have en : ((n.toNat : Nat) : Int) = n := by omega
  have em : fw_c (-1) = -1 := fw_c_id (by decide) (by decide)
  unfold pr_sk at h0 h1
  refine ⟨rfl, fun G hG => fs_m_isOne_0 hG ⟨e, p, rfl, hm.1, fs_m_isOne_4 hG ⟨fun z => ?_, fun z => ?_⟩⟩⟩
  · have hq := fw_bo_ne z
    rw [if_pos hq] at h0 h1
    obtain ⟨-, ok, e12⟩ := hm.1.2.2.2.2.1 hq.1
    have b1 := rf_w_in 7 (tk e p).2.2.2.1
    have hB := rf_B7
    have d1 : fw_d (σ 93 12) = σ 93 12 := by rw [e12]; exact fw_d_id (by omega) (by omega)
    refine ⟨b, n.toNat, _, by rw [en], hn.2.2, d1, rn_can hr, ?_⟩
    have ef : rw_fd (fun j => σ 100 (b + j)) (σ 93 12) n.toNat 0 = pr_ix A e k n p := by
      rw [e12]
      exact rw_rf ok n.toNat 0 (fun j _ hj => hr j (by omega))
    rw [ef]
    have hl := rw_fd_le (A k) (pr_wd e p) n.toNat 0
    replace hl : pr_ix A e k n p < 0 ∨ (((0 : Nat) : Int) ≤ pr_ix A e k n p ∧ pr_ix A e k n p < ((0 : Nat) : Int) + n.toNat) := by
      rcases hl with y | y
      · exact Or.inl y
      · exact Or.inr ⟨y.1, by have := y.2; show rw_fd (A k) (pr_wd e p) n.toNat 0 < _; omega⟩
    have hge : -1 ≤ pr_ix A e k n p := rw_fd_ge _ _ _ _
    generalize pr_ix A e k n p = x at h0 h1 hl hge ⊢
    have ex : fw_c x = x := fw_c_id (by omega) (by omega)
    refine fs_m_isOne_27 hG ?_
    rw [ex, ex, em]
    refine ⟨fun y => ⟨fw_11, ?_⟩, fun y => ?_⟩
    · rw [if_neg (show ¬ x < 0 by omega)] at h1
      exact h1 rfl (by omega) (by omega)
    · rw [if_pos (show x < 0 by omega)] at h0
      have k7 : ab_ups σ 93 13 x 93 7 = σ 93 7 := ab_ups_ne (by decide)
      refine ⟨3, rfl, by decide, by rw [k7]; exact mk.2.2.2.2, fun σ' hM h10 _ => fs_m_isOne_43 hG ⟨fun _ => ⟨fw_01, h0 (by decide) σ' (fw_okM_tr (fw_okM_ups (fw_okM_refl _ _) (by decide)) hM (by decide)) ?_⟩, fun v => absurd fw_c0 v⟩⟩
      rw [h10, k7, if_neg (show ¬ σ 93 7 = 1 by have := mk.1.mpr hq.1; omega)]
  · have hq := fw_bo_eq z
    rw [if_neg hq] at h0
    refine ⟨1, rfl, by decide, mk.2.2.2.2, fun σ' hM h10 _ => fs_m_isOne_12 hG ⟨fw_01, h0 (by decide) σ' (fw_okM_tr (fw_okM_refl _ _) hM (by decide)) ?_⟩⟩
    rw [h10]
    split <;> rfl)
theorem fm_m_readNew (hinj : nn_inj ad) : fw_H l cy ad wr cr D 222 3 sp_m_readNew := fw_mk hinj (⟨"NameNotesModel", "readNew", "(I)Z"⟩, prog_14_method_30_code, 3, (Option.some Jvm.ClassFile.FieldType.boolean), 1, true, 1) rfl rfl nn_KI20_ok nn_KJ20_ok nn_PF20_ok nn_PS20_ok (by decide +kernel) rfl rfl (List.forall_mem_cons.mpr ⟨fw_row nn_PM20_ok (x := 168) (k := 0) (mn := 221) (np := 1) (ob := true) (ci := 11) (⟨"NameNotesModel", "bad", "(I)Z"⟩, prog_14_method_23_code, 2, (Option.some Jvm.ClassFile.FieldType.boolean), 1, true, 1) rfl (by decide +kernel) rfl rfl (by decide) (fun _ => ⟨_, _, rfl⟩) (fm_m_bad hinj), (List.forall_mem_cons.mpr ⟨fw_row nn_PM20_ok (x := 182) (k := 0) (mn := 212) (np := 0) (ob := true) (ci := 11) (⟨"NameNotesModel", "go", "()V"⟩, prog_14_method_17_code, 5, (Option.none : Option Jvm.ClassFile.FieldType), 0, true, 4) rfl (by decide +kernel) rfl rfl (by decide) (fun _ => ⟨_, _, rfl⟩) (fm_m_go hinj), (List.forall_mem_cons.mpr ⟨fw_row nn_PM20_ok (x := 199) (k := 0) (mn := 223) (np := 0) (ob := true) (ci := 11) (⟨"NameNotesModel", "isName", "()Z"⟩, prog_14_method_22_code, 2, (Option.some Jvm.ClassFile.FieldType.boolean), 0, true, 1) rfl (by decide +kernel) rfl rfl (by decide) (fun _ => ⟨_, _, rfl⟩) (fm_m_isName hinj), (List.forall_mem_cons.mpr ⟨fw_row nn_PM20_ok (x := 203) (k := 0) (mn := 224) (np := 4) (ob := false) (ci := 0) (⟨"NameNotesModel", "findIn", "([JIIJ)I"⟩, prog_14_method_29_code, 6, (Option.some Jvm.ClassFile.FieldType.int), 4, false, 0) rfl (by decide +kernel) rfl rfl (by decide) (fun q => by cases q) (fm_m_findIn hinj), (fun _ h => absurd h List.not_mem_nil)⟩)⟩)⟩)⟩) (fun as σ K h => by
  obtain ⟨x, A, e, p, rfl, hx, hm, ⟨⟨c0, c1, c2⟩, ⟨d0, d1, d2⟩, ⟨g0, g1, g2⟩, r1, r2, r3⟩, h0, h1⟩ := h
  have mk := mg_kind hm.1
  have em : fw_c (-1) = -1 := fw_c_id (by decide) (by decide)
  have t0 : (fw_c 0).toNat = 0 := by rw [fw_c0]; rfl
  have t1 : (fw_c 1).toNat = 1 := by rw [fw_c1]; rfl
  have t2 : (fw_c 2).toNat = 2 := by rw [fw_c_id (by decide) (by decide)]; rfl
  have u0 : 0 ≤ fw_c 0 ∧ fw_c 0 < ((232 : Nat) : Int) := by rw [fw_c0]; decide
  have u1 : 0 ≤ fw_c 1 ∧ fw_c 1 < ((232 : Nat) : Int) := by rw [fw_c1]; decide
  have u2 : 0 ≤ fw_c 2 ∧ fw_c 2 < ((232 : Nat) : Int) := by rw [fw_c_id (by decide) (by decide)]; decide
  have ex : fw_c (x : Int) = x := fw_c_id (by omega) (by omega)
  unfold pr_new at h0 h1
  refine ⟨rfl, fun G hG => fs_m_readNew_0 hG ⟨e, p, rfl, hm.1, fs_m_readNew_4 hG ⟨fun z => ⟨u0, ?_⟩, fun z => ?_⟩⟩⟩
  · have hq := fw_bo_ne z
    rw [if_pos hq] at h0 h1
    obtain ⟨-, ok, e12⟩ := hm.1.2.2.2.2.1 hq.1
    have b1 := rf_w_in 7 (tk e p).2.2.2.1
    have hB := rf_B7
    have dw : fw_d (σ 93 12) = σ 93 12 := by rw [e12]; exact fw_d_id (by omega) (by omega)
    have f1 : rw_fd (fun j => σ 100 (0 + j)) (σ 93 12) (A 49 11).toNat 0 = pr_ix A e 57 (A 49 11) p := by
      rw [e12]; exact rw_rf ok _ 0 (fun j _ hj => r1 j (by omega))
    have f2 : rw_fd (fun j => σ 100 (9 + j)) (σ 93 12) (A 49 12).toNat 0 = pr_ix A e 58 (A 49 12) p := by
      rw [e12]; exact rw_rf ok _ 0 (fun j _ hj => r2 j (by omega))
    have f3 : rw_fd (fun j => σ 100 (15 + j)) (σ 93 12) (A 49 13).toNat 0 = pr_ix A e 59 (A 49 13) p := by
      rw [e12]; exact rw_rf ok _ 0 (fun j _ hj => r3 j (by omega))
    have q1 := rw_fd_c (A 57) (pr_wd e p) (A 49 11).toNat (by omega)
    have q2 := rw_fd_c (A 58) (pr_wd e p) (A 49 12).toNat (by omega)
    have q3 := rw_fd_c (A 59) (pr_wd e p) (A 49 13).toNat (by omega)
    replace q1 : fw_c (pr_ix A e 57 (A 49 11) p) = pr_ix A e 57 (A 49 11) p ∧ -1 ≤ pr_ix A e 57 (A 49 11) p := q1
    replace q2 : fw_c (pr_ix A e 58 (A 49 12) p) = pr_ix A e 58 (A 49 12) p ∧ -1 ≤ pr_ix A e 58 (A 49 12) p := q2
    replace q3 : fw_c (pr_ix A e 59 (A 49 13) p) = pr_ix A e 59 (A 49 13) p ∧ -1 ≤ pr_ix A e 59 (A 49 13) p := q3
    have at81 : (0 ≤ pr_ix A e 57 (A 49 11) p ∨ 0 ≤ pr_ix A e 58 (A 49 12) p ∨ 0 ≤ pr_ix A e 59 (A 49 13) p) → G 81 [some (2, 93, 0), some (0, 0, (x : Int)), none] [] σ := fun y => by
      rw [if_pos y] at h0
      refine fs_m_readNew_81 hG (fs_m_readNew_86 hG ⟨fun v => absurd (fw_c1.symm.trans v) (by decide), fun _ => ⟨3, rfl, by decide, mk.2.2.2.2, fun σ' hM h10 _ => fs_m_readNew_96 hG ⟨fw_01, h0 (by decide) σ' (fw_okM_tr (fw_okM_refl _ _) hM (by decide)) ?_⟩⟩⟩)
      rw [h10, if_neg (show ¬ σ 93 7 = 1 by have := mk.1.mpr hq.1; omega)]
    rw [t0, c0]
    refine ⟨0, (A 49 11).toNat, _, by rw [Int.toNat_of_nonneg c1]; rfl, by omega, dw, rn_can r1, ?_⟩
    rw [f1]
    refine fs_m_readNew_31 hG ?_
    rw [q1.1, em]
    refine ⟨fun y => at81 (Or.inl (by omega)), fun y1 => ⟨u1, ?_⟩⟩
    rw [t1, d0]
    refine ⟨9, (A 49 12).toNat, _, by rw [Int.toNat_of_nonneg d1]; rfl, by omega, dw, rn_can r2, ?_⟩
    rw [f2]
    refine fs_m_readNew_54 hG ?_
    rw [q2.1, em]
    refine ⟨fun y => at81 (Or.inr (Or.inl (by omega))), fun y2 => ⟨u2, ?_⟩⟩
    rw [t2, g0]
    refine ⟨15, (A 49 13).toNat, _, by rw [Int.toNat_of_nonneg g1]; rfl, by omega, dw, rn_can r3, ?_⟩
    rw [f3]
    refine fs_m_readNew_77 hG ?_
    rw [q3.1, em]
    refine ⟨fun y3 => ?_, fun y => at81 (Or.inr (Or.inr (by omega)))⟩
    rw [if_neg (show ¬ (0 ≤ pr_ix A e 57 (A 49 11) p ∨ 0 ≤ pr_ix A e 58 (A 49 12) p ∨ 0 ≤ pr_ix A e 59 (A 49 13) p) by omega)] at h1
    refine fs_m_readNew_86 hG ⟨fun _ => ?_, fun v => absurd fw_c0 v⟩
    rw [ex, dw, Int.toNat_natCast]
    refine ⟨⟨Int.natCast_nonneg x, by omega⟩, trivial, mt_go (mt_ups hm (Or.inl ⟨by decide, by decide⟩)) (fun σ' hM hs => fs_m_readNew_111 hG ⟨fw_11, h1 rfl hq.1 ok σ' ?_ hs⟩)⟩
    rw [e12] at hM
    exact hM
  · have hq := fw_bo_eq z
    rw [if_neg hq] at h0
    refine ⟨1, rfl, by decide, mk.2.2.2.2, fun σ' hM h10 _ => fs_m_readNew_12 hG ⟨fw_01, h0 (by decide) σ' (fw_okM_tr (fw_okM_refl _ _) hM (by decide)) ?_⟩⟩
    rw [h10]
    split <;> rfl)
end
