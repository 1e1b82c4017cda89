/-! the reference at a token: steps, numbers, a line's end, names sought -/
/-- the reference stands at token p -/
def mt_is (σ : ab_SG) (e : tk_E) (p : Nat) : Prop := mg_is σ (tk e p) ∧ mg_tp σ e.1 ∧ σ 93 3 = (e.2.1 : Int) ∧ σ 93 4 = e.2.2 ∧ p ≤ e.2.1 ∧ σ 93 10 = 0 ∧ (σ 93 3 ≤ 940 ∧ 0 ≤ σ 93 4 ∧ σ 93 4 ≤ 940)
theorem mg_tp_M {M : ab_ML} {σ σ' : ab_SG} {t : Nat → Int} (h : mg_tp σ t) (hM : ab_okM M σ σ') (hm : M.all (fun q => !(q.1.beq 94)) = true) (h3 : σ' 93 3 = σ 93 3) : mg_tp σ' t := by
  intro j hj
  rw [h3] at hj
  rw [fw_okM_c hM (a := 94) hm]
  exact h j hj
theorem mt_go {σ : ab_SG} {e : tk_E} {p : Nat} {K : fw_KR} (h : mt_is σ e p) (k : ∀ σ' : ab_SG, ab_okM go_M σ σ' → mt_is σ' e (tn e p) → K none σ') : sp_m_go [(2, 93, 0)] σ K := by
  obtain ⟨hm, ht, h3, h4, hp, h10, hb⟩ := h
  have h5 : σ 93 5 = ((tn e p : Nat) : Int) := hm.2.1
  have hn := tn_le hp
  refine ⟨e.1, rfl, ⟨by omega, by omega, hb.1, hb.2.1, hb.2.2⟩, ht, fun σ' hM hs => k σ' hM ⟨?_, mg_tp_M ht hM (by decide) (hM 93 3 (by decide)), (hM 93 3 (by decide)).trans h3, (hM 93 4 (by decide)).trans h4, hn.2, (hM 93 10 (by decide)).trans h10, ?_⟩⟩
  · have e3 : (σ 93 3).toNat = e.2.1 := by omega
    rw [e3, h4, h5, Int.toNat_natCast] at hs
    exact hs
  · rw [hM 93 3 (by decide), hM 93 4 (by decide)]
    exact hb
/-- a number set that no token's field is -/
theorem mt_ups {σ : ab_SG} {e : tk_E} {p k j : Nat} {v : Int} (h : mt_is σ e p) (hk : (k ≠ 93 ∧ k ≠ 94) ∨ (k = 93 ∧ 13 ≤ j)) : mt_is (ab_ups σ k j v) e p := by
  obtain ⟨hm, ht, h3, h4, hp, h10, hb⟩ := h
  have n93 : ∀ b : Nat, b < 13 → ab_ups σ k j v 93 b = σ 93 b := fun b hb => ab_ups_ne (fun z => by rcases hk with q | q; exact q.1 z.1.symm; omega)
  have n94 : ab_ups σ k j v 94 = σ 94 := ab_ups_row (fun z => by rcases hk with q | q; exact q.2 z.symm; omega)
  refine ⟨?_, ?_, (n93 3 (by decide)).trans h3, (n93 4 (by decide)).trans h4, hp, (n93 10 (by decide)).trans h10, ?_⟩
  · unfold mg_is
    rw [n93 6 (by decide), n93 5 (by decide), n93 7 (by decide), n93 12 (by decide), n93 8 (by decide), n93 9 (by decide)]
    exact hm
  · unfold mg_tp
    rw [n93 3 (by decide), n94]
    exact ht
  · rw [n93 3 (by decide), n93 4 (by decide)]
    exact hb
def sp_m_readNumber : fw_SP := fun as σ K => ∃ (a b : Int) (e : tk_E) (p : Nat), as = [(2, 93, 0), (0, 0, a), (0, 0, b)] ∧ (0 ≤ a ∧ a ≤ 24 ∧ 0 ≤ b ∧ b ≤ 24) ∧ mt_is σ e p ∧ (pr_nm e p a b ≠ 0 → md_no σ (pr_nm e p a b) K) ∧
  (pr_nm e p a b = 0 → a ≤ (tk e p).2.2.2.2 → (tk e p).2.2.2.2 ≤ b → ∀ σ' : ab_SG, ab_okM ((93, 13) :: go_M) σ σ' → σ' 93 13 = (tk e p).2.2.2.2 → mt_is σ' e (tn e p) → K (some (0, 0, 1)) σ')
def sp_m_readEnd : fw_SP := fun as σ K => ∃ (e : tk_E) (p : Nat), as = [(2, 93, 0)] ∧ mt_is σ e p ∧ ((tk e p).1 ≠ 59 → md_no σ 1 K) ∧ ((tk e p).1 = 59 → ∀ σ' : ab_SG, ab_okM go_M σ σ' → mt_is σ' e (tn e p) → K (some (0, 0, 1)) σ')
def sp_m_has : fw_SP := fun as σ K => ∃ s x : Int, as = [(0, 0, s), (0, 0, x)] ∧ K (some (0, 0, fw_bo (pr_hs s x = true))) σ
def sp_m_findIn : fw_SP := fun as σ K => ∃ (b n : Nat) (w : Int), as = [(2, 100, 0), (0, 0, (b : Int)), (0, 0, (n : Int)), (1, 0, w)] ∧ b + n ≤ 20 ∧ fw_d w = w ∧ (∀ j : Nat, j < n → fw_d (σ 100 (b + j)) = σ 100 (b + j)) ∧ K (some (0, 0, rw_fd (fun j => σ 100 (b + j)) w n 0)) σ
abbrev fk_m_readNumber : List fw_CR := [(178, 2, true, 11, 1, sp_m_isNumber), (182, 0, true, 11, 1, sp_m_go)]
abbrev st_m_readNumber : fw_K → fw_KR → fw_K := fw_st vwCl nn_sh nn_kd fw_kv fw_wc (nn_KI20.map (fun x => x.1)) (nn_KJ20.map (fun x => x.1)) (nn_PF20.map (fun x => x.1)) (nn_PS20.map (fun x => x.1)) fk_m_readNumber 2 nn_dt227 3 1
theorem fs_m_readNumber_0 {G : fw_K} {R : fw_KR} (hG : fw_cls st_m_readNumber R G) {x y : Int} {σ : ab_SG} (h : sp_m_isNumber [(2, 93, 0), (0, 0, x), (0, 0, y)] σ (fun rv σ2 => G 6 [some (2, 93, 0), some (0, 0, x), some (0, 0, y)] (rv.toList ++ []) σ2)) : G 0 [some (2, 93, 0), some (0, 0, x), some (0, 0, y)] [] σ := fw_on hG [6, 15] 200 h
theorem fs_m_readNumber_6 {G : fw_K} {R : fw_KR} (hG : fw_cls st_m_readNumber R G) {a1 a2 b0 : Int} {σ : ab_SG} (h : (fw_c b0 ≠ 0 → sp_m_go [(2, 93, 0)] σ (fun rv σ2 => G 15 [some (2, 93, 0), some (0, 0, a1), some (0, 0, a2)] (rv.toList ++ []) σ2)) ∧ (fw_c b0 = 0 → (0 ≤ fw_c 0 ∧ fw_c 0 ≤ 1) ∧ R (some (0, 0, 0)) σ)) : G 6 [some (2, 93, 0), some (0, 0, a1), some (0, 0, a2)] [(0, 0, b0)] σ := fw_on hG [6, 15] 200 h
theorem fs_m_readNumber_15 {G : fw_K} {R : fw_KR} (hG : fw_cls st_m_readNumber R G) {a1 a2 : Int} {σ : ab_SG} (h : (0 ≤ fw_c 1 ∧ fw_c 1 ≤ 1) ∧ R (some (0, 0, 1)) σ) : G 15 [some (2, 93, 0), some (0, 0, a1), some (0, 0, a2)] [] σ := fw_on hG [6, 15] 200 h
abbrev fk_m_readEnd : List fw_CR := [(168, 1, true, 11, 0, sp_m_bad), (182, 0, true, 11, 1, sp_m_go), (185, 1, true, 11, 0, sp_m_isSign)]
abbrev st_m_readEnd : fw_K → fw_KR → fw_K := fw_st vwCl nn_sh nn_kd fw_kv fw_wc (nn_KI20.map (fun x => x.1)) (nn_KJ20.map (fun x => x.1)) (nn_PF20.map (fun x => x.1)) (nn_PS20.map (fun x => x.1)) fk_m_readEnd 2 nn_dt235 1 1
theorem fs_m_readEnd_0 {G : fw_K} {R : fw_KR} (hG : fw_cls st_m_readEnd R G) {σ : ab_SG} (h : sp_m_isSign [(2, 93, 0), (0, 0, 59)] σ (fun rv σ2 => G 6 [some (2, 93, 0)] (rv.toList ++ []) σ2)) : G 0 [some (2, 93, 0)] [] σ := fw_on hG [6, 14, 19] 200 h
theorem fs_m_readEnd_6 {G : fw_K} {R : fw_KR} (hG : fw_cls st_m_readEnd R G) {b0 : Int} {σ : ab_SG} (h : (fw_c b0 ≠ 0 → sp_m_go [(2, 93, 0)] σ (fun rv σ2 => G 19 [some (2, 93, 0)] (rv.toList ++ []) σ2)) ∧ (fw_c b0 = 0 → sp_m_bad [(2, 93, 0), (0, 0, 1)] σ (fun rv σ2 => G 14 [some (2, 93, 0)] (rv.toList ++ []) σ2))) : G 6 [some (2, 93, 0)] [(0, 0, b0)] σ := fw_on hG [6, 14, 19] 200 h
theorem fs_m_readEnd_19 {G : fw_K} {R : fw_KR} (hG : fw_cls st_m_readEnd R G) {σ : ab_SG} (h : (0 ≤ fw_c 1 ∧ fw_c 1 ≤ 1) ∧ R (some (0, 0, 1)) σ) : G 19 [some (2, 93, 0)] [] σ := fw_on hG [6, 14, 19] 200 h
theorem fs_m_readEnd_14 {G : fw_K} {R : fw_KR} (hG : fw_cls st_m_readEnd R G) {b0 : Int} {σ : ab_SG} (h : (0 ≤ fw_c b0 ∧ fw_c b0 ≤ 1) ∧ R (some (0, 0, b0)) σ) : G 14 [some (2, 93, 0)] [(0, 0, b0)] σ := fw_on hG [6, 14, 19] 200 h
abbrev fk_m_has : List fw_CR := []
abbrev st_m_has : fw_K → fw_KR → fw_K := fw_st vwCl nn_sh nn_kd fw_kv fw_wc (nn_KI20.map (fun x => x.1)) (nn_KJ20.map (fun x => x.1)) (nn_PF20.map (fun x => x.1)) (nn_PS20.map (fun x => x.1)) fk_m_has 0 nn_dt230 2 1
theorem fs_m_has_0 {G : fw_K} {R : fw_KR} (hG : fw_cls st_m_has R G) {s x : Int} {σ : ab_SG} (h : (fw_c (fw_op 8 (fw_op 6 s x) 1) ≠ fw_c 1 → (0 ≤ fw_c 0 ∧ fw_c 0 ≤ 1) ∧ R (some (0, 0, 0)) σ) ∧ (fw_c (fw_op 8 (fw_op 6 s x) 1) = fw_c 1 → (0 ≤ fw_c 1 ∧ fw_c 1 ≤ 1) ∧ R (some (0, 0, 1)) σ)) : G 0 [some (0, 0, s), some (0, 0, x)] [] σ := fw_on hG [] 200 h
abbrev fk_m_findIn : List fw_CR := []
abbrev st_m_findIn : fw_K → fw_KR → fw_K := fw_st vwCl nn_sh nn_kd fw_kv fw_wc (nn_KI20.map (fun x => x.1)) (nn_KJ20.map (fun x => x.1)) (nn_PF20.map (fun x => x.1)) (nn_PS20.map (fun x => x.1)) fk_m_findIn 0 nn_dt224 6 0
theorem fs_m_findIn_0 {G : fw_K} {R : fw_KR} (hG : fw_cls st_m_findIn R G) {b n w : Int} {σ : ab_SG} (h : G 3 [some (2, 100, 0), some (0, 0, b), some (0, 0, n), some (1, 0, w), none, some (0, 0, 0)] [] σ) : G 0 [some (2, 100, 0), some (0, 0, b), some (0, 0, n), some (1, 0, w), none, none] [] σ := fw_on hG [3] 200 h
theorem fs_m_findIn_3 {G : fw_K} {R : fw_KR} (hG : fw_cls st_m_findIn R G) {a1 a2 a3 a5 : Int} {σ : ab_SG} (h : (fw_c a2 ≤ fw_c a5 → R (some (0, 0, (-1))) σ) ∧ (fw_c a5 < fw_c a2 → (0 ≤ fw_c (a1 + a5) ∧ fw_c (a1 + a5) < ((20 : Nat) : Int)) ∧ ((fw_d (σ 100 (fw_c (a1 + a5)).toNat) ≠ fw_d a3 → G 3 [some (2, 100, 0), some (0, 0, a1), some (0, 0, a2), some (1, 0, a3), none, some (0, 0, a5 + 1)] [] σ) ∧ (fw_d (σ 100 (fw_c (a1 + a5)).toNat) = fw_d a3 → R (some (0, 0, a5)) σ)))) : G 3 [some (2, 100, 0), some (0, 0, a1), some (0, 0, a2), some (1, 0, a3), none, some (0, 0, a5)] [] σ := fw_on hG [3] 200 h
section
variable {l : Launch} {cy : Nat → ClassId} {ad wr cr : Nat → Nat} {D : va_G}
theorem fm_m_readNumber (hinj : nn_inj ad) : fw_H l cy ad wr cr D 227 2 sp_m_readNumber := fw_mk hinj (⟨"NameNotesModel", "readNumber", "(II)Z"⟩, prog_14_method_25_code, 3, (Option.some Jvm.ClassFile.FieldType.boolean), 2, true, 1) rfl rfl nn_KI20_ok nn_KJ20_ok nn_PF20_ok nn_PS20_ok (by decide +kernel) rfl rfl (List.forall_mem_cons.mpr ⟨fw_row nn_PM20_ok (x := 178) (k := 0) (mn := 225) (np := 2) (ob := true) (ci := 11) (⟨"NameNotesModel", "isNumber", "(II)Z"⟩, prog_14_method_24_code, 3, (Option.some Jvm.ClassFile.FieldType.boolean), 2, true, 1) rfl (by decide +kernel) rfl rfl (by decide) (fun _ => ⟨_, _, rfl⟩) (fm_m_isNumber hinj), (List.forall_mem_cons.mpr ⟨fw_row nn_PM20_ok (x := 182) (k := 0) (mn := 212) (np := 0) (ob := true) (ci := 11) (⟨"NameNotesModel", "go", "()V"⟩, prog_14_method_17_code, 5, (Option.none : Option Jvm.ClassFile.FieldType), 0, true, 4) rfl (by decide +kernel) rfl rfl (by decide) (fun _ => ⟨_, _, rfl⟩) (fm_m_go hinj), (fun _ h => absurd h List.not_mem_nil)⟩)⟩) (fun as σ K h => by
  obtain ⟨a, b, e, p, rfl, hab, hm, h0, h1⟩ := h
  refine ⟨rfl, fun G hG => fs_m_readNumber_0 hG ⟨a, b, e, p, rfl, hab, hm.1, fun q σ' hM h10 => ?_, fun q qa qb => ?_⟩⟩
  · exact fs_m_readNumber_6 hG ⟨fun z => absurd fw_c0 z, fun _ => ⟨fw_01, h0 q σ' hM h10⟩⟩
  · refine fs_m_readNumber_6 hG ⟨fun _ => mt_go (mt_ups hm (Or.inr ⟨rfl, Nat.le_refl _⟩)) (fun σ' hM hs => fs_m_readNumber_15 hG ⟨fw_11, h1 q qa qb σ' ?_ ?_ hs⟩), fun z => absurd (fw_c1.symm.trans z) (by decide)⟩
    · exact fw_okM_tr (fw_okM_ups (fw_okM_refl _ _) (by decide)) hM (by decide)
    · exact (hM 93 13 (by decide)).trans ab_ups_eq)
theorem fm_m_readEnd (hinj : nn_inj ad) : fw_H l cy ad wr cr D 235 2 sp_m_readEnd := fw_mk hinj (⟨"NameNotesModel", "readEnd", "()Z"⟩, prog_14_method_26_code, 1, (Option.some Jvm.ClassFile.FieldType.boolean), 0, true, 1) rfl rfl nn_KI20_ok nn_KJ20_ok nn_PF20_ok nn_PS20_ok (by decide +kernel) rfl rfl (List.forall_mem_cons.mpr ⟨fw_row nn_PM20_ok (x := 168) (k := 0) (mn := 221) (np := 1) (ob := true) (ci := 11) (⟨"NameNotesModel", "bad", "(I)Z"⟩, prog_14_method_23_code, 2, (Option.some Jvm.ClassFile.FieldType.boolean), 1, true, 1) rfl (by decide +kernel) rfl rfl (by decide) (fun _ => ⟨_, _, rfl⟩) (fm_m_bad hinj), (List.forall_mem_cons.mpr ⟨fw_row nn_PM20_ok (x := 182) (k := 0) (mn := 212) (np := 0) (ob := true) (ci := 11) (⟨"NameNotesModel", "go", "()V"⟩, prog_14_method_17_code, 5, (Option.none : Option Jvm.ClassFile.FieldType), 0, true, 4) rfl (by decide +kernel) rfl rfl (by decide) (fun _ => ⟨_, _, rfl⟩) (fm_m_go hinj), (List.forall_mem_cons.mpr ⟨fw_row nn_PM20_ok (x := 185) (k := 0) (mn := 236) (np := 1) (ob := true) (ci := 11) (⟨"NameNotesModel", "isSign", "(I)Z"⟩, prog_14_method_21_code, 2, (Option.some Jvm.ClassFile.FieldType.boolean), 1, true, 1) rfl (by decide +kernel) rfl rfl (by decide) (fun _ => ⟨_, _, rfl⟩) (fm_m_isSign hinj), (fun _ h => absurd h List.not_mem_nil)⟩)⟩)⟩) (fun as σ K h => by
  obtain ⟨e, p, rfl, hm, h0, h1⟩ := h
  have mk := mg_kind hm.1
  refine ⟨rfl, fun G hG => fs_m_readEnd_0 hG ⟨59, e, p, rfl, Or.inl rfl, hm.1, fs_m_readEnd_6 hG ⟨fun z => ?_, fun z => ?_⟩⟩⟩
  · exact mt_go hm (fun σ' hM hs => fs_m_readEnd_19 hG ⟨fw_11, h1 (fw_bo_ne z) σ' hM hs⟩)
  · refine ⟨1, rfl, by decide, mk.2.2.2.2, fun σ' hM h10 _ => fs_m_readEnd_14 hG ⟨fw_01, h0 (fw_bo_eq z) σ' (fw_okM_tr (fw_okM_refl _ _) hM (by decide)) ?_⟩⟩
    rw [h10]
    split <;> rfl)
theorem fm_m_has (hinj : nn_inj ad) : fw_H l cy ad wr cr D 230 0 sp_m_has := fw_mk hinj (⟨"NameNotesModel", "has", "(II)Z"⟩, prog_14_method_9_code, 2, (Option.some Jvm.ClassFile.FieldType.boolean), 2, false, 1) rfl rfl nn_KI20_ok nn_KJ20_ok nn_PF20_ok nn_PS20_ok (by decide +kernel) rfl rfl (fun _ h => absurd h List.not_mem_nil) (fun as σ K h => by
  obtain ⟨s, x, rfl, h⟩ := h
  refine ⟨rfl, fun G hG => fs_m_has_0 hG ?_⟩
  rw [fw_c1]
  unfold pr_hs at h
  refine ⟨fun q => ⟨fw_01, ?_⟩, fun q => ⟨by decide, ?_⟩⟩
  · rw [fw_bo_f (fun z => q (of_decide_eq_true z))] at h; exact h
  · rw [fw_bo_t (decide_eq_true q)] at h; exact h)
theorem fm_m_findIn (hinj : nn_inj ad) : fw_H l cy ad wr cr D 224 0 sp_m_findIn := fw_mk hinj (⟨"NameNotesModel", "findIn", "([JIIJ)I"⟩, prog_14_method_29_code, 6, (Option.some Jvm.ClassFile.FieldType.int), 4, false, 0) rfl rfl nn_KI20_ok nn_KJ20_ok nn_PF20_ok nn_PS20_ok (by decide +kernel) rfl rfl (fun _ h => absurd h List.not_mem_nil) (fun as σ K h => by
  obtain ⟨b, n, w, rfl, hbn, hw, hd, h⟩ := h
  have en : fw_c (n : Int) = n := fw_c_id (by omega) (by omega)
  refine ⟨rfl, fun G hG => fs_m_findIn_0 hG ?_⟩
  have key : ∀ (f i : Nat), i + f = n → K (some (0, 0, rw_fd (fun j => σ 100 (b + j)) w f i)) σ → G 3 [some (2, 100, 0), some (0, 0, (b : Int)), some (0, 0, (n : Int)), some (1, 0, w), none, some (0, 0, (i : Int))] [] σ := by
    intro f
    induction f with
    | zero =>
      intro i hi q
      have ei : fw_c (i : Int) = i := fw_c_id (by omega) (by omega)
      refine fs_m_findIn_3 hG ?_
      rw [en, ei]
      exact ⟨fun _ => q, fun z => absurd z (by omega)⟩
    | succ f ih =>
      intro i hi q
      have ei : fw_c (i : Int) = i := fw_c_id (by omega) (by omega)
      have ebi : fw_c ((b : Int) + i) = ((b + i : Nat) : Int) := by rw [fw_c_id (by omega) (by omega)]; omega
      replace q : K (some (0, 0, if σ 100 (b + i) = w then (i : Int) else rw_fd (fun j => σ 100 (b + j)) w f (i + 1))) σ := q
      refine fs_m_findIn_3 hG ?_
      rw [en, ei, ebi, Int.toNat_natCast, hd i (by omega), hw]
      refine ⟨fun z => absurd z (by omega), fun _ => ⟨⟨Int.natCast_nonneg _, by omega⟩, fun z => ?_, fun z => ?_⟩⟩
      · rw [if_neg z] at q
        exact ih (i + 1) (by omega) q
      · rw [if_pos z] at q
        exact q
  exact key n 0 (by omega) h)
end
