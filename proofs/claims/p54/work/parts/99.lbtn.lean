/-! a byte of the last text; the last text is the same on both sides -/
def xs (k j : Nat) : Prop := (k = 88 ∧ j < 200) ∨ (k = 113 ∧ j < 200) ∨ (k = 87 ∧ j = 1) ∨ (k = 93 ∧ j = 39)
def xs_c (M : ab_ML) : Bool := M.all (fun q => !(q.1.beq 113)) && mk_b M 93 39
def xs_m (M : ab_ML) : Bool := M.all (fun q => !(q.1.beq 88)) && mk_b M 87 1
def xs_b (M : ab_ML) : Bool := xs_c M && xs_m M
theorem xs_cr {M : ab_ML} (h : xs_c M = true) : M.all (fun q => !(q.1.beq 113)) = true ∧ mk_b M 93 39 = true := by
  unfold xs_c at h
  rw [Bool.and_eq_true] at h
  exact h
theorem xs_mr {M : ab_ML} (h : xs_m M = true) : M.all (fun q => !(q.1.beq 88)) = true ∧ mk_b M 87 1 = true := by
  unfold xs_m at h
  rw [Bool.and_eq_true] at h
  exact h
theorem xs_ok {M : ab_ML} {σ σ' : ab_SG} (h : ab_okM M σ σ') (hk : xs_b M = true) {k j : Nat} (hs : xs k j) : σ' k j = σ k j := by
  unfold xs_b at hk
  rw [Bool.and_eq_true] at hk
  have c := xs_cr hk.1
  have m := xs_mr hk.2
  rcases hs with ⟨rfl, -⟩ | ⟨rfl, -⟩ | ⟨rfl, rfl⟩ | ⟨rfl, rfl⟩
  · exact mk_row h m.1 j
  · exact mk_row h c.1 j
  · exact mk_at h m.2
  · exact mk_at h c.2
theorem xs_rg : (su_b 88 0 199 && su_b 113 0 199 && su_b 87 1 1 && su_b 93 39 39) = true := by decide +kernel
theorem xs_cn {σ : ab_SG} (h : ab_okR nn_T σ) {k j : Nat} (hs : xs k j) : fw_c (σ k j) = σ k j := by
  have g := xs_rg
  rw [Bool.and_eq_true, Bool.and_eq_true, Bool.and_eq_true] at g
  rcases hs with ⟨rfl, h1⟩ | ⟨rfl, h1⟩ | ⟨rfl, rfl⟩ | ⟨rfl, rfl⟩
  · exact su_b_ok g.1.1.1 h (Nat.zero_le j) (by omega)
  · exact su_b_ok g.1.1.2 h (Nat.zero_le j) (by omega)
  · exact su_b_ok g.1.2 h (Nat.le_refl 1) (Nat.le_refl 1)
  · exact su_b_ok g.2 h (Nat.le_refl 39) (Nat.le_refl 39)
theorem xs_93 {σ : ab_SG} (h : ab_okR nn_T σ) : 0 ≤ σ 93 39 ∧ σ 93 39 ≤ 200 := ab_rdT_ok (r := (0, 200)) (k := 93) (a := 39) (b := 39) (j := 39) h (by decide +kernel) (Nat.le_refl 39) (Nat.le_refl 39)
theorem xv_of {cy : Nat → ClassId} {ad wr : Nat → Nat} {D : va_G} {σ σ' : ab_SG} {H : Heap} (hR : ab_okR nn_T σ) (h : va_P D vwCl (ab_WD cy ad wr nn_sh σ) H) (h' : va_P D vwCl (ab_WD cy ad wr nn_sh σ') H) : ∀ k j : Nat, xs k j → σ k j = fw_c (σ' k j) := by
  intro k j hs
  rw [← xs_cn hR hs]
  rcases hs with ⟨rfl, h1⟩ | ⟨rfl, h1⟩ | ⟨rfl, rfl⟩ | ⟨rfl, rfl⟩
  · exact wd_arr h h' (k := 88) (t := 0) (n := 200) rfl (by decide) h1
  · exact wd_arr h h' (k := 113) (t := 0) (n := 200) rfl (by decide) h1
  · exact wd_int h h' (k := 87) (j := 1) rfl rfl rfl (by decide)
  · exact wd_int h h' (k := 93) (j := 39) rfl rfl rfl (by decide)
def EX (σ : ab_SG) : Prop := (σ 87 1 = σ 93 39 ∧ (0 ≤ σ 93 39 ∧ σ 93 39 ≤ 200)) ∧ ∀ j : Nat, j < 200 → (j : Int) < σ 93 39 → σ 88 j = σ 113 j
def RX (σ : ab_SG) : Prop := RQ σ ∧ EX σ
theorem xs87 : xs 87 1 := Or.inr (Or.inr (Or.inl ⟨rfl, rfl⟩))
theorem xs93 : xs 93 39 := Or.inr (Or.inr (Or.inr ⟨rfl, rfl⟩))
theorem xs88 {j : Nat} (h : j < 200) : xs 88 j := Or.inl ⟨rfl, h⟩
theorem xs113 {j : Nat} (h : j < 200) : xs 113 j := Or.inr (Or.inl ⟨rfl, h⟩)
theorem EX_cg {σ σ' : ab_SG} (h : ∀ k j : Nat, xs k j → σ' k j = σ k j) (hE : EX σ) : EX σ' := by
  obtain ⟨⟨a, b⟩, c⟩ := hE
  refine ⟨⟨by rw [h 87 1 xs87, h 93 39 xs93, a], by rw [h 93 39 xs93]; exact b⟩, fun j hj g => ?_⟩
  rw [h 93 39 xs93] at g
  rw [h 88 j (xs88 hj), h 113 j (xs113 hj), c j hj g]
def bt_v (n : Int) (t : Nat → Int) (w : Int) : Int := if 0 ≤ w ∧ w < n then t w.toNat else -1
theorem EX_own {σ σ3 : ab_SG} (hE : EX σ) (h3 : ∀ k j : Nat, xs k j → σ3 k j = σ k j) (w : Int) : bt_v (σ 87 1) (σ 88) w = bt_v (σ3 93 39) (σ3 113) w := by
  obtain ⟨⟨a, b⟩, c⟩ := hE
  unfold bt_v
  rw [h3 93 39 xs93, a]
  by_cases hw : 0 ≤ w ∧ w < σ 93 39
  · rw [if_pos hw, if_pos hw, h3 113 w.toNat (xs113 (by omega)), c w.toNat (by omega) (by omega)]
  · rw [if_neg hw, if_neg hw]
theorem fw_c_le {x : Nat} : fw_c (x : Int) ≤ (x : Int) := by
  by_cases h : x < 2147483648
  · rw [fw_c_id (by omega) (by omega)]
    exact Int.le_refl _
  · have := (fw_c_in (x : Int)).2
    omega
def tx_C (ok : Prop) (T : List Int) (σ σ' : ab_SG) : Prop := (ok → TXc σ' T) ∧ (¬ ok → σ' = σ)
def tx_R (ok : Prop) (T : List Int) (σ σ' : ab_SG) : Prop := (ok → TXm σ' T) ∧ (¬ ok → σ' = ab_ups σ 93 0 0)
theorem EX_tx {ok : Prop} {T : List Int} {σ σf σ3 σf2 σ5 : ab_SG} (hE : EX σ) (hn : ∀ k j : Nat, xs k j → fw_c (σ k j) = σ k j) (hn3 : ∀ k j : Nat, xs k j → fw_c (σ3 k j) = σ3 k j) (b5 : 0 ≤ σ5 93 39 ∧ σ5 93 39 ≤ 200) (c : tx_C ok T σ σf) (x3 : ∀ k j : Nat, xs k j → σ3 k j = fw_c (σf k j)) (r : tx_R ok T σ3 σf2) (x5 : ∀ k j : Nat, xs k j → σ5 k j = fw_c (σf2 k j)) (f5 : ∀ w : Nat, σ5 88 w = σ3 88 w) (g5 : σ5 87 1 = σ3 87 1) : EX σ5 := by
  by_cases b : ok
  · obtain ⟨c1, c2⟩ := c.1 b
    obtain ⟨r1, r2⟩ := r.1 b
    have e1 : σ5 87 1 = fw_c (T.length : Int) := by rw [g5, x3 87 1 xs87, c1]
    have e2 : σ5 93 39 = fw_c (T.length : Int) := by rw [x5 93 39 xs93, r1]
    refine ⟨⟨e1.trans e2.symm, b5⟩, fun j hj g => ?_⟩
    have l := fw_c_le (x := T.length)
    rw [e2] at g
    rw [f5 j, x3 88 j (xs88 hj), c2 j (by omega), x5 113 j (xs113 hj), r2 j (by omega)]
  · have e3 : ∀ k j : Nat, xs k j → σ3 k j = σ k j := fun k j hs => by rw [x3 k j hs, c.2 b, hn k j hs]
    have e5 : ∀ k j : Nat, xs k j → σ5 k j = σ3 k j := fun k j hs => by
      rw [x5 k j hs, r.2 b, ab_ups_ne (fun y => ?_), hn3 k j hs]
      unfold xs at hs
      omega
    exact EX_cg (fun k j hs => (e5 k j hs).trans (e3 k j hs)) hE
def sp_byteAt : fw_SP := fun as σ K => ∃ w : Int, as = [(2, 0, 0), (0, 0, w)] ∧ fw_c w = w ∧ (fw_c (σ 87 1) = σ 87 1 ∧ σ 87 1 ≤ 200) ∧ K (some (0, 0, bt_v (σ 87 1) (σ 88) w)) σ
def sp_m_byteAt : fw_SP := fun as σ K => ∃ w : Int, as = [(2, 93, 0), (0, 0, w)] ∧ fw_c w = w ∧ (fw_c (σ 93 39) = σ 93 39 ∧ σ 93 39 ≤ 200) ∧ K (some (0, 0, bt_v (σ 93 39) (σ 113) w)) (ab_ups σ 93 0 0)
abbrev fk_at88 : List fw_CR := []
abbrev st_at88 : fw_K → fw_KR → fw_K := fw_st vwCl nn_sh nn_kd fw_kv fw_wc (nn_KI1.map (fun x => x.1)) (nn_KJ1.map (fun x => x.1)) (nn_PF1.map (fun x => x.1)) (nn_PS1.map (fun x => x.1)) fk_at88 0 nn_dt29 2 0
theorem fs_at88_0 {G : fw_K} {R : fw_KR} (hG : fw_cls st_at88 R G) {x : Int} {σ : ab_SG} (h : (fw_c x < 0 → R (some (0, 0, 0)) σ) ∧ (0 ≤ fw_c x → (fw_c ((200 : Nat) : Int) ≤ fw_c x → R (some (0, 0, 0)) σ) ∧ (fw_c x < fw_c ((200 : Nat) : Int) → (0 ≤ fw_c x ∧ fw_c x < ((200 : Nat) : Int)) ∧ (R (some (0, 0, σ 88 (fw_c x).toNat)) σ)))) : G 0 [some (2, 88, 0), some (0, 0, x)] [] σ := fw_on hG [] 200 h
abbrev fk_byteAt : List fw_CR := [(180, 2, false, 0, 0, sp_at88)]
abbrev st_byteAt : fw_K → fw_KR → fw_K := fw_st vwCl nn_sh nn_kd fw_kv fw_wc (nn_KI1.map (fun x => x.1)) (nn_KJ1.map (fun x => x.1)) (nn_PF1.map (fun x => x.1)) (nn_PS1.map (fun x => x.1)) fk_byteAt 1 nn_dt171 2 0
theorem fs_byteAt_0 {G : fw_K} {R : fw_KR} (hG : fw_cls st_byteAt R G) {i : Int} {σ : ab_SG} (h : (fw_c i < 0 → R (some (0, 0, (-1))) σ) ∧ (0 ≤ fw_c i → (fw_c (σ 87 1) ≤ fw_c i → R (some (0, 0, (-1))) σ) ∧ (fw_c i < fw_c (σ 87 1) → sp_at88 [(2, 88, 0), (0, 0, i)] σ (fun rv σ2 => G 26 [some (2, 0, 0), some (0, 0, i)] (rv.toList ++ []) σ2)))) : G 0 [some (2, 0, 0), some (0, 0, i)] [] σ := fw_on hG [26] 200 h
theorem fs_byteAt_26 {G : fw_K} {R : fw_KR} (hG : fw_cls st_byteAt R G) {a1 b0 : Int} {σ : ab_SG} (h : R (some (0, 0, b0)) σ) : G 26 [some (2, 0, 0), some (0, 0, a1)] [(0, 0, b0)] σ := fw_on hG [26] 200 h
abbrev fk_m_byteAt : List fw_CR := []
abbrev st_m_byteAt : fw_K → fw_KR → fw_K := fw_st vwCl nn_sh nn_kd fw_kv fw_wc (nn_KI20.map (fun x => x.1)) (nn_KJ20.map (fun x => x.1)) (nn_PF20.map (fun x => x.1)) (nn_PS20.map (fun x => x.1)) fk_m_byteAt 0 nn_dt313 2 0
theorem fs_m_byteAt_0 {G : fw_K} {R : fw_KR} (hG : fw_cls st_m_byteAt R G) {i : Int} {σ : ab_SG} (h : (fw_c i < 0 → R (some (0, 0, (-1))) (ab_ups σ 93 0 (fw_c 0))) ∧ (0 ≤ fw_c i → (fw_c (σ 93 39) ≤ fw_c i → R (some (0, 0, (-1))) (ab_ups σ 93 0 (fw_c 0))) ∧ (fw_c i < fw_c (σ 93 39) → (0 ≤ fw_c i ∧ fw_c i < ((200 : Nat) : Int)) ∧ (R (some (0, 0, σ 113 (fw_c i).toNat)) (ab_ups σ 93 0 (fw_c 0)))))) : G 0 [some (2, 93, 0), some (0, 0, i)] [] σ := fw_on hG [] 200 h
section
variable {l : Launch} {cy : Nat → ClassId} {ad wr cr : Nat → Nat} {D : va_G}
theorem fm_at88 (hinj : nn_inj ad) : fw_H l cy ad wr cr D 29 0 (at_k 88 200) := fw_mk hinj (⟨"NameNotes", "at", "([II)I"⟩, prog_1_method_84_code, 2, (Option.some Jvm.ClassFile.FieldType.int), 2, false, 0) rfl rfl nn_KI1_ok nn_KJ1_ok nn_PF1_ok nn_PS1_ok (by decide +kernel) rfl rfl (fun _ h => absurd h List.not_mem_nil) (fun as σ K h => by
  obtain ⟨x, rfl, h1, h2⟩ := h
  exact ⟨rfl, fun G hG => at_gen (k := 88) (n := 200) (K := K) (σ := σ) (x := x) (by decide) (fs_at88_0 hG) h1 h2⟩)
theorem fm_byteAt (hinj : nn_inj ad) : fw_H l cy ad wr cr D 171 1 sp_byteAt := fw_mk hinj (⟨"NameNotes", "byteAt", "(I)I"⟩, prog_1_method_54_code, 2, (Option.some Jvm.ClassFile.FieldType.int), 1, true, 0) rfl rfl nn_KI1_ok nn_KJ1_ok nn_PF1_ok nn_PS1_ok (by decide +kernel) rfl rfl (List.forall_mem_cons.mpr ⟨fw_row nn_PM1_ok (x := 180) (k := 0) (mn := 29) (np := 2) (ob := false) (ci := 0) (⟨"NameNotes", "at", "([II)I"⟩, prog_1_method_84_code, 2, (Option.some Jvm.ClassFile.FieldType.int), 2, false, 0) rfl (by decide +kernel) rfl rfl (by decide) (fun q => by cases q) (fm_at88 hinj), (fun _ h => absurd h List.not_mem_nil)⟩) (fun as σ K h => by
  obtain ⟨w, rfl, ew, ⟨e87, l87⟩, h⟩ := h
  unfold bt_v at h
  refine ⟨rfl, fun G hG => fs_byteAt_0 hG ?_⟩
  rw [ew, e87]
  refine ⟨fun y => ?_, fun y => ⟨fun z => ?_, fun z => ?_⟩⟩
  · rw [if_neg (by omega)] at h
    exact h
  · rw [if_neg (by omega)] at h
    exact h
  · rw [if_pos ⟨y, z⟩] at h
    refine ⟨w, rfl, fun _ => fs_byteAt_26 hG ?_, fun u => absurd (by rw [ew]; exact ⟨y, by show w < (200 : Int); omega⟩) u⟩
    rw [ew]
    exact h)
theorem fm_m_byteAt (hinj : nn_inj ad) : fw_H l cy ad wr cr D 313 0 sp_m_byteAt := fw_mk hinj (⟨"NameNotesModel", "byteAt", "(I)I"⟩, prog_14_method_111_code, 2, (Option.some Jvm.ClassFile.FieldType.int), 1, true, 0) rfl rfl nn_KI20_ok nn_KJ20_ok nn_PF20_ok nn_PS20_ok (by decide +kernel) rfl rfl (fun _ h => absurd h List.not_mem_nil) (fun as σ K h => by
  obtain ⟨w, rfl, ew, ⟨e93, l93⟩, h⟩ := h
  unfold bt_v at h
  refine ⟨rfl, fun G hG => fs_m_byteAt_0 hG ?_⟩
  rw [ew, e93, fw_c0]
  refine ⟨fun y => ?_, fun y => ⟨fun z => ?_, fun z => ⟨⟨y, by show w < (200 : Int); omega⟩, ?_⟩⟩⟩
  · rw [if_neg (by omega)] at h
    exact h
  · rw [if_neg (by omega)] at h
    exact h
  · rw [if_pos ⟨y, z⟩] at h
    exact h)
end
