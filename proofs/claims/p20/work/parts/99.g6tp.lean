/-! the class's tape: its small methods -/
abbrev fk_isBlank : List fw_CR := []
abbrev st_isBlank : fw_K → fw_KR → fw_K := fw_st vwCl nn_sh nn_kd fw_kv fw_wc (nn_KI2.map (fun x => x.1)) (nn_KJ2.map (fun x => x.1)) (nn_PF2.map (fun x => x.1)) (nn_PS2.map (fun x => x.1)) fk_isBlank 0 nn_dt12 1 1
theorem fs_isBlank_0 {G : fw_K} {R : fw_KR} (hG : fw_cls st_isBlank R G) {x : Int} {σ : ab_SG} (h : (fw_c x = fw_c 32 → (0 ≤ fw_c 1 ∧ fw_c 1 ≤ 1) ∧ R (some (0, 0, 1)) σ) ∧ (fw_c x ≠ fw_c 32 → (fw_c x ≠ fw_c 10 → (0 ≤ fw_c 0 ∧ fw_c 0 ≤ 1) ∧ R (some (0, 0, 0)) σ) ∧ (fw_c x = fw_c 10 → (0 ≤ fw_c 1 ∧ fw_c 1 ≤ 1) ∧ R (some (0, 0, 1)) σ))) : G 0 [some (0, 0, x)] [] σ := fw_on hG [] 200 h
abbrev fk_isLetter : List fw_CR := []
abbrev st_isLetter : fw_K → fw_KR → fw_K := fw_st vwCl nn_sh nn_kd fw_kv fw_wc (nn_KI2.map (fun x => x.1)) (nn_KJ2.map (fun x => x.1)) (nn_PF2.map (fun x => x.1)) (nn_PS2.map (fun x => x.1)) fk_isLetter 0 nn_dt13 1 1
theorem fs_isLetter_0 {G : fw_K} {R : fw_KR} (hG : fw_cls st_isLetter R G) {x : Int} {σ : ab_SG} (h : (fw_c x < fw_c 97 → (0 ≤ fw_c 0 ∧ fw_c 0 ≤ 1) ∧ R (some (0, 0, 0)) σ) ∧ (fw_c 97 ≤ fw_c x → (fw_c 122 < fw_c x → (0 ≤ fw_c 0 ∧ fw_c 0 ≤ 1) ∧ R (some (0, 0, 0)) σ) ∧ (fw_c x ≤ fw_c 122 → (0 ≤ fw_c 1 ∧ fw_c 1 ≤ 1) ∧ R (some (0, 0, 1)) σ))) : G 0 [some (0, 0, x)] [] σ := fw_on hG [] 200 h
abbrev fk_isDigit : List fw_CR := []
abbrev st_isDigit : fw_K → fw_KR → fw_K := fw_st vwCl nn_sh nn_kd fw_kv fw_wc (nn_KI2.map (fun x => x.1)) (nn_KJ2.map (fun x => x.1)) (nn_PF2.map (fun x => x.1)) (nn_PS2.map (fun x => x.1)) fk_isDigit 0 nn_dt14 1 1
theorem fs_isDigit_0 {G : fw_K} {R : fw_KR} (hG : fw_cls st_isDigit R G) {x : Int} {σ : ab_SG} (h : (fw_c x < fw_c 48 → (0 ≤ fw_c 0 ∧ fw_c 0 ≤ 1) ∧ R (some (0, 0, 0)) σ) ∧ (fw_c 48 ≤ fw_c x → (fw_c 57 < fw_c x → (0 ≤ fw_c 0 ∧ fw_c 0 ≤ 1) ∧ R (some (0, 0, 0)) σ) ∧ (fw_c x ≤ fw_c 57 → (0 ≤ fw_c 1 ∧ fw_c 1 ≤ 1) ∧ R (some (0, 0, 1)) σ))) : G 0 [some (0, 0, x)] [] σ := fw_on hG [] 200 h
abbrev fk_look : List fw_CR := []
abbrev st_look : fw_K → fw_KR → fw_K := fw_st vwCl nn_sh nn_kd fw_kv fw_wc (nn_KI2.map (fun x => x.1)) (nn_KJ2.map (fun x => x.1)) (nn_PF2.map (fun x => x.1)) (nn_PS2.map (fun x => x.1)) fk_look 0 nn_dt11 2 0
theorem fs_look_0 {G : fw_K} {R : fw_KR} (hG : fw_cls st_look R G) {x : Int} {σ : ab_SG} (h : (fw_c x < 0 → R (some (0, 0, 0)) σ) ∧ (0 ≤ fw_c x → (fw_c (σ 1 1) ≤ fw_c x → R (some (0, 0, 0)) σ) ∧ (fw_c x < fw_c (σ 1 1) → (fw_c ((940 : Nat) : Int) ≤ fw_c x → R (some (0, 0, 0)) σ) ∧ (fw_c x < fw_c ((940 : Nat) : Int) → (0 ≤ fw_c x ∧ fw_c x < ((940 : Nat) : Int)) ∧ (R (some (0, 0, fw_op 8 (σ 2 (fw_c x).toNat) 255)) σ))))) : G 0 [some (2, 1, 0), some (0, 0, x)] [] σ := fw_on hG [] 200 h
section
variable {l : Launch} {cy : Nat → ClassId} {ad wr cr : Nat → Nat} {D : va_G}
theorem fm_isBlank (hinj : nn_inj ad) : fw_H l cy ad wr cr D 12 0 sp_isBlank := fw_mk hinj (⟨"NameNotes$Tape", "isBlank", "(I)Z"⟩, prog_10_method_16_code, 1, (Option.some Jvm.ClassFile.FieldType.boolean), 1, false, 1) rfl rfl nn_KI2_ok nn_KJ2_ok nn_PF2_ok nn_PS2_ok (by decide +kernel) rfl rfl (fun _ h => absurd h List.not_mem_nil) (fun as σ K h => by
  obtain ⟨x, rfl, h⟩ := h
  refine ⟨rfl, fun G hG => fs_isBlank_0 hG ?_⟩
  have e1 : fw_c 32 = 32 := fw_c_id (by decide) (by decide)
  have e2 : fw_c 10 = 10 := fw_c_id (by decide) (by decide)
  rw [e1, e2]
  refine ⟨fun q => ⟨fw_11, ?_⟩, fun q => ⟨fun q2 => ⟨fw_01, ?_⟩, fun q2 => ⟨fw_11, ?_⟩⟩⟩
  · rw [fw_bo_t (Or.inl q)] at h; exact h
  · rw [fw_bo_f (fun z => z.elim q q2)] at h; exact h
  · rw [fw_bo_t (Or.inr q2)] at h; exact h)
theorem fm_isLetter (hinj : nn_inj ad) : fw_H l cy ad wr cr D 13 0 sp_isLetter := fw_mk hinj (⟨"NameNotes$Tape", "isLetter", "(I)Z"⟩, prog_10_method_17_code, 1, (Option.some Jvm.ClassFile.FieldType.boolean), 1, false, 1) rfl rfl nn_KI2_ok nn_KJ2_ok nn_PF2_ok nn_PS2_ok (by decide +kernel) rfl rfl (fun _ h => absurd h List.not_mem_nil) (fun as σ K h => by
  obtain ⟨x, rfl, h⟩ := h
  refine ⟨rfl, fun G hG => fs_isLetter_0 hG ?_⟩
  have e1 : fw_c 97 = 97 := fw_c_id (by decide) (by decide)
  have e2 : fw_c 122 = 122 := fw_c_id (by decide) (by decide)
  rw [e1, e2]
  refine ⟨fun q => ⟨fw_01, ?_⟩, fun q => ⟨fun q2 => ⟨fw_01, ?_⟩, fun q2 => ⟨fw_11, ?_⟩⟩⟩
  · rw [fw_bo_f (by omega)] at h; exact h
  · rw [fw_bo_f (by omega)] at h; exact h
  · rw [fw_bo_t ⟨q, q2⟩] at h; exact h)
theorem fm_isDigit (hinj : nn_inj ad) : fw_H l cy ad wr cr D 14 0 sp_isDigit := fw_mk hinj (⟨"NameNotes$Tape", "isDigit", "(I)Z"⟩, prog_10_method_18_code, 1, (Option.some Jvm.ClassFile.FieldType.boolean), 1, false, 1) rfl rfl nn_KI2_ok nn_KJ2_ok nn_PF2_ok nn_PS2_ok (by decide +kernel) rfl rfl (fun _ h => absurd h List.not_mem_nil) (fun as σ K h => by
  obtain ⟨x, rfl, h⟩ := h
  refine ⟨rfl, fun G hG => fs_isDigit_0 hG ?_⟩
  have e1 : fw_c 48 = 48 := fw_c_id (by decide) (by decide)
  have e2 : fw_c 57 = 57 := fw_c_id (by decide) (by decide)
  rw [e1, e2]
  refine ⟨fun q => ⟨fw_01, ?_⟩, fun q => ⟨fun q2 => ⟨fw_01, ?_⟩, fun q2 => ⟨fw_11, ?_⟩⟩⟩
  · rw [fw_bo_f (by omega)] at h; exact h
  · rw [fw_bo_f (by omega)] at h; exact h
  · rw [fw_bo_t ⟨q, q2⟩] at h; exact h)
theorem fm_look (hinj : nn_inj ad) : fw_H l cy ad wr cr D 11 0 sp_look := fw_mk hinj (⟨"NameNotes$Tape", "look", "(I)I"⟩, prog_10_method_8_code, 2, (Option.some Jvm.ClassFile.FieldType.int), 1, true, 0) rfl rfl nn_KI2_ok nn_KJ2_ok nn_PF2_ok nn_PS2_ok (by decide +kernel) rfl rfl (fun _ h => absurd h List.not_mem_nil) (fun as σ K h => by
  obtain ⟨x, rfl, h⟩ := h
  refine ⟨rfl, fun G hG => fs_look_0 hG ?_⟩
  have e1 : fw_c ((940 : Nat) : Int) = 940 := fw_c_id (by decide) (by decide)
  rw [e1]
  unfold tp_lk at h
  refine ⟨fun q => ?_, fun q => ⟨fun q2 => ?_, fun q2 => ⟨fun q3 => ?_, fun q3 => ⟨⟨q, by omega⟩, ?_⟩⟩⟩⟩
  · rw [if_neg (by omega)] at h; exact h
  · rw [if_neg (by omega)] at h; exact h
  · rw [if_neg (by omega)] at h; exact h
  · rw [if_pos ⟨q, q2, q3⟩] at h; exact h)
end
