/-! a token, and the class's step to the next one -/
def tk_sk (t : Nat → Int) : Nat → Nat → Nat
  | 0, p => p
  | f + 1, p => if t p = 32 ∨ t p = 10 then tk_sk t f (p + 1) else p
theorem tk_sk_le (t : Nat → Int) : ∀ (f p : Nat), p ≤ tk_sk t f p ∧ tk_sk t f p ≤ p + f := by
  intro f
  induction f with
  | zero => intro p; exact ⟨Nat.le_refl _, Nat.le_refl _⟩
  | succ f ih =>
    intro p
    have := ih (p + 1)
    show p ≤ (if t p = 32 ∨ t p = 10 then tk_sk t f (p + 1) else p) ∧ (if t p = 32 ∨ t p = 10 then tk_sk t f (p + 1) else p) ≤ p + (f + 1)
    split <;> omega
theorem tk_run_le (t : Nat → Int) : ∀ (f p : Nat) (s : tk_S), p ≤ (tk_run t f p s).1 ∧ (tk_run t f p s).1 ≤ p + f := by
  intro f
  induction f with
  | zero => intro p s; exact ⟨Nat.le_refl _, Nat.le_refl _⟩
  | succ f ih =>
    intro p s
    unfold tk_run
    split
    · have := ih (p + 1) (s.1 + 1, s.2.1, fw_d (s.2.2.1 * 32 + t p - 97 + 1), s.2.2.2)
      omega
    · split
      · have := ih (p + 1) (s.1, s.2.1 + 1, s.2.2.1, fw_c (s.2.2.2 * 10 + t p - 48))
        omega
      · exact ⟨Nat.le_refl _, by omega⟩
/-- a sign -/
def tk_sg (c : Int) : Prop := c = 59 ∨ (60 ≤ c ∧ c ≤ 62) ∨ c = 40 ∨ c = 41 ∨ c = 46
/-- kind (0 the end, 1 none, 2 a word, 3 a number, else the sign), place, what is next, the word, the number -/
abbrev tk_T : Type := Int × Int × Nat × Int × Int
def tk_rt (q : Nat) (r : Nat × tk_S) : tk_T := if r.2.2.1 = 0 ∧ r.2.1 ≤ 7 then (2, q, r.1, r.2.2.2.1, 0) else if r.2.1 = 0 ∧ r.2.2.1 ≤ 2 then (3, q, r.1, 0, r.2.2.2.2) else (1, q, r.1, 0, 0)
def tk_at (t : Nat → Int) (n : Nat) (lim : Int) (q : Nat) : tk_T :=
  if lim < (n : Int) ∧ lim ≤ (q : Int) then (1, lim, q, 0, 0)
  else if n ≤ q then (0, q, q, 0, 0)
  else if (97 ≤ t q ∧ t q ≤ 122) ∨ (48 ≤ t q ∧ t q ≤ 57) then tk_rt q (tk_run t (n - q) q (0, 0, 0, 0))
  else (if t q = 59 ∨ (60 ≤ t q ∧ t q ≤ 62) ∨ t q = 40 ∨ t q = 41 ∨ t q = 46 then t q else 1, q, q + 1, 0, 0)
def tk_tok (t : Nat → Int) (n : Nat) (lim : Int) (p : Nat) : tk_T := tk_at t n lim (tk_sk t (n - p) p)
def st_M : ab_ML := [(1, 3), (1, 4), (1, 5), (1, 6), (1, 7), (1, 8)]
/-- the class's fields tell a token -/
def st_is (σ' : ab_SG) (k : tk_T) : Prop := σ' 1 5 = k.1 ∧ σ' 1 4 = k.2.1 ∧ σ' 1 3 = (k.2.2.1 : Int) ∧ (k.1 = 2 → σ' 1 6 = k.2.2.2.1 ∧ σ' 1 7 = kw_of 17 k.2.2.2.1 (-1)) ∧ (k.1 ≠ 2 → σ' 1 7 = -1) ∧ (k.1 = 3 → σ' 1 8 = k.2.2.2.2)
def sp_step : fw_SP := fun as σ K => as = [(2, 1, 0)] ∧ (0 ≤ σ 1 3 ∧ σ 1 3 ≤ σ 1 1 ∧ σ 1 1 ≤ 940 ∧ 0 ≤ σ 1 2 ∧ σ 1 2 ≤ 940) ∧
  ∀ σ' : ab_SG, ab_okM st_M σ σ' → st_is σ' (tk_tok (tp_t σ) (σ 1 1).toNat (σ 1 2) (σ 1 3).toNat) → K none σ'
abbrev fk_isSign : List fw_CR := []
abbrev st_isSign : fw_K → fw_KR → fw_K := fw_st vwCl nn_sh nn_kd fw_kv fw_wc (nn_KI2.map (fun x => x.1)) (nn_KJ2.map (fun x => x.1)) (nn_PF2.map (fun x => x.1)) (nn_PS2.map (fun x => x.1)) fk_isSign 0 nn_dt18 1 1
theorem fs_isSign_0 {G : fw_K} {R : fw_KR} (hG : fw_cls st_isSign R G) {x : Int} {σ : ab_SG} (h : (fw_c x = fw_c 59 → (0 ≤ fw_c 1 ∧ fw_c 1 ≤ 1) ∧ R (some (0, 0, 1)) σ) ∧ (fw_c x ≠ fw_c 59 → (fw_c x < fw_c 60 → G 18 [some (0, 0, x)] [] σ) ∧ (fw_c 60 ≤ fw_c x → (fw_c x ≤ fw_c 62 → (0 ≤ fw_c 1 ∧ fw_c 1 ≤ 1) ∧ R (some (0, 0, 1)) σ) ∧ (fw_c 62 < fw_c x → G 18 [some (0, 0, x)] [] σ)))) : G 0 [some (0, 0, x)] [] σ := fw_on hG [18] 200 h
theorem fs_isSign_18 {G : fw_K} {R : fw_KR} (hG : fw_cls st_isSign R G) {a0 : Int} {σ : ab_SG} (h : (fw_c a0 = fw_c 40 → (0 ≤ fw_c 1 ∧ fw_c 1 ≤ 1) ∧ R (some (0, 0, 1)) σ) ∧ (fw_c a0 ≠ fw_c 40 → (fw_c a0 = fw_c 41 → (0 ≤ fw_c 1 ∧ fw_c 1 ≤ 1) ∧ R (some (0, 0, 1)) σ) ∧ (fw_c a0 ≠ fw_c 41 → (fw_c a0 ≠ fw_c 46 → (0 ≤ fw_c 0 ∧ fw_c 0 ≤ 1) ∧ R (some (0, 0, 0)) σ) ∧ (fw_c a0 = fw_c 46 → (0 ≤ fw_c 1 ∧ fw_c 1 ≤ 1) ∧ R (some (0, 0, 1)) σ)))) : G 18 [some (0, 0, a0)] [] σ := fw_on hG [18] 200 h
abbrev fk_step : List fw_CR := [(34, 1, true, 8, 0, sp_look), (38, 1, false, 0, 0, sp_isBlank), (52, 1, false, 0, 0, sp_isLetter), (55, 1, false, 0, 0, sp_isDigit), (58, 0, true, 8, 1, sp_readRun), (61, 1, false, 0, 0, sp_isSign)]
abbrev st_step : fw_K → fw_KR → fw_K := fw_st vwCl nn_sh nn_kd fw_kv fw_wc (nn_KI2.map (fun x => x.1)) (nn_KJ2.map (fun x => x.1)) (nn_PF2.map (fun x => x.1)) (nn_PS2.map (fun x => x.1)) fk_step 2 nn_dt10 2 4
theorem fs_step_0 {G : fw_K} {R : fw_KR} (hG : fw_cls st_step R G) {σ : ab_SG} (h : (fw_c (σ 1 1) ≤ fw_c (σ 1 3) → G 38 [some (2, 1, 0), none] [] σ) ∧ (fw_c (σ 1 3) < fw_c (σ 1 1) → sp_look [(2, 1, 0), (0, 0, σ 1 3)] σ (fun rv σ2 => G 19 [some (2, 1, 0), none] (rv.toList ++ []) σ2))) : G 0 [some (2, 1, 0), none] [] σ := fw_on hG [0, 19, 22, 38, 79, 95, 119, 126, 129, 133, 141, 149] 200 h
theorem fs_step_38 {G : fw_K} {R : fw_KR} (hG : fw_cls st_step R G) {σ : ab_SG} (h : (fw_c (σ 1 1) ≤ fw_c (σ 1 2) → G 79 [some (2, 1, 0), none] [] (ab_ups σ 1 7 (-1))) ∧ (fw_c (σ 1 2) < fw_c (σ 1 1) → (fw_c (σ 1 3) < fw_c (σ 1 2) → G 79 [some (2, 1, 0), none] [] (ab_ups σ 1 7 (-1))) ∧ (fw_c (σ 1 2) ≤ fw_c (σ 1 3) → R none (ab_ups (ab_ups (ab_ups σ 1 7 (-1)) 1 4 (fw_c (σ 1 2))) 1 5 (fw_c 1))))) : G 38 [some (2, 1, 0), none] [] σ := fw_on hG [0, 19, 22, 38, 79, 95, 119, 126, 129, 133, 141, 149] 200 h
theorem fs_step_19 {G : fw_K} {R : fw_KR} (hG : fw_cls st_step R G) {b0 : Int} {σ : ab_SG} (h : sp_isBlank [(0, 0, b0)] σ (fun rv σ2 => G 22 [some (2, 1, 0), none] (rv.toList ++ []) σ2)) : G 19 [some (2, 1, 0), none] [(0, 0, b0)] σ := fw_on hG [0, 19, 22, 38, 79, 95, 119, 126, 129, 133, 141, 149] 200 h
theorem fs_step_79 {G : fw_K} {R : fw_KR} (hG : fw_cls st_step R G) {σ : ab_SG} (h : sp_look [(2, 1, 0), (0, 0, σ 1 3)] (ab_ups σ 1 4 (fw_c (σ 1 3))) (fun rv σ2 => G 95 [some (2, 1, 0), none] (rv.toList ++ []) σ2)) : G 79 [some (2, 1, 0), none] [] σ := fw_on hG [0, 19, 22, 38, 79, 95, 119, 126, 129, 133, 141, 149] 200 h
theorem fs_step_22 {G : fw_K} {R : fw_KR} (hG : fw_cls st_step R G) {b0 : Int} {σ : ab_SG} (h : (fw_c b0 = 0 → G 38 [some (2, 1, 0), none] [] σ) ∧ (fw_c b0 ≠ 0 → G 0 [some (2, 1, 0), none] [] (ab_ups σ 1 3 (fw_c ((σ 1 3) + 1))))) : G 22 [some (2, 1, 0), none] [(0, 0, b0)] σ := fw_on hG [0, 19, 22, 38, 79, 95, 119, 126, 129, 133, 141, 149] 200 h
theorem fs_step_95 {G : fw_K} {R : fw_KR} (hG : fw_cls st_step R G) {b0 : Int} {σ : ab_SG} (h : (fw_c (σ 1 3) < fw_c (σ 1 1) → sp_isLetter [(0, 0, b0)] σ (fun rv σ2 => G 119 [some (2, 1, 0), some (0, 0, b0)] (rv.toList ++ []) σ2)) ∧ (fw_c (σ 1 1) ≤ fw_c (σ 1 3) → R none (ab_ups σ 1 5 (fw_c 0)))) : G 95 [some (2, 1, 0), none] [(0, 0, b0)] σ := fw_on hG [0, 19, 22, 38, 79, 95, 119, 126, 129, 133, 141, 149] 200 h
theorem fs_step_119 {G : fw_K} {R : fw_KR} (hG : fw_cls st_step R G) {a1 b0 : Int} {σ : ab_SG} (h : (fw_c b0 ≠ 0 → G 129 [some (2, 1, 0), some (0, 0, a1)] [] σ) ∧ (fw_c b0 = 0 → sp_isDigit [(0, 0, a1)] σ (fun rv σ2 => G 126 [some (2, 1, 0), some (0, 0, a1)] (rv.toList ++ []) σ2))) : G 119 [some (2, 1, 0), some (0, 0, a1)] [(0, 0, b0)] σ := fw_on hG [0, 19, 22, 38, 79, 95, 119, 126, 129, 133, 141, 149] 200 h
theorem fs_step_129 {G : fw_K} {R : fw_KR} (hG : fw_cls st_step R G) {a1 : Int} {σ : ab_SG} (h : sp_readRun [(2, 1, 0)] σ (fun rv σ2 => G 133 [some (2, 1, 0), some (0, 0, a1)] (rv.toList ++ []) σ2)) : G 129 [some (2, 1, 0), some (0, 0, a1)] [] σ := fw_on hG [0, 19, 22, 38, 79, 95, 119, 126, 129, 133, 141, 149] 200 h
theorem fs_step_126 {G : fw_K} {R : fw_KR} (hG : fw_cls st_step R G) {a1 b0 : Int} {σ : ab_SG} (h : (fw_c b0 = 0 → sp_isSign [(0, 0, a1)] σ (fun rv σ2 => G 141 [some (2, 1, 0), some (0, 0, a1)] (rv.toList ++ [(2, 1, 0)]) σ2)) ∧ (fw_c b0 ≠ 0 → G 129 [some (2, 1, 0), some (0, 0, a1)] [] σ)) : G 126 [some (2, 1, 0), some (0, 0, a1)] [(0, 0, b0)] σ := fw_on hG [0, 19, 22, 38, 79, 95, 119, 126, 129, 133, 141, 149] 200 h
theorem fs_step_133 {G : fw_K} {R : fw_KR} (hG : fw_cls st_step R G) {a1 : Int} {σ : ab_SG} (h : R none σ) : G 133 [some (2, 1, 0), some (0, 0, a1)] [] σ := fw_on hG [0, 19, 22, 38, 79, 95, 119, 126, 129, 133, 141, 149] 200 h
theorem fs_step_141 {G : fw_K} {R : fw_KR} (hG : fw_cls st_step R G) {a1 b0 : Int} {σ : ab_SG} (h : (fw_c b0 = 0 → G 149 [some (2, 1, 0), some (0, 0, a1)] [(0, 0, 1), (2, 1, 0)] σ) ∧ (fw_c b0 ≠ 0 → G 149 [some (2, 1, 0), some (0, 0, a1)] [(0, 0, a1), (2, 1, 0)] σ)) : G 141 [some (2, 1, 0), some (0, 0, a1)] [(0, 0, b0), (2, 1, 0)] σ := fw_on hG [0, 19, 22, 38, 79, 95, 119, 126, 129, 133, 141, 149] 200 h
theorem fs_step_149 {G : fw_K} {R : fw_KR} (hG : fw_cls st_step R G) {a1 b0 : Int} {σ : ab_SG} (h : R none (ab_ups (ab_ups σ 1 5 (fw_c b0)) 1 3 (fw_c ((σ 1 3) + 1)))) : G 149 [some (2, 1, 0), some (0, 0, a1)] [(0, 0, b0), (2, 1, 0)] σ := fw_on hG [0, 19, 22, 38, 79, 95, 119, 126, 129, 133, 141, 149] 200 h
theorem st_skip {G : fw_K} {K : fw_KR} (hG : fw_cls st_step K G) {σ0 : ab_SG} (hn : 0 ≤ σ0 1 1 ∧ σ0 1 1 ≤ 940)
    :
    ∀ (f p : Nat) (σ : ab_SG), p + f = (σ0 1 1).toNat → ab_okM st_M σ0 σ → σ 1 3 = (p : Int) →
      (∀ σ1 : ab_SG, ab_okM st_M σ0 σ1 → σ1 1 3 = ((tk_sk (tp_t σ0) f p : Nat) : Int) → G 38 [some (2, 1, 0), none] [] σ1) → G 0 [some (2, 1, 0), none] [] σ := by
  intro f
  induction f with
  | zero =>
    intro p σ hp hM h3 hk
    have e1 : σ 1 1 = σ0 1 1 := hM 1 1 (by decide)
    have e3 : fw_c (σ 1 3) = σ 1 3 := fw_c_id (by omega) (by omega)
    have e2 : fw_c (σ0 1 1) = σ0 1 1 := fw_c_id (by omega) (by omega)
    refine fs_step_0 hG ?_
    rw [e1, e2, e3]
    exact ⟨fun _ => hk σ hM h3, fun q => absurd q (by omega)⟩
  | succ f ih =>
    intro p σ hp hM h3 hk
    have e1 : σ 1 1 = σ0 1 1 := hM 1 1 (by decide)
    have e3 : fw_c (σ 1 3) = σ 1 3 := fw_c_id (by omega) (by omega)
    have e2 : fw_c (σ0 1 1) = σ0 1 1 := fw_c_id (by omega) (by omega)
    have ec := tp_t_c σ0 p
    have el : tp_lk σ (σ 1 3) = tp_t σ0 p := by
      rw [h3, tp_lk_at (by rw [e1]; omega) (by rw [e1]; omega), tp_t_M hM (by decide)]
    replace hk : ∀ σ1 : ab_SG, ab_okM st_M σ0 σ1 → σ1 1 3 = (((if tp_t σ0 p = 32 ∨ tp_t σ0 p = 10 then tk_sk (tp_t σ0) f (p + 1) else p) : Nat) : Int) → G 38 [some (2, 1, 0), none] [] σ1 := hk
    refine fs_step_0 hG ?_
    rw [e1, e2, e3]
    refine ⟨fun q => absurd q (by omega), fun _ => ⟨_, rfl, ?_⟩⟩
    rw [el]
    refine fs_step_19 hG ⟨_, rfl, ?_⟩
    rw [ec]
    refine fs_step_22 hG ⟨fun q => ?_, fun q => ?_⟩
    · have hb := fw_bo_eq q
      rw [if_neg hb] at hk
      exact hk σ hM h3
    · have hb := fw_bo_ne q
      rw [if_pos hb] at hk
      have ep : fw_c (σ 1 3 + 1) = ((p + 1 : Nat) : Int) := by rw [h3, fw_c_id (by omega) (by omega)]; rfl
      rw [ep]
      exact ih (p + 1) _ (by omega) (fw_okM_ups hM (by decide)) ab_ups_eq hk
section
variable {l : Launch} {cy : Nat → ClassId} {ad wr cr : Nat → Nat} {D : va_G}
theorem fm_isSign (hinj : nn_inj ad) : fw_H l cy ad wr cr D 18 0 sp_isSign := fw_mk hinj (⟨"NameNotes$Tape", "isSign", "(I)Z"⟩, prog_10_method_19_code, 1, (Option.some Jvm.ClassFile.FieldType.boolean), 1, false, 1) rfl rfl nn_KI2_ok nn_KJ2_ok nn_PF2_ok nn_PS2_ok (by decide +kernel) rfl rfl (fun _ h => absurd h List.not_mem_nil) (fun as σ K h => by
  obtain ⟨x, rfl, h⟩ := h
  refine ⟨rfl, fun G hG => fs_isSign_0 hG ?_⟩
  have e1 : fw_c 59 = 59 := fw_c_id (by decide) (by decide)
  have e2 : fw_c 60 = 60 := fw_c_id (by decide) (by decide)
  have e3 : fw_c 62 = 62 := fw_c_id (by decide) (by decide)
  have e4 : fw_c 40 = 40 := fw_c_id (by decide) (by decide)
  have e5 : fw_c 41 = 41 := fw_c_id (by decide) (by decide)
  have e6 : fw_c 46 = 46 := fw_c_id (by decide) (by decide)
  have at18 : fw_c x ≠ 59 → ¬ (60 ≤ fw_c x ∧ fw_c x ≤ 62) → G 18 [some (0, 0, x)] [] σ := by
    intro q1 q2
    refine fs_isSign_18 hG ?_
    rw [e4, e5, e6]
    refine ⟨fun q => ⟨fw_11, ?_⟩, fun q => ⟨fun q3 => ⟨fw_11, ?_⟩, fun q3 => ⟨fun q4 => ⟨fw_01, ?_⟩, fun q4 => ⟨fw_11, ?_⟩⟩⟩⟩
    · rw [fw_bo_t (by omega)] at h; exact h
    · rw [fw_bo_t (by omega)] at h; exact h
    · rw [fw_bo_f (by omega)] at h; exact h
    · rw [fw_bo_t (by omega)] at h; exact h
  rw [e1, e2, e3]
  refine ⟨fun q => ⟨fw_11, ?_⟩, fun q => ⟨fun q2 => at18 q (by omega), fun q2 => ⟨fun q3 => ⟨fw_11, ?_⟩, fun q3 => at18 q (by omega)⟩⟩⟩
  · rw [fw_bo_t (Or.inl q)] at h; exact h
  · rw [fw_bo_t (by omega)] at h; exact h)
theorem fm_step (hinj : nn_inj ad) : fw_H l cy ad wr cr D 10 2 sp_step := fw_mk hinj (⟨"NameNotes$Tape", "step", "()V"⟩, prog_10_method_5_code, 2, (Option.none : Option Jvm.ClassFile.FieldType), 0, true, 4) rfl rfl nn_KI2_ok nn_KJ2_ok nn_PF2_ok nn_PS2_ok (by decide +kernel) rfl rfl (List.forall_mem_cons.mpr ⟨fw_row nn_PM2_ok (x := 34) (k := 0) (mn := 11) (np := 1) (ob := true) (ci := 8) (⟨"NameNotes$Tape", "look", "(I)I"⟩, prog_10_method_8_code, 2, (Option.some Jvm.ClassFile.FieldType.int), 1, true, 0) rfl (by decide +kernel) rfl rfl (by decide) (fun _ => ⟨_, _, rfl⟩) (fm_look hinj), (List.forall_mem_cons.mpr ⟨fw_row nn_PM2_ok (x := 38) (k := 0) (mn := 12) (np := 1) (ob := false) (ci := 0) (⟨"NameNotes$Tape", "isBlank", "(I)Z"⟩, prog_10_method_16_code, 1, (Option.some Jvm.ClassFile.FieldType.boolean), 1, false, 1) rfl (by decide +kernel) rfl rfl (by decide) (fun q => by cases q) (fm_isBlank hinj), (List.forall_mem_cons.mpr ⟨fw_row nn_PM2_ok (x := 52) (k := 0) (mn := 13) (np := 1) (ob := false) (ci := 0) (⟨"NameNotes$Tape", "isLetter", "(I)Z"⟩, prog_10_method_17_code, 1, (Option.some Jvm.ClassFile.FieldType.boolean), 1, false, 1) rfl (by decide +kernel) rfl rfl (by decide) (fun q => by cases q) (fm_isLetter hinj), (List.forall_mem_cons.mpr ⟨fw_row nn_PM2_ok (x := 55) (k := 0) (mn := 14) (np := 1) (ob := false) (ci := 0) (⟨"NameNotes$Tape", "isDigit", "(I)Z"⟩, prog_10_method_18_code, 1, (Option.some Jvm.ClassFile.FieldType.boolean), 1, false, 1) rfl (by decide +kernel) rfl rfl (by decide) (fun q => by cases q) (fm_isDigit hinj), (List.forall_mem_cons.mpr ⟨fw_row nn_PM2_ok (x := 58) (k := 0) (mn := 15) (np := 0) (ob := true) (ci := 8) (⟨"NameNotes$Tape", "readRun", "()V"⟩, prog_10_method_6_code, 4, (Option.none : Option Jvm.ClassFile.FieldType), 0, true, 4) rfl (by decide +kernel) rfl rfl (by decide) (fun _ => ⟨_, _, rfl⟩) (fm_readRun hinj), (List.forall_mem_cons.mpr ⟨fw_row nn_PM2_ok (x := 61) (k := 0) (mn := 18) (np := 1) (ob := false) (ci := 0) (⟨"NameNotes$Tape", "isSign", "(I)Z"⟩, prog_10_method_19_code, 1, (Option.some Jvm.ClassFile.FieldType.boolean), 1, false, 1) rfl (by decide +kernel) rfl rfl (by decide) (fun q => by cases q) (fm_isSign hinj), (fun _ h => absurd h List.not_mem_nil)⟩)⟩)⟩)⟩)⟩)⟩) (fun as σ K h => by
  obtain ⟨rfl, ⟨n1, n2, n3, n4, n5⟩, h⟩ := h
  refine ⟨rfl, fun G hG => ?_⟩
  have z1 : fw_c 1 = 1 := fw_c1
  refine st_skip hG (σ0 := σ) ⟨by omega, n3⟩ ((σ 1 1).toNat - (σ 1 3).toNat) (σ 1 3).toNat σ (by omega) (fw_okM_refl _ _) (by omega) (fun σ1 hM h3 => ?_)
  have hq := tk_sk_le (tp_t σ) ((σ 1 1).toNat - (σ 1 3).toNat) (σ 1 3).toNat
  unfold tk_tok at h
  generalize tk_sk (tp_t σ) ((σ 1 1).toNat - (σ 1 3).toNat) (σ 1 3).toNat = q at h h3 hq
  have hqn : q ≤ (σ 1 1).toNat := by omega
  have e1 : σ1 1 1 = σ 1 1 := hM 1 1 (by decide)
  have e2 : σ1 1 2 = σ 1 2 := hM 1 2 (by decide)
  have c1 : fw_c (σ 1 1) = σ 1 1 := fw_c_id (by omega) (by omega)
  have c2 : fw_c (σ 1 2) = σ 1 2 := fw_c_id (by omega) (by omega)
  have c3 : fw_c (q : Int) = q := fw_c_id (by omega) (by omega)
  -- from the place of the token on
  have at79 : ¬ (σ 1 2 < ((σ 1 1).toNat : Int) ∧ σ 1 2 ≤ (q : Int)) → G 79 [some (2, 1, 0), none] [] (ab_ups σ1 1 7 (-1)) := by
    intro hno
    unfold tk_at at h
    rw [if_neg hno] at h
    have hM2 : ab_okM st_M σ (ab_ups (ab_ups σ1 1 7 (-1)) 1 4 (q : Int)) := fw_okM_ups (fw_okM_ups hM (by decide)) (by decide)
    have p3 : (ab_ups (ab_ups σ1 1 7 (-1)) 1 4 (q : Int)) 1 3 = (q : Int) := by rw [ab_ups_ne (by decide), ab_ups_ne (by decide)]; exact h3
    have p1 : (ab_ups (ab_ups σ1 1 7 (-1)) 1 4 (q : Int)) 1 1 = σ 1 1 := hM2 1 1 (by decide)
    have p7 : (ab_ups (ab_ups σ1 1 7 (-1)) 1 4 (q : Int)) 1 7 = -1 := by rw [ab_ups_ne (by decide), ab_ups_eq]
    have p4 : (ab_ups (ab_ups σ1 1 7 (-1)) 1 4 (q : Int)) 1 4 = (q : Int) := ab_ups_eq
    refine fs_step_79 hG ?_
    have g3 : (ab_ups σ1 1 7 (-1)) 1 3 = (q : Int) := by rw [ab_ups_ne (by decide)]; exact h3
    rw [g3, c3]
    generalize ab_ups (ab_ups σ1 1 7 (-1)) 1 4 (q : Int) = σ2 at hM2 p3 p1 p7 p4 ⊢
    refine ⟨_, rfl, ?_⟩
    refine fs_step_95 hG ?_
    rw [p3, p1, c1, c3]
    refine ⟨fun qn => ?_, fun qn => ?_⟩
    · have el : tp_lk σ2 (q : Int) = tp_t σ q := by rw [tp_lk_at (by rw [p1]; exact n3) (by rw [p1]; exact qn), tp_t_M hM2 (by decide)]
      have ec := tp_t_c σ q
      rw [if_neg (show ¬ (σ 1 1).toNat ≤ q by omega)] at h
      rw [el]
      refine ⟨_, rfl, ?_⟩
      rw [ec]
      have at129 : (97 ≤ tp_t σ q ∧ tp_t σ q ≤ 122) ∨ (48 ≤ tp_t σ q ∧ tp_t σ q ≤ 57) → G 129 [some (2, 1, 0), some (0, 0, tp_t σ q)] [] σ2 := by
        intro hal
        rw [if_pos hal] at h
        refine fs_step_129 hG ⟨rfl, by rw [p1, p3]; exact ⟨by omega, by omega, n3⟩, fun σ3 hr => ?_⟩
        refine fs_step_133 hG (h σ3 (fw_okM_tr hM2 hr.1 (by decide)) ?_)
        obtain ⟨hM3, r3, r4, r5, r6⟩ := hr
        rw [tp_t_M hM2 (by decide), p1, p3] at r3 r4 r5 r6
        rw [p7] at r4 r5 r6
        have eq : ((q : Int)).toNat = q := Int.toNat_natCast q
        rw [eq] at r3 r4 r5 r6
        have r7 : σ3 1 4 = (q : Int) := by rw [hM3 1 4 (by decide)]; exact p4
        generalize tk_run (tp_t σ) ((σ 1 1).toNat - q) q (0, 0, 0, 0) = r at r3 r4 r5 r6 ⊢
        unfold tk_rt
        by_cases w1 : r.2.2.1 = 0 ∧ r.2.1 ≤ 7
        · rw [if_pos w1]
          obtain ⟨a1, a2, a3⟩ := r4 w1
          exact ⟨a1, r7, r3, fun _ => ⟨a2, a3⟩, fun z => absurd rfl z, fun z => absurd z (by show ¬ (2 : Int) = 3; decide)⟩
        · rw [if_neg w1]
          by_cases w2 : r.2.1 = 0 ∧ r.2.2.1 ≤ 2
          · rw [if_pos w2]
            obtain ⟨a1, a2, a3⟩ := r5 w1 w2
            exact ⟨a1, r7, r3, fun z => absurd z (by show ¬ (3 : Int) = 2; decide), fun _ => a3, fun _ => a2⟩
          · rw [if_neg w2]
            obtain ⟨a1, a3⟩ := r6 w1 w2
            exact ⟨a1, r7, r3, fun z => absurd z (by show ¬ (1 : Int) = 2; decide), fun _ => a3, fun z => absurd z (by show ¬ (1 : Int) = 3; decide)⟩
      refine fs_step_119 hG ⟨fun z => at129 (Or.inl (fw_bo_ne z)), fun z => ⟨_, rfl, ?_⟩⟩
      have hnl := fw_bo_eq z
      rw [ec]
      refine fs_step_126 hG ⟨fun z2 => ⟨_, rfl, ?_⟩, fun z2 => at129 (Or.inr (fw_bo_ne z2))⟩
      have hnd := fw_bo_eq z2
      rw [if_neg (show ¬ ((97 ≤ tp_t σ q ∧ tp_t σ q ≤ 122) ∨ (48 ≤ tp_t σ q ∧ tp_t σ q ≤ 57)) from fun y => y.elim hnl hnd)] at h
      rw [ec]
      have fin : ∀ v : Int, fw_c v = v → v = (if tp_t σ q = 59 ∨ (60 ≤ tp_t σ q ∧ tp_t σ q ≤ 62) ∨ tp_t σ q = 40 ∨ tp_t σ q = 41 ∨ tp_t σ q = 46 then tp_t σ q else 1) → v ≠ 2 → v ≠ 3 → G 149 [some (2, 1, 0), some (0, 0, tp_t σ q)] [(0, 0, v), (2, 1, 0)] σ2 := by
        intro v hv hv2 hv3 hv4
        refine fs_step_149 hG ?_
        have ep : fw_c (σ2 1 3 + 1) = ((q + 1 : Nat) : Int) := by rw [p3, fw_c_id (by omega) (by omega)]; rfl
        rw [ep, hv]
        refine h _ (fw_okM_ups (fw_okM_ups hM2 (by decide)) (by decide)) ?_
        rw [← hv2]
        refine ⟨?_, ?_, ab_ups_eq, fun y => absurd y hv3, fun _ => ?_, fun y => absurd y hv4⟩
        · rw [ab_ups_ne (by decide), ab_ups_eq]
        · rw [ab_ups_ne (by decide), ab_ups_ne (by decide)]; exact p4
        · rw [ab_ups_ne (by decide), ab_ups_ne (by decide)]; exact p7
      refine fs_step_141 hG ⟨fun z3 => ?_, fun z3 => ?_⟩
      · have hs := fw_bo_eq z3
        refine fin 1 z1 ?_ (by decide) (by decide)
        rw [if_neg hs]
      · have hs := fw_bo_ne z3
        refine fin _ ec ?_ (by omega) (by omega)
        rw [if_pos hs]
    · rw [if_pos (show (σ 1 1).toNat ≤ q by omega)] at h
      refine h _ (fw_okM_ups hM2 (by decide)) ⟨?_, ?_, ?_, fun z => absurd z (by show ¬ (0 : Int) = 2; decide), fun _ => ?_, fun z => absurd z (by show ¬ (0 : Int) = 3; decide)⟩
      · rw [ab_ups_eq, fw_c0]
      · rw [ab_ups_ne (by decide)]; exact p4
      · rw [ab_ups_ne (by decide)]; exact p3
      · rw [ab_ups_ne (by decide)]; exact p7
  refine fs_step_38 hG ?_
  rw [e1, e2, h3, c1, c2, c3]
  refine ⟨fun q1 => at79 (fun z => by omega), fun q1 => ⟨fun q2 => at79 (fun z => by omega), fun q2 => ?_⟩⟩
  have hyes : σ 1 2 < ((σ 1 1).toNat : Int) ∧ σ 1 2 ≤ (q : Int) := ⟨by omega, q2⟩
  unfold tk_at at h
  rw [if_pos hyes] at h
  refine h _ (fw_okM_ups (fw_okM_ups (fw_okM_ups hM (by decide)) (by decide)) (by decide)) ⟨?_, ?_, ?_, fun z => absurd z (by show ¬ (1 : Int) = 2; decide), fun _ => ?_, fun z => absurd z (by show ¬ (1 : Int) = 3; decide)⟩
  · rw [ab_ups_eq, z1]
  · rw [ab_ups_ne (by decide), ab_ups_eq]
  · rw [ab_ups_ne (by decide), ab_ups_ne (by decide), ab_ups_ne (by decide)]; exact h3
  · rw [ab_ups_ne (by decide), ab_ups_ne (by decide), ab_ups_eq])
end
