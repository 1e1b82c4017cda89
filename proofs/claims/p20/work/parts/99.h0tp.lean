/-! the class's tape: what is asked of a token; rows read, written, filled, sought in -/
def tp_rf (σ : ab_SG) (x : Int) : ab_SG := ab_ups (ab_ups σ 1 9 (fw_c x)) 1 10 (fw_c (σ 1 4))
def sp_isName : fw_SP := fun as σ K => as = [(2, 1, 0)] ∧ K (some (0, 0, fw_bo (fw_c (σ 1 5) = 2 ∧ σ 1 7 < 0))) σ
def sp_isWord : fw_SP := fun as σ K => ∃ x : Int, as = [(2, 1, 0), (4, 0, x)] ∧ (-1 ≤ σ 1 7 ∧ σ 1 7 ≤ 16 ∧ -1 ≤ x ∧ x ≤ 16) ∧ K (some (0, 0, fw_bo (fw_c (σ 1 5) = 2 ∧ σ 1 7 = x))) σ
def sp_refuse : fw_SP := fun as σ K => ∃ x : Int, as = [(2, 1, 0), (0, 0, x)] ∧ K (some (0, 0, 0)) (tp_rf σ x)
def sp_needNumber : fw_SP := fun as σ K => ∃ x y : Int, as = [(2, 1, 0), (0, 0, x), (0, 0, y)] ∧
  (fw_c (σ 1 5) ≠ 3 → K (some (0, 0, 0)) (tp_rf σ 1)) ∧ (fw_c (σ 1 5) = 3 → ¬ (fw_c x ≤ fw_c (σ 1 8) ∧ fw_c (σ 1 8) ≤ fw_c y) → K (some (0, 0, 0)) (tp_rf σ 2)) ∧
  (fw_c (σ 1 5) = 3 → fw_c x ≤ fw_c (σ 1 8) ∧ fw_c (σ 1 8) ≤ fw_c y → K (some (0, 0, 1)) σ)
/-- a step may be made -/
abbrev st_pre (σ : ab_SG) : Prop := 0 ≤ σ 1 3 ∧ σ 1 3 ≤ σ 1 1 ∧ σ 1 1 ≤ 940 ∧ 0 ≤ σ 1 2 ∧ σ 1 2 ≤ 940
def st_nx (σ : ab_SG) : tk_T := tk_tok (tp_t σ) (σ 1 1).toNat (σ 1 2) (σ 1 3).toNat
def sp_takeSign : fw_SP := fun as σ K => ∃ x : Int, as = [(2, 1, 0), (0, 0, x)] ∧ (fw_c (σ 1 5) ≠ fw_c x → K (some (0, 0, 0)) (tp_rf σ 1)) ∧
  (fw_c (σ 1 5) = fw_c x → st_pre σ ∧ ∀ σ' : ab_SG, ab_okM st_M σ σ' → st_is σ' (st_nx σ) → K (some (0, 0, 1)) σ')
def sp_opn : fw_SP := fun as σ K => ∃ x : Int, as = [(2, 1, 0), (0, 0, x)] ∧ (0 ≤ σ 1 1 ∧ σ 1 1 ≤ 940 ∧ 0 ≤ fw_c x ∧ fw_c x ≤ 940) ∧
  ∀ σ' : ab_SG, ab_okM ((1, 2) :: (1, 9) :: (1, 10) :: st_M) σ σ' → σ' 1 2 = fw_c x → σ' 1 9 = 0 → st_is σ' (tk_tok (tp_t σ) (σ 1 1).toNat (fw_c x) 0) → K none σ'
/-- the rows of ints and of longs that the reader's methods are given, and how long they are -/
def rw_I : List (Nat × Nat) := [(50, 81), (51, 81), (52, 9), (54, 6), (55, 45), (56, 5), (64, 5), (53, 324)]
def rw_L : List (Nat × Nat) := [(57, 9), (58, 6), (59, 5)]
def at_k (k n : Nat) : fw_SP := fun as σ K => ∃ x : Int, as = [(2, k, 0), (0, 0, x)] ∧ (0 ≤ fw_c x ∧ fw_c x < (n : Int) → K (some (0, 0, σ k (fw_c x).toNat)) σ) ∧ (¬ (0 ≤ fw_c x ∧ fw_c x < (n : Int)) → K (some (0, 0, 0)) σ)
def put_k (k n : Nat) : fw_SP := fun as σ K => ∃ x v : Int, as = [(2, k, 0), (0, 0, x), (0, 0, v)] ∧ (0 ≤ fw_c x ∧ fw_c x < (n : Int) → K none (ab_ups σ k (fw_c x).toNat (fw_c v))) ∧ (¬ (0 ≤ fw_c x ∧ fw_c x < (n : Int)) → K none σ)
def putl_k (k n : Nat) : fw_SP := fun as σ K => ∃ x v : Int, as = [(2, k, 0), (0, 0, x), (1, 0, v)] ∧ (0 ≤ fw_c x ∧ fw_c x < (n : Int) → K none (ab_ups σ k (fw_c x).toNat (fw_d v))) ∧ (¬ (0 ≤ fw_c x ∧ fw_c x < (n : Int)) → K none σ)
def fill_k (k n : Nat) : fw_SP := fun as σ K => ∃ v : Int, as = [(2, k, 0), (0, 0, v)] ∧ ∀ σ' : ab_SG, (∀ a b : Nat, ¬ (a = k ∧ b < n) → σ' a b = σ a b) → (∀ b : Nat, b < n → σ' k b = fw_c v) → K none σ'
/-- the first of a row's first numbers that is w -/
def rw_fd (a : Nat → Int) (w : Int) : Nat → Nat → Int
  | 0, _ => -1
  | f + 1, i => if a i = w then (i : Int) else rw_fd a w f (i + 1)
def isIn_k (k n : Nat) : fw_SP := fun as σ K => ∃ x : Int, as = [(2, 48, 0), (2, k, 0), (0, 0, x)] ∧ (0 ≤ x ∧ x ≤ (n : Int)) ∧ (∀ j : Nat, (j : Int) < x → fw_d (σ k j) = σ k j) ∧ fw_d (σ 1 6) = σ 1 6 ∧ K (some (0, 0, fw_bo (0 ≤ rw_fd (σ k) (σ 1 6) x.toNat 0))) σ
def seek_k (k n : Nat) : fw_SP := fun as σ K => ∃ x : Int, as = [(2, 1, 0), (2, k, 0), (0, 0, x)] ∧ (0 ≤ x ∧ x ≤ (n : Int)) ∧ (∀ j : Nat, (j : Int) < x → fw_d (σ k j) = σ k j) ∧ (fw_c (σ 1 5) = 2 ∧ σ 1 7 < 0 → fw_d (σ 1 6) = σ 1 6) ∧
  (¬ (fw_c (σ 1 5) = 2 ∧ σ 1 7 < 0) → K (some (0, 0, -1)) (tp_rf σ 1)) ∧ (fw_c (σ 1 5) = 2 ∧ σ 1 7 < 0 → rw_fd (σ k) (σ 1 6) x.toNat 0 < 0 → K (some (0, 0, -1)) (tp_rf σ 3)) ∧
  (fw_c (σ 1 5) = 2 ∧ σ 1 7 < 0 → 0 ≤ rw_fd (σ k) (σ 1 6) x.toNat 0 → K (some (0, 0, rw_fd (σ k) (σ 1 6) x.toNat 0)) σ)
def sp_of (f : Nat → Nat → fw_SP) (l : List (Nat × Nat)) : fw_SP := fun as σ K => ∃ q ∈ l, f q.1 q.2 as σ K
def sp_at : fw_SP := sp_of at_k rw_I
def sp_put : fw_SP := sp_of put_k rw_I
def sp_putl : fw_SP := sp_of putl_k rw_L
def sp_fill : fw_SP := sp_of fill_k rw_I
def sp_isIn : fw_SP := sp_of isIn_k rw_L
def sp_seek : fw_SP := sp_of seek_k rw_L
theorem fw_H_of {l : Launch} {cy : Nat → ClassId} {ad wr cr : Nat → Nat} {D : va_G} {mn lev : Nat} {f : Nat → Nat → fw_SP} {ks : List (Nat × Nat)} (h : ∀ q ∈ ks, fw_H l cy ad wr cr D mn lev (f q.1 q.2)) : fw_H l cy ad wr cr D mn lev (sp_of f ks) := by
  intro mr hmr as σ sz K ⟨q, hq, hsp⟩
  exact h q hq mr hmr as σ sz K hsp
/-- a set and one more -/
def pr_or (s x : Int) : Int := fw_c (fw_op 9 s (fw_op 5 1 x))
def sp_has : fw_SP := fun as σ K => ∃ s x : Int, as = [(0, 0, s), (0, 0, x)] ∧ (0 ≤ fw_c x ∧ fw_c x < 9) ∧ K (some (0, 0, fw_bo (fw_c (fw_op 8 (fw_op 6 s x) 1) = 1))) σ
abbrev fk_isName : List fw_CR := []
abbrev st_isName : fw_K → fw_KR → fw_K := fw_st vwCl nn_sh nn_kd fw_kv fw_wc (nn_KI2.map (fun x => x.1)) (nn_KJ2.map (fun x => x.1)) (nn_PF2.map (fun x => x.1)) (nn_PS2.map (fun x => x.1)) fk_isName 0 nn_dt24 1 1
theorem fs_isName_0 {G : fw_K} {R : fw_KR} (hG : fw_cls st_isName R G) {σ : ab_SG} (h : (fw_c (σ 1 5) ≠ fw_c 2 → (0 ≤ fw_c 0 ∧ fw_c 0 ≤ 1) ∧ R (some (0, 0, 0)) σ) ∧ (fw_c (σ 1 5) = fw_c 2 → (0 ≤ (σ 1 7) → (0 ≤ fw_c 0 ∧ fw_c 0 ≤ 1) ∧ R (some (0, 0, 0)) σ) ∧ ((σ 1 7) < 0 → (0 ≤ fw_c 1 ∧ fw_c 1 ≤ 1) ∧ R (some (0, 0, 1)) σ))) : G 0 [some (2, 1, 0)] [] σ := fw_on hG [] 200 h
abbrev fk_isWord : List fw_CR := []
abbrev st_isWord : fw_K → fw_KR → fw_K := fw_st vwCl nn_sh nn_kd fw_kv fw_wc (nn_KI2.map (fun x => x.1)) (nn_KJ2.map (fun x => x.1)) (nn_PF2.map (fun x => x.1)) (nn_PS2.map (fun x => x.1)) fk_isWord 0 nn_dt20 2 1
theorem fs_isWord_0 {G : fw_K} {R : fw_KR} (hG : fw_cls st_isWord R G) {x : Int} {σ : ab_SG} (h : (fw_c (σ 1 5) ≠ fw_c 2 → (0 ≤ fw_c 0 ∧ fw_c 0 ≤ 1) ∧ R (some (0, 0, 0)) σ) ∧ (fw_c (σ 1 5) = fw_c 2 → (-1 ≤ σ 1 7 ∧ σ 1 7 ≤ 16 ∧ -1 ≤ x ∧ x ≤ 16) ∧ (((σ 1 7) ≠ x → (0 ≤ fw_c 0 ∧ fw_c 0 ≤ 1) ∧ R (some (0, 0, 0)) σ) ∧ ((σ 1 7) = x → (0 ≤ fw_c 1 ∧ fw_c 1 ≤ 1) ∧ R (some (0, 0, 1)) σ)))) : G 0 [some (2, 1, 0), some (4, 0, x)] [] σ := fw_on hG [] 200 h
abbrev fk_refuse : List fw_CR := []
abbrev st_refuse : fw_K → fw_KR → fw_K := fw_st vwCl nn_sh nn_kd fw_kv fw_wc (nn_KI2.map (fun x => x.1)) (nn_KJ2.map (fun x => x.1)) (nn_PF2.map (fun x => x.1)) (nn_PS2.map (fun x => x.1)) fk_refuse 0 nn_dt22 2 1
theorem fs_refuse_0 {G : fw_K} {R : fw_KR} (hG : fw_cls st_refuse R G) {x : Int} {σ : ab_SG} (h : (0 ≤ fw_c 0 ∧ fw_c 0 ≤ 1) ∧ R (some (0, 0, 0)) (ab_ups (ab_ups σ 1 9 (fw_c x)) 1 10 (fw_c (σ 1 4)))) : G 0 [some (2, 1, 0), some (0, 0, x)] [] σ := fw_on hG [] 200 h
abbrev fk_needNumber : List fw_CR := [(91, 1, true, 8, 0, sp_refuse)]
abbrev st_needNumber : fw_K → fw_KR → fw_K := fw_st vwCl nn_sh nn_kd fw_kv fw_wc (nn_KI2.map (fun x => x.1)) (nn_KJ2.map (fun x => x.1)) (nn_PF2.map (fun x => x.1)) (nn_PS2.map (fun x => x.1)) fk_needNumber 1 nn_dt30 3 1
theorem fs_needNumber_0 {G : fw_K} {R : fw_KR} (hG : fw_cls st_needNumber R G) {x y : Int} {σ : ab_SG} (h : (fw_c (σ 1 5) = fw_c 3 → (fw_c (σ 1 8) < fw_c x → G 30 [some (2, 1, 0), some (0, 0, x), some (0, 0, y)] [] σ) ∧ (fw_c x ≤ fw_c (σ 1 8) → (fw_c (σ 1 8) ≤ fw_c y → (0 ≤ fw_c 1 ∧ fw_c 1 ≤ 1) ∧ R (some (0, 0, 1)) σ) ∧ (fw_c y < fw_c (σ 1 8) → G 30 [some (2, 1, 0), some (0, 0, x), some (0, 0, y)] [] σ))) ∧ (fw_c (σ 1 5) ≠ fw_c 3 → sp_refuse [(2, 1, 0), (0, 0, 1)] σ (fun rv σ2 => G 13 [some (2, 1, 0), some (0, 0, x), some (0, 0, y)] (rv.toList ++ []) σ2))) : G 0 [some (2, 1, 0), some (0, 0, x), some (0, 0, y)] [] σ := fw_on hG [13, 30, 35] 200 h
theorem fs_needNumber_30 {G : fw_K} {R : fw_KR} (hG : fw_cls st_needNumber R G) {a1 a2 : Int} {σ : ab_SG} (h : sp_refuse [(2, 1, 0), (0, 0, 2)] σ (fun rv σ2 => G 35 [some (2, 1, 0), some (0, 0, a1), some (0, 0, a2)] (rv.toList ++ []) σ2)) : G 30 [some (2, 1, 0), some (0, 0, a1), some (0, 0, a2)] [] σ := fw_on hG [13, 30, 35] 200 h
theorem fs_needNumber_13 {G : fw_K} {R : fw_KR} (hG : fw_cls st_needNumber R G) {a1 a2 b0 : Int} {σ : ab_SG} (h : (0 ≤ fw_c b0 ∧ fw_c b0 ≤ 1) ∧ R (some (0, 0, b0)) σ) : G 13 [some (2, 1, 0), some (0, 0, a1), some (0, 0, a2)] [(0, 0, b0)] σ := fw_on hG [13, 30, 35] 200 h
theorem fs_needNumber_35 {G : fw_K} {R : fw_KR} (hG : fw_cls st_needNumber R G) {a1 a2 b0 : Int} {σ : ab_SG} (h : (fw_c b0 = 0 → (0 ≤ fw_c 0 ∧ fw_c 0 ≤ 1) ∧ R (some (0, 0, 0)) σ) ∧ (fw_c b0 ≠ 0 → (0 ≤ fw_c 1 ∧ fw_c 1 ≤ 1) ∧ R (some (0, 0, 1)) σ)) : G 35 [some (2, 1, 0), some (0, 0, a1), some (0, 0, a2)] [(0, 0, b0)] σ := fw_on hG [13, 30, 35] 200 h
abbrev fk_takeSign : List fw_CR := [(31, 0, true, 8, 2, sp_step), (91, 1, true, 8, 0, sp_refuse)]
abbrev st_takeSign : fw_K → fw_KR → fw_K := fw_st vwCl nn_sh nn_kd fw_kv fw_wc (nn_KI2.map (fun x => x.1)) (nn_KJ2.map (fun x => x.1)) (nn_PF2.map (fun x => x.1)) (nn_PS2.map (fun x => x.1)) fk_takeSign 3 nn_dt40 2 1
theorem fs_takeSign_0 {G : fw_K} {R : fw_KR} (hG : fw_cls st_takeSign R G) {x : Int} {σ : ab_SG} (h : (fw_c (σ 1 5) = fw_c x → sp_step [(2, 1, 0)] σ (fun rv σ2 => G 18 [some (2, 1, 0), some (0, 0, x)] (rv.toList ++ []) σ2)) ∧ (fw_c (σ 1 5) ≠ fw_c x → sp_refuse [(2, 1, 0), (0, 0, 1)] σ (fun rv σ2 => G 13 [some (2, 1, 0), some (0, 0, x)] (rv.toList ++ []) σ2))) : G 0 [some (2, 1, 0), some (0, 0, x)] [] σ := fw_on hG [13, 18] 200 h
theorem fs_takeSign_18 {G : fw_K} {R : fw_KR} (hG : fw_cls st_takeSign R G) {a1 : Int} {σ : ab_SG} (h : (0 ≤ fw_c 1 ∧ fw_c 1 ≤ 1) ∧ R (some (0, 0, 1)) σ) : G 18 [some (2, 1, 0), some (0, 0, a1)] [] σ := fw_on hG [13, 18] 200 h
theorem fs_takeSign_13 {G : fw_K} {R : fw_KR} (hG : fw_cls st_takeSign R G) {a1 b0 : Int} {σ : ab_SG} (h : (0 ≤ fw_c b0 ∧ fw_c b0 ≤ 1) ∧ R (some (0, 0, b0)) σ) : G 13 [some (2, 1, 0), some (0, 0, a1)] [(0, 0, b0)] σ := fw_on hG [13, 18] 200 h
abbrev fk_opn : List fw_CR := [(31, 0, true, 8, 2, sp_step)]
abbrev st_opn : fw_K → fw_KR → fw_K := fw_st vwCl nn_sh nn_kd fw_kv fw_wc (nn_KI2.map (fun x => x.1)) (nn_KJ2.map (fun x => x.1)) (nn_PF2.map (fun x => x.1)) (nn_PS2.map (fun x => x.1)) fk_opn 3 nn_dt9 2 4
theorem fs_opn_0 {G : fw_K} {R : fw_KR} (hG : fw_cls st_opn R G) {x : Int} {σ : ab_SG} (h : sp_step [(2, 1, 0)] (ab_ups (ab_ups (ab_ups (ab_ups σ 1 2 (fw_c x)) 1 3 (fw_c 0)) 1 9 (fw_c 0)) 1 10 (fw_c 0)) (fun rv σ2 => G 24 [some (2, 1, 0), some (0, 0, x)] (rv.toList ++ []) σ2)) : G 0 [some (2, 1, 0), some (0, 0, x)] [] σ := fw_on hG [24] 200 h
theorem fs_opn_24 {G : fw_K} {R : fw_KR} (hG : fw_cls st_opn R G) {a1 : Int} {σ : ab_SG} (h : R none σ) : G 24 [some (2, 1, 0), some (0, 0, a1)] [] σ := fw_on hG [24] 200 h
abbrev fk_has : List fw_CR := []
abbrev st_has : fw_K → fw_KR → fw_K := fw_st vwCl nn_sh nn_kd fw_kv fw_wc (nn_KI1.map (fun x => x.1)) (nn_KJ1.map (fun x => x.1)) (nn_PF1.map (fun x => x.1)) (nn_PS1.map (fun x => x.1)) fk_has 0 nn_dt34 2 1
theorem fs_has_0 {G : fw_K} {R : fw_KR} (hG : fw_cls st_has R G) {s x : Int} {σ : ab_SG} (h : (fw_c x < 0 → (0 ≤ fw_c 0 ∧ fw_c 0 ≤ 1) ∧ R (some (0, 0, 0)) σ) ∧ (0 ≤ fw_c x → (fw_c 9 ≤ fw_c x → (0 ≤ fw_c 0 ∧ fw_c 0 ≤ 1) ∧ R (some (0, 0, 0)) σ) ∧ (fw_c x < fw_c 9 → (fw_c (fw_op 8 (fw_op 6 s x) 1) ≠ fw_c 1 → (0 ≤ fw_c 0 ∧ fw_c 0 ≤ 1) ∧ R (some (0, 0, 0)) σ) ∧ (fw_c (fw_op 8 (fw_op 6 s x) 1) = fw_c 1 → (0 ≤ fw_c 1 ∧ fw_c 1 ≤ 1) ∧ R (some (0, 0, 1)) σ)))) : G 0 [some (0, 0, s), some (0, 0, x)] [] σ := fw_on hG [] 200 h
theorem rw_fd_le (a : Nat → Int) (w : Int) : ∀ (f i : Nat), rw_fd a w f i < 0 ∨ ((i : Int) ≤ rw_fd a w f i ∧ rw_fd a w f i < (i : Int) + f) := by
  intro f
  induction f with
  | zero => intro i; exact Or.inl (by show (-1 : Int) < 0; decide)
  | succ f ih =>
    intro i
    unfold rw_fd
    split
    · exact Or.inr ⟨Int.le_refl _, by omega⟩
    · rcases ih (i + 1) with h | h
      · exact Or.inl h
      · exact Or.inr ⟨by omega, by omega⟩
section
variable {l : Launch} {cy : Nat → ClassId} {ad wr cr : Nat → Nat} {D : va_G}
theorem fm_isName (hinj : nn_inj ad) : fw_H l cy ad wr cr D 24 0 sp_isName := fw_mk hinj (⟨"NameNotes$Tape", "isName", "()Z"⟩, prog_10_method_9_code, 1, (Option.some Jvm.ClassFile.FieldType.boolean), 0, true, 1) rfl rfl nn_KI2_ok nn_KJ2_ok nn_PF2_ok nn_PS2_ok (by decide +kernel) rfl rfl (fun _ h => absurd h List.not_mem_nil) (fun as σ K h => by
  obtain ⟨rfl, h⟩ := h
  refine ⟨rfl, fun G hG => fs_isName_0 hG ?_⟩
  have e2 : fw_c 2 = 2 := fw_c_id (by decide) (by decide)
  rw [e2]
  refine ⟨fun q => ⟨fw_01, ?_⟩, fun q => ⟨fun q2 => ⟨fw_01, ?_⟩, fun q2 => ⟨fw_11, ?_⟩⟩⟩
  · rw [fw_bo_f (fun z => q z.1)] at h; exact h
  · rw [fw_bo_f (fun z => absurd z.2 (by omega))] at h; exact h
  · rw [fw_bo_t ⟨q, q2⟩] at h; exact h)
theorem fm_isWord (hinj : nn_inj ad) : fw_H l cy ad wr cr D 20 0 sp_isWord := fw_mk hinj (⟨"NameNotes$Tape", "isWord", "(LNameNotes$Word;)Z"⟩, prog_10_method_10_code, 2, (Option.some Jvm.ClassFile.FieldType.boolean), 1, true, 1) rfl rfl nn_KI2_ok nn_KJ2_ok nn_PF2_ok nn_PS2_ok (by decide +kernel) rfl rfl (fun _ h => absurd h List.not_mem_nil) (fun as σ K h => by
  obtain ⟨x, rfl, hb, h⟩ := h
  refine ⟨rfl, fun G hG => fs_isWord_0 hG ?_⟩
  have e2 : fw_c 2 = 2 := fw_c_id (by decide) (by decide)
  rw [e2]
  refine ⟨fun q => ⟨fw_01, ?_⟩, fun q => ⟨hb, fun q2 => ⟨fw_01, ?_⟩, fun q2 => ⟨fw_11, ?_⟩⟩⟩
  · rw [fw_bo_f (fun z => q z.1)] at h; exact h
  · rw [fw_bo_f (fun z => q2 z.2)] at h; exact h
  · rw [fw_bo_t ⟨q, q2⟩] at h; exact h)
theorem fm_refuse (hinj : nn_inj ad) : fw_H l cy ad wr cr D 22 0 sp_refuse := fw_mk hinj (⟨"NameNotes$Tape", "refuse", "(I)Z"⟩, prog_10_method_14_code, 2, (Option.some Jvm.ClassFile.FieldType.boolean), 1, true, 1) rfl rfl nn_KI2_ok nn_KJ2_ok nn_PF2_ok nn_PS2_ok (by decide +kernel) rfl rfl (fun _ h => absurd h List.not_mem_nil) (fun as σ K h => by
  obtain ⟨x, rfl, h⟩ := h
  exact ⟨rfl, fun G hG => fs_refuse_0 hG ⟨fw_01, h⟩⟩)
theorem fm_needNumber (hinj : nn_inj ad) : fw_H l cy ad wr cr D 30 1 sp_needNumber := fw_mk hinj (⟨"NameNotes$Tape", "needNumber", "(II)Z"⟩, prog_10_method_12_code, 3, (Option.some Jvm.ClassFile.FieldType.boolean), 2, true, 1) rfl rfl nn_KI2_ok nn_KJ2_ok nn_PF2_ok nn_PS2_ok (by decide +kernel) rfl rfl (List.forall_mem_cons.mpr ⟨fw_row nn_PM2_ok (x := 91) (k := 0) (mn := 22) (np := 1) (ob := true) (ci := 8) (⟨"NameNotes$Tape", "refuse", "(I)Z"⟩, prog_10_method_14_code, 2, (Option.some Jvm.ClassFile.FieldType.boolean), 1, true, 1) rfl (by decide +kernel) rfl rfl (by decide) (fun _ => ⟨_, _, rfl⟩) (fm_refuse hinj), (fun _ h => absurd h List.not_mem_nil)⟩) (fun as σ K h => by
  obtain ⟨x, y, rfl, h1, h2, h3⟩ := h
  refine ⟨rfl, fun G hG => fs_needNumber_0 hG ?_⟩
  have e3 : fw_c 3 = 3 := fw_c_id (by decide) (by decide)
  rw [e3]
  have at30 : fw_c (σ 1 5) = 3 → ¬ (fw_c x ≤ fw_c (σ 1 8) ∧ fw_c (σ 1 8) ≤ fw_c y) → G 30 [some (2, 1, 0), some (0, 0, x), some (0, 0, y)] [] σ := fun q q2 => fs_needNumber_30 hG ⟨_, rfl, fs_needNumber_35 hG ⟨fun _ => ⟨fw_01, h2 q q2⟩, fun z => absurd fw_c0 z⟩⟩
  refine ⟨fun q => ⟨fun q2 => at30 q (by omega), fun q2 => ⟨fun q3 => ⟨fw_11, h3 q ⟨q2, q3⟩⟩, fun q3 => at30 q (by omega)⟩⟩, fun q => ⟨_, rfl, fs_needNumber_13 hG ⟨fw_01, h1 q⟩⟩⟩)
theorem fm_takeSign (hinj : nn_inj ad) : fw_H l cy ad wr cr D 40 3 sp_takeSign := fw_mk hinj (⟨"NameNotes$Tape", "takeSign", "(I)Z"⟩, prog_10_method_13_code, 2, (Option.some Jvm.ClassFile.FieldType.boolean), 1, true, 1) rfl rfl nn_KI2_ok nn_KJ2_ok nn_PF2_ok nn_PS2_ok (by decide +kernel) rfl rfl (List.forall_mem_cons.mpr ⟨fw_row nn_PM2_ok (x := 31) (k := 0) (mn := 10) (np := 0) (ob := true) (ci := 8) (⟨"NameNotes$Tape", "step", "()V"⟩, prog_10_method_5_code, 2, (Option.none : Option Jvm.ClassFile.FieldType), 0, true, 4) rfl (by decide +kernel) rfl rfl (by decide) (fun _ => ⟨_, _, rfl⟩) (fm_step hinj), (List.forall_mem_cons.mpr ⟨fw_row nn_PM2_ok (x := 91) (k := 0) (mn := 22) (np := 1) (ob := true) (ci := 8) (⟨"NameNotes$Tape", "refuse", "(I)Z"⟩, prog_10_method_14_code, 2, (Option.some Jvm.ClassFile.FieldType.boolean), 1, true, 1) rfl (by decide +kernel) rfl rfl (by decide) (fun _ => ⟨_, _, rfl⟩) (fm_refuse hinj), (fun _ h => absurd h List.not_mem_nil)⟩)⟩) (fun as σ K h => by
  obtain ⟨x, rfl, h1, h2⟩ := h
  refine ⟨rfl, fun G hG => fs_takeSign_0 hG ⟨fun q => ⟨rfl, (h2 q).1, fun σ' a b => fs_takeSign_18 hG ⟨fw_11, (h2 q).2 σ' a b⟩⟩, fun q => ⟨_, rfl, fs_takeSign_13 hG ⟨fw_01, h1 q⟩⟩⟩⟩)
theorem fm_opn (hinj : nn_inj ad) : fw_H l cy ad wr cr D 9 3 sp_opn := fw_mk hinj (⟨"NameNotes$Tape", "open", "(I)V"⟩, prog_10_method_4_code, 2, (Option.none : Option Jvm.ClassFile.FieldType), 1, true, 4) rfl rfl nn_KI2_ok nn_KJ2_ok nn_PF2_ok nn_PS2_ok (by decide +kernel) rfl rfl (List.forall_mem_cons.mpr ⟨fw_row nn_PM2_ok (x := 31) (k := 0) (mn := 10) (np := 0) (ob := true) (ci := 8) (⟨"NameNotes$Tape", "step", "()V"⟩, prog_10_method_5_code, 2, (Option.none : Option Jvm.ClassFile.FieldType), 0, true, 4) rfl (by decide +kernel) rfl rfl (by decide) (fun _ => ⟨_, _, rfl⟩) (fm_step hinj), (fun _ h => absurd h List.not_mem_nil)⟩) (fun as σ K h => by
  obtain ⟨x, rfl, ⟨n1, n2, n3, n4⟩, h⟩ := h
  refine ⟨rfl, fun G hG => fs_opn_0 hG ?_⟩
  rw [fw_c0]
  generalize hs : ab_ups (ab_ups (ab_ups (ab_ups σ 1 2 (fw_c x)) 1 3 0) 1 9 0) 1 10 0 = σ1
  have hM : ab_okM ((1, 2) :: (1, 9) :: (1, 10) :: st_M) σ σ1 := by
    rw [← hs]
    exact fw_okM_ups (fw_okM_ups (fw_okM_ups (fw_okM_ups (fw_okM_refl _ _) (by decide)) (by decide)) (by decide)) (by decide)
  have e1 : σ1 1 1 = σ 1 1 := hM 1 1 (by decide)
  have e2 : σ1 1 2 = fw_c x := by rw [← hs]; rfl
  have e3 : σ1 1 3 = 0 := by rw [← hs]; rfl
  have e9 : σ1 1 9 = 0 := by rw [← hs]; rfl
  refine ⟨rfl, by rw [e1, e2, e3]; exact ⟨Int.le_refl _, n1, n2, n3, n4⟩, fun σ' a b => fs_opn_24 hG (h σ' (fw_okM_tr hM a (by decide)) ?_ ?_ ?_)⟩
  · rw [a 1 2 (by decide)]; exact e2
  · rw [a 1 9 (by decide)]; exact e9
  · rw [tp_t_M hM (by decide), e1, e2, e3] at b
    exact b)
theorem fm_has (hinj : nn_inj ad) : fw_H l cy ad wr cr D 34 0 sp_has := fw_mk hinj (⟨"NameNotes", "has", "(II)Z"⟩, prog_1_method_80_code, 2, (Option.some Jvm.ClassFile.FieldType.boolean), 2, false, 1) rfl rfl nn_KI1_ok nn_KJ1_ok nn_PF1_ok nn_PS1_ok (by decide +kernel) rfl rfl (fun _ h => absurd h List.not_mem_nil) (fun as σ K h => by
  obtain ⟨s, x, rfl, hb, h⟩ := h
  refine ⟨rfl, fun G hG => fs_has_0 hG ?_⟩
  have e9 : fw_c 9 = 9 := fw_c_id (by decide) (by decide)
  rw [e9, fw_c1]
  refine ⟨fun q => absurd q (by omega), fun _ => ⟨fun q => absurd q (by omega), fun _ => ⟨fun q => ⟨fw_01, ?_⟩, fun q => ⟨fw_11, ?_⟩⟩⟩⟩
  · rw [fw_bo_f q] at h; exact h
  · rw [fw_bo_t q] at h; exact h)
end
