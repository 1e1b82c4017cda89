/-! the reference's words, signs, numbers -/
def spv (a b c d e f : Int) : Int :=
  let v1 := 27 * (a - 96) + b - 96
  let v2 := if 0 < c then 27 * v1 + c - 96 else v1
  let v3 := if 0 < d then 27 * v2 + d - 96 else v2
  let v4 := if 0 < e then 27 * v3 + e - 96 else v3
  if 0 < f then 27 * v4 + f - 96 else v4
def sp_m_spelt : fw_SP := fun as σ K => ∃ a b c d e f : Int, as = [(0, 0, a), (0, 0, b), (0, 0, c), (0, 0, d), (0, 0, e), (0, 0, f)] ∧ ((0 ≤ a ∧ a ≤ 127) ∧ (0 ≤ b ∧ b ≤ 127) ∧ (0 ≤ c ∧ c ≤ 127) ∧ (0 ≤ d ∧ d ≤ 127) ∧ (0 ≤ e ∧ e ≤ 127) ∧ (0 ≤ f ∧ f ≤ 127)) ∧ K (some (1, 0, spv a b c d e f)) σ
def sp_m_wordOf : fw_SP := fun as σ K => ∃ x : Nat, as = [(0, 0, (x : Int))] ∧ x ≤ 16 ∧ K (some (1, 0, rf_w 7 (fw_wc x))) σ
def rf_okb : Nat → Int → Bool
  | 0, w => decide (w = 0)
  | n + 1, w => decide (w = 0) || (decide (1 ≤ w % 32) && (decide (w % 32 ≤ 26) && rf_okb n (w / 32)))
theorem rf_okb_ok : ∀ (n : Nat) (w : Int), rf_okb n w = true → rf_ok n w := by
  intro n
  induction n with
  | zero => intro w h; exact (of_decide_eq_true (show decide (w = 0) = true from h) : w = 0)
  | succ n ih =>
    intro w h
    replace h : (decide (w = 0) || (decide (1 ≤ w % 32) && (decide (w % 32 ≤ 26) && rf_okb n (w / 32)))) = true := h
    rw [Bool.or_eq_true, Bool.and_eq_true, Bool.and_eq_true] at h
    rcases h with h | ⟨h1, h2, h3⟩
    · exact Or.inl (of_decide_eq_true h)
    · exact Or.inr ⟨of_decide_eq_true h1, of_decide_eq_true h2, ih _ h3⟩
theorem wc_ok : ∀ k : Nat, k < 17 → rf_ok 7 (fw_wc k) := fun k hk => rf_okb_ok 7 _ ((by decide +kernel : ∀ k : Nat, k < 17 → rf_okb 7 (fw_wc k) = true) k hk)
theorem wc_ne : ∀ i : Nat, i < 17 → ∀ j : Nat, j < 17 → fw_wc i = fw_wc j → i = j := by decide +kernel
theorem kw_of_iff (w : Int) : ∀ n : Nat, n ≤ 17 → ∀ k : Nat, k < n → (kw_of n w (-1) = (k : Int) ↔ fw_wc k = w) := by
  intro n
  induction n with
  | zero => intro _ k hk; exact absurd hk (Nat.not_lt_zero k)
  | succ n ih =>
    intro hn k hk
    unfold kw_of
    by_cases h : fw_wc n = w
    · rw [if_pos h]
      constructor
      · intro z
        have : k = n := by omega
        rw [this]; exact h
      · intro z
        have := wc_ne k (by omega) n (by omega) (z.trans h.symm)
        rw [this]
    · rw [if_neg h]
      by_cases e : k = n
      · subst e
        have := kw_of_in k w (-1)
        exact ⟨fun z => by omega, fun z => absurd z h⟩
      · exact ih (by omega) k (by omega)
theorem tw_iff {e : tk_E} {p k : Nat} (hk : k < 17) : tw e p = (k : Int) ↔ ((tk e p).1 = 2 ∧ fw_wc k = pr_wd e p) := by
  unfold tw
  by_cases h : (tk e p).1 = 2
  · rw [if_pos h]
    exact (kw_of_iff _ 17 (Nat.le_refl _) k hk).trans ⟨fun z => ⟨h, z⟩, fun z => z.2⟩
  · rw [if_neg h]
    exact ⟨fun z => by omega, fun z => absurd z.1 h⟩
theorem tw_neg {e : tk_E} {p : Nat} : ((tk e p).1 = 2 ∧ tw e p < 0) ↔ ((tk e p).1 = 2 ∧ ∀ k : Nat, k < 17 → fw_wc k ≠ pr_wd e p) := by
  constructor
  · rintro ⟨h, h1⟩
    refine ⟨h, fun k hk z => ?_⟩
    have := (tw_iff hk).mpr ⟨h, z⟩
    omega
  · rintro ⟨h, h1⟩
    refine ⟨h, ?_⟩
    have e1 : tw e p = kw_of 17 (tk e p).2.2.2.1 (-1) := by unfold tw; rw [if_pos h]
    rcases kw_of_in 17 (tk e p).2.2.2.1 (-1) with g | g
    · rw [e1, g]; decide
    · exfalso
      have hk : (kw_of 17 (tk e p).2.2.2.1 (-1)).toNat < 17 := by omega
      have := (tw_iff (e := e) (p := p) hk).mp (by rw [e1]; omega)
      exact h1 _ hk this.2
def tk_kd (k : Int) : Prop := k = 0 ∨ k = 1 ∨ k = 2 ∨ k = 3 ∨ (k = 59 ∨ (60 ≤ k ∧ k ≤ 62) ∨ k = 40 ∨ k = 41 ∨ k = 46)
theorem tk_kind (e : tk_E) (p : Nat) : tk_kd (tk e p).1 := by
  show tk_kd (tk_at e.1 e.2.1 e.2.2 (tk_sk e.1 (e.2.1 - p) p)).1
  generalize tk_sk e.1 (e.2.1 - p) p = q
  unfold tk_at
  split
  · exact Or.inr (Or.inl rfl)
  · split
    · exact Or.inl rfl
    · split
      · unfold tk_rt
        split
        · exact Or.inr (Or.inr (Or.inl rfl))
        · split
          · exact Or.inr (Or.inr (Or.inr (Or.inl rfl)))
          · exact Or.inr (Or.inl rfl)
      · show tk_kd (if e.1 q = 59 ∨ (60 ≤ e.1 q ∧ e.1 q ≤ 62) ∨ e.1 q = 40 ∨ e.1 q = 41 ∨ e.1 q = 46 then e.1 q else 1)
        unfold tk_kd
        split <;> omega
theorem mg_kind {σ : ab_SG} {e : tk_E} {p : Nat} (h : mg_is σ (tk e p)) : (σ 93 7 = 2 ↔ (tk e p).1 = 2) ∧ (σ 93 7 = 3 ↔ (tk e p).1 = 3) ∧ (σ 93 7 = 1 ↔ (tk e p).1 = 1 ∨ (tk e p).1 = 46) ∧ (σ 93 7 = 0 ↔ (tk e p).1 = 0) ∧ (0 ≤ σ 93 7 ∧ σ 93 7 ≤ 4) := by
  obtain ⟨-, -, h0, h1, h2, h3, h4⟩ := h
  have hk := tk_kind e p
  unfold tk_kd at hk
  rcases hk with q | q | q | q | q
  · have := h0 q; omega
  · have := h1 (Or.inl q); omega
  · have := (h2 q).1; omega
  · have := (h3 q).1; omega
  · by_cases y : (tk e p).1 = 46
    · have := h1 (Or.inr y); omega
    · have := (h4 (by omega)).1; omega
def sp_m_isWord : fw_SP := fun as σ K => ∃ (x : Nat) (e : tk_E) (p : Nat), as = [(2, 93, 0), (0, 0, (x : Int))] ∧ x ≤ 16 ∧ mg_is σ (tk e p) ∧ K (some (0, 0, fw_bo (tw e p = (x : Int)))) σ
def sp_m_isName : fw_SP := fun as σ K => ∃ (e : tk_E) (p : Nat), as = [(2, 93, 0)] ∧ mg_is σ (tk e p) ∧ K (some (0, 0, fw_bo ((tk e p).1 = 2 ∧ tw e p < 0))) σ
def sp_m_isSign : fw_SP := fun as σ K => ∃ (x : Int) (e : tk_E) (p : Nat), as = [(2, 93, 0), (0, 0, x)] ∧ (x = 59 ∨ (60 ≤ x ∧ x ≤ 62) ∨ x = 40 ∨ x = 41) ∧ mg_is σ (tk e p) ∧ K (some (0, 0, fw_bo ((tk e p).1 = x))) σ
def sp_m_bad : fw_SP := fun as σ K => ∃ x : Int, as = [(2, 93, 0), (0, 0, x)] ∧ (1 ≤ x ∧ x ≤ 4) ∧ (0 ≤ σ 93 7 ∧ σ 93 7 ≤ 4) ∧ ∀ σ' : ab_SG, ab_okM [(93, 10), (93, 11)] σ σ' → σ' 93 10 = (if σ 93 7 = 1 then 1 else x) → σ' 93 11 = fw_c (σ 93 6) → K (some (0, 0, 0)) σ'
def sp_m_isIn : fw_SP := fun as σ K => ∃ x y z : Int, as = [(0, 0, x), (0, 0, y), (0, 0, z)] ∧ K (some (0, 0, fw_bo (fw_c y ≤ fw_c x ∧ fw_c x ≤ fw_c z))) σ
def md_M : ab_ML := (93, 10) :: (93, 11) :: (93, 13) :: (93, 25) :: (93, 26) :: (96, 1000000) :: (100, 1000000) :: (103, 1000000) :: go_M
def md_no (σ : ab_SG) (f : Int) (K : fw_KR) : Prop := ∀ σ' : ab_SG, ab_okM md_M σ σ' → σ' 93 10 = f → K (some (0, 0, 0)) σ'
def sp_m_isNumber : fw_SP := fun as σ K => ∃ (a b : Int) (e : tk_E) (p : Nat), as = [(2, 93, 0), (0, 0, a), (0, 0, b)] ∧ (0 ≤ a ∧ a ≤ 24 ∧ 0 ≤ b ∧ b ≤ 24) ∧ mg_is σ (tk e p) ∧ (pr_nm e p a b ≠ 0 → md_no σ (pr_nm e p a b) K) ∧
  (pr_nm e p a b = 0 → a ≤ (tk e p).2.2.2.2 → (tk e p).2.2.2.2 ≤ b → K (some (0, 0, 1)) (ab_ups σ 93 13 (tk e p).2.2.2.2))
abbrev fk_m_spelt : List fw_CR := []
abbrev st_m_spelt : fw_K → fw_KR → fw_K := fw_st vwCl nn_sh nn_kd fw_kv fw_wc (nn_KI20.map (fun x => x.1)) (nn_KJ20.map (fun x => x.1)) (nn_PF20.map (fun x => x.1)) (nn_PS20.map (fun x => x.1)) fk_m_spelt 0 nn_dt219 8 2
theorem fs_m_spelt_0 {G : fw_K} {R : fw_KR} (hG : fw_cls st_m_spelt R G) {a b c d e f : Int} {σ : ab_SG} (h : (fw_c c ≤ 0 → G 38 [some (0, 0, a), some (0, 0, b), some (0, 0, c), some (0, 0, d), some (0, 0, e), some (0, 0, f), some (1, 0, ((27 * ((fw_c a) - 96)) + (fw_c b)) - 96), none] [] σ) ∧ (0 < fw_c c → G 38 [some (0, 0, a), some (0, 0, b), some (0, 0, c), some (0, 0, d), some (0, 0, e), some (0, 0, f), some (1, 0, ((27 * (((27 * ((fw_c a) - 96)) + (fw_c b)) - 96)) + (fw_c c)) - 96), none] [] σ)) : G 0 [some (0, 0, a), some (0, 0, b), some (0, 0, c), some (0, 0, d), some (0, 0, e), some (0, 0, f), none, none] [] σ := fw_on hG [38, 57, 78] 200 h
theorem fs_m_spelt_38 {G : fw_K} {R : fw_KR} (hG : fw_cls st_m_spelt R G) {a0 a1 a2 a3 a4 a5 a6 : Int} {σ : ab_SG} (h : (fw_c a3 ≤ 0 → G 57 [some (0, 0, a0), some (0, 0, a1), some (0, 0, a2), some (0, 0, a3), some (0, 0, a4), some (0, 0, a5), some (1, 0, a6), none] [] σ) ∧ (0 < fw_c a3 → G 57 [some (0, 0, a0), some (0, 0, a1), some (0, 0, a2), some (0, 0, a3), some (0, 0, a4), some (0, 0, a5), some (1, 0, ((27 * a6) + (fw_c a3)) - 96), none] [] σ)) : G 38 [some (0, 0, a0), some (0, 0, a1), some (0, 0, a2), some (0, 0, a3), some (0, 0, a4), some (0, 0, a5), some (1, 0, a6), none] [] σ := fw_on hG [38, 57, 78] 200 h
theorem fs_m_spelt_57 {G : fw_K} {R : fw_KR} (hG : fw_cls st_m_spelt R G) {a0 a1 a2 a3 a4 a5 a6 : Int} {σ : ab_SG} (h : (fw_c a4 ≤ 0 → G 78 [some (0, 0, a0), some (0, 0, a1), some (0, 0, a2), some (0, 0, a3), some (0, 0, a4), some (0, 0, a5), some (1, 0, a6), none] [] σ) ∧ (0 < fw_c a4 → G 78 [some (0, 0, a0), some (0, 0, a1), some (0, 0, a2), some (0, 0, a3), some (0, 0, a4), some (0, 0, a5), some (1, 0, ((27 * a6) + (fw_c a4)) - 96), none] [] σ)) : G 57 [some (0, 0, a0), some (0, 0, a1), some (0, 0, a2), some (0, 0, a3), some (0, 0, a4), some (0, 0, a5), some (1, 0, a6), none] [] σ := fw_on hG [38, 57, 78] 200 h
theorem fs_m_spelt_78 {G : fw_K} {R : fw_KR} (hG : fw_cls st_m_spelt R G) {a0 a1 a2 a3 a4 a5 a6 : Int} {σ : ab_SG} (h : (fw_c a5 ≤ 0 → R (some (1, 0, a6)) σ) ∧ (0 < fw_c a5 → R (some (1, 0, ((27 * a6) + (fw_c a5)) - 96)) σ)) : G 78 [some (0, 0, a0), some (0, 0, a1), some (0, 0, a2), some (0, 0, a3), some (0, 0, a4), some (0, 0, a5), some (1, 0, a6), none] [] σ := fw_on hG [38, 57, 78] 200 h
abbrev fk_m_wordOf : List fw_CR := [(154, 6, false, 0, 0, sp_m_spelt)]
abbrev st_m_wordOf : fw_K → fw_KR → fw_K := fw_st vwCl nn_sh nn_kd fw_kv fw_wc (nn_KI20.map (fun x => x.1)) (nn_KJ20.map (fun x => x.1)) (nn_PF20.map (fun x => x.1)) (nn_PS20.map (fun x => x.1)) fk_m_wordOf 1 nn_dt218 1 2
theorem fs_m_wordOf_0 {G : fw_K} {R : fw_KR} (hG : fw_cls st_m_wordOf R G) {x : Int} {σ : ab_SG} (h : ((fw_c x < 0 → (sp_m_spelt [(0, 0, 98), (0, 0, 101), (0, 0, 97), (0, 0, 116), (0, 0, 115), (0, 0, 0)] σ (fun rv σ2 => G 315 [some (0, 0, x)] (rv.toList ++ []) σ2))) ∧ (15 < fw_c x → (sp_m_spelt [(0, 0, 98), (0, 0, 101), (0, 0, 97), (0, 0, 116), (0, 0, 115), (0, 0, 0)] σ (fun rv σ2 => G 315 [some (0, 0, x)] (rv.toList ++ []) σ2)))) ∧ (fw_c x = 0 → (sp_m_spelt [(0, 0, 116), (0, 0, 117), (0, 0, 110), (0, 0, 101), (0, 0, 0), (0, 0, 0)] σ (fun rv σ2 => G 93 [some (0, 0, x)] (rv.toList ++ []) σ2))) ∧ (fw_c x = 0 + 1 → (sp_m_spelt [(0, 0, 99), (0, 0, 108), (0, 0, 117), (0, 0, 101), (0, 0, 0), (0, 0, 0)] σ (fun rv σ2 => G 107 [some (0, 0, x)] (rv.toList ++ []) σ2))) ∧ (fw_c x = 0 + 1 + 1 → (sp_m_spelt [(0, 0, 112), (0, 0, 101), (0, 0, 114), (0, 0, 115), (0, 0, 111), (0, 0, 110)] σ (fun rv σ2 => G 123 [some (0, 0, x)] (rv.toList ++ []) σ2))) ∧ (fw_c x = 0 + 1 + 1 + 1 → (sp_m_spelt [(0, 0, 107), (0, 0, 110), (0, 0, 111), (0, 0, 119), (0, 0, 115), (0, 0, 0)] σ (fun rv σ2 => G 138 [some (0, 0, x)] (rv.toList ++ []) σ2))) ∧ (fw_c x = 0 + 1 + 1 + 1 + 1 → (sp_m_spelt [(0, 0, 100), (0, 0, 97), (0, 0, 114), (0, 0, 101), (0, 0, 0), (0, 0, 0)] σ (fun rv σ2 => G 152 [some (0, 0, x)] (rv.toList ++ []) σ2))) ∧ (fw_c x = 0 + 1 + 1 + 1 + 1 + 1 → (sp_m_spelt [(0, 0, 102), (0, 0, 114), (0, 0, 111), (0, 0, 109), (0, 0, 0), (0, 0, 0)] σ (fun rv σ2 => G 166 [some (0, 0, x)] (rv.toList ++ []) σ2))) ∧ (fw_c x = 0 + 1 + 1 + 1 + 1 + 1 + 1 → (sp_m_spelt [(0, 0, 110), (0, 0, 97), (0, 0, 109), (0, 0, 101), (0, 0, 0), (0, 0, 0)] σ (fun rv σ2 => G 180 [some (0, 0, x)] (rv.toList ++ []) σ2))) ∧ (fw_c x = 0 + 1 + 1 + 1 + 1 + 1 + 1 + 1 → (sp_m_spelt [(0, 0, 111), (0, 0, 114), (0, 0, 0), (0, 0, 0), (0, 0, 0), (0, 0, 0)] σ (fun rv σ2 => G 192 [some (0, 0, x)] (rv.toList ++ []) σ2))) ∧ (fw_c x = 0 + 1 + 1 + 1 + 1 + 1 + 1 + 1 + 1 → (sp_m_spelt [(0, 0, 97), (0, 0, 110), (0, 0, 100), (0, 0, 0), (0, 0, 0), (0, 0, 0)] σ (fun rv σ2 => G 205 [some (0, 0, x)] (rv.toList ++ []) σ2))) ∧ (fw_c x = 0 + 1 + 1 + 1 + 1 + 1 + 1 + 1 + 1 + 1 → (sp_m_spelt [(0, 0, 110), (0, 0, 111), (0, 0, 116), (0, 0, 0), (0, 0, 0), (0, 0, 0)] σ (fun rv σ2 => G 218 [some (0, 0, x)] (rv.toList ++ []) σ2))) ∧ (fw_c x = 0 + 1 + 1 + 1 + 1 + 1 + 1 + 1 + 1 + 1 + 1 → (sp_m_spelt [(0, 0, 105), (0, 0, 110), (0, 0, 0), (0, 0, 0), (0, 0, 0), (0, 0, 0)] σ (fun rv σ2 => G 230 [some (0, 0, x)] (rv.toList ++ []) σ2))) ∧ (fw_c x = 0 + 1 + 1 + 1 + 1 + 1 + 1 + 1 + 1 + 1 + 1 + 1 → (sp_m_spelt [(0, 0, 115), (0, 0, 117), (0, 0, 114), (0, 0, 101), (0, 0, 0), (0, 0, 0)] σ (fun rv σ2 => G 244 [some (0, 0, x)] (rv.toList ++ []) σ2))) ∧ (fw_c x = 0 + 1 + 1 + 1 + 1 + 1 + 1 + 1 + 1 + 1 + 1 + 1 + 1 → (sp_m_spelt [(0, 0, 108), (0, 0, 105), (0, 0, 107), (0, 0, 101), (0, 0, 0), (0, 0, 0)] σ (fun rv σ2 => G 258 [some (0, 0, x)] (rv.toList ++ []) σ2))) ∧ (fw_c x = 0 + 1 + 1 + 1 + 1 + 1 + 1 + 1 + 1 + 1 + 1 + 1 + 1 + 1 → (sp_m_spelt [(0, 0, 110), (0, 0, 111), (0, 0, 116), (0, 0, 101), (0, 0, 115), (0, 0, 0)] σ (fun rv σ2 => G 273 [some (0, 0, x)] (rv.toList ++ []) σ2))) ∧ (fw_c x = 0 + 1 + 1 + 1 + 1 + 1 + 1 + 1 + 1 + 1 + 1 + 1 + 1 + 1 + 1 → (sp_m_spelt [(0, 0, 104), (0, 0, 105), (0, 0, 103), (0, 0, 104), (0, 0, 0), (0, 0, 0)] σ (fun rv σ2 => G 287 [some (0, 0, x)] (rv.toList ++ []) σ2))) ∧ (fw_c x = 0 + 1 + 1 + 1 + 1 + 1 + 1 + 1 + 1 + 1 + 1 + 1 + 1 + 1 + 1 + 1 → (sp_m_spelt [(0, 0, 108), (0, 0, 111), (0, 0, 119), (0, 0, 0), (0, 0, 0), (0, 0, 0)] σ (fun rv σ2 => G 300 [some (0, 0, x)] (rv.toList ++ []) σ2))) ∧ True) : G 0 [some (0, 0, x)] [] σ := fw_on hG [93, 107, 123, 138, 152, 166, 180, 192, 205, 218, 230, 244, 258, 273, 287, 300, 315] 200 h
theorem fs_m_wordOf_315 {G : fw_K} {R : fw_KR} (hG : fw_cls st_m_wordOf R G) {a0 b0 : Int} {σ : ab_SG} (h : R (some (1, 0, b0)) σ) : G 315 [some (0, 0, a0)] [(1, 0, b0)] σ := fw_on hG [93, 107, 123, 138, 152, 166, 180, 192, 205, 218, 230, 244, 258, 273, 287, 300, 315] 200 h
theorem fs_m_wordOf_93 {G : fw_K} {R : fw_KR} (hG : fw_cls st_m_wordOf R G) {a0 b0 : Int} {σ : ab_SG} (h : R (some (1, 0, b0)) σ) : G 93 [some (0, 0, a0)] [(1, 0, b0)] σ := fw_on hG [93, 107, 123, 138, 152, 166, 180, 192, 205, 218, 230, 244, 258, 273, 287, 300, 315] 200 h
theorem fs_m_wordOf_107 {G : fw_K} {R : fw_KR} (hG : fw_cls st_m_wordOf R G) {a0 b0 : Int} {σ : ab_SG} (h : R (some (1, 0, b0)) σ) : G 107 [some (0, 0, a0)] [(1, 0, b0)] σ := fw_on hG [93, 107, 123, 138, 152, 166, 180, 192, 205, 218, 230, 244, 258, 273, 287, 300, 315] 200 h
theorem fs_m_wordOf_123 {G : fw_K} {R : fw_KR} (hG : fw_cls st_m_wordOf R G) {a0 b0 : Int} {σ : ab_SG} (h : R (some (1, 0, b0)) σ) : G 123 [some (0, 0, a0)] [(1, 0, b0)] σ := fw_on hG [93, 107, 123, 138, 152, 166, 180, 192, 205, 218, 230, 244, 258, 273, 287, 300, 315] 200 h
theorem fs_m_wordOf_138 {G : fw_K} {R : fw_KR} (hG : fw_cls st_m_wordOf R G) {a0 b0 : Int} {σ : ab_SG} (h : R (some (1, 0, b0)) σ) : G 138 [some (0, 0, a0)] [(1, 0, b0)] σ := fw_on hG [93, 107, 123, 138, 152, 166, 180, 192, 205, 218, 230, 244, 258, 273, 287, 300, 315] 200 h
theorem fs_m_wordOf_152 {G : fw_K} {R : fw_KR} (hG : fw_cls st_m_wordOf R G) {a0 b0 : Int} {σ : ab_SG} (h : R (some (1, 0, b0)) σ) : G 152 [some (0, 0, a0)] [(1, 0, b0)] σ := fw_on hG [93, 107, 123, 138, 152, 166, 180, 192, 205, 218, 230, 244, 258, 273, 287, 300, 315] 200 h
theorem fs_m_wordOf_166 {G : fw_K} {R : fw_KR} (hG : fw_cls st_m_wordOf R G) {a0 b0 : Int} {σ : ab_SG} (h : R (some (1, 0, b0)) σ) : G 166 [some (0, 0, a0)] [(1, 0, b0)] σ := fw_on hG [93, 107, 123, 138, 152, 166, 180, 192, 205, 218, 230, 244, 258, 273, 287, 300, 315] 200 h
theorem fs_m_wordOf_180 {G : fw_K} {R : fw_KR} (hG : fw_cls st_m_wordOf R G) {a0 b0 : Int} {σ : ab_SG} (h : R (some (1, 0, b0)) σ) : G 180 [some (0, 0, a0)] [(1, 0, b0)] σ := fw_on hG [93, 107, 123, 138, 152, 166, 180, 192, 205, 218, 230, 244, 258, 273, 287, 300, 315] 200 h
theorem fs_m_wordOf_192 {G : fw_K} {R : fw_KR} (hG : fw_cls st_m_wordOf R G) {a0 b0 : Int} {σ : ab_SG} (h : R (some (1, 0, b0)) σ) : G 192 [some (0, 0, a0)] [(1, 0, b0)] σ := fw_on hG [93, 107, 123, 138, 152, 166, 180, 192, 205, 218, 230, 244, 258, 273, 287, 300, 315] 200 h
theorem fs_m_wordOf_205 {G : fw_K} {R : fw_KR} (hG : fw_cls st_m_wordOf R G) {a0 b0 : Int} {σ : ab_SG} (h : R (some (1, 0, b0)) σ) : G 205 [some (0, 0, a0)] [(1, 0, b0)] σ := fw_on hG [93, 107, 123, 138, 152, 166, 180, 192, 205, 218, 230, 244, 258, 273, 287, 300, 315] 200 h
theorem fs_m_wordOf_218 {G : fw_K} {R : fw_KR} (hG : fw_cls st_m_wordOf R G) {a0 b0 : Int} {σ : ab_SG} (h : R (some (1, 0, b0)) σ) : G 218 [some (0, 0, a0)] [(1, 0, b0)] σ := fw_on hG [93, 107, 123, 138, 152, 166, 180, 192, 205, 218, 230, 244, 258, 273, 287, 300, 315] 200 h
theorem fs_m_wordOf_230 {G : fw_K} {R : fw_KR} (hG : fw_cls st_m_wordOf R G) {a0 b0 : Int} {σ : ab_SG} (h : R (some (1, 0, b0)) σ) : G 230 [some (0, 0, a0)] [(1, 0, b0)] σ := fw_on hG [93, 107, 123, 138, 152, 166, 180, 192, 205, 218, 230, 244, 258, 273, 287, 300, 315] 200 h
theorem fs_m_wordOf_244 {G : fw_K} {R : fw_KR} (hG : fw_cls st_m_wordOf R G) {a0 b0 : Int} {σ : ab_SG} (h : R (some (1, 0, b0)) σ) : G 244 [some (0, 0, a0)] [(1, 0, b0)] σ := fw_on hG [93, 107, 123, 138, 152, 166, 180, 192, 205, 218, 230, 244, 258, 273, 287, 300, 315] 200 h
theorem fs_m_wordOf_258 {G : fw_K} {R : fw_KR} (hG : fw_cls st_m_wordOf R G) {a0 b0 : Int} {σ : ab_SG} (h : R (some (1, 0, b0)) σ) : G 258 [some (0, 0, a0)] [(1, 0, b0)] σ := fw_on hG [93, 107, 123, 138, 152, 166, 180, 192, 205, 218, 230, 244, 258, 273, 287, 300, 315] 200 h
theorem fs_m_wordOf_273 {G : fw_K} {R : fw_KR} (hG : fw_cls st_m_wordOf R G) {a0 b0 : Int} {σ : ab_SG} (h : R (some (1, 0, b0)) σ) : G 273 [some (0, 0, a0)] [(1, 0, b0)] σ := fw_on hG [93, 107, 123, 138, 152, 166, 180, 192, 205, 218, 230, 244, 258, 273, 287, 300, 315] 200 h
theorem fs_m_wordOf_287 {G : fw_K} {R : fw_KR} (hG : fw_cls st_m_wordOf R G) {a0 b0 : Int} {σ : ab_SG} (h : R (some (1, 0, b0)) σ) : G 287 [some (0, 0, a0)] [(1, 0, b0)] σ := fw_on hG [93, 107, 123, 138, 152, 166, 180, 192, 205, 218, 230, 244, 258, 273, 287, 300, 315] 200 h
theorem fs_m_wordOf_300 {G : fw_K} {R : fw_KR} (hG : fw_cls st_m_wordOf R G) {a0 b0 : Int} {σ : ab_SG} (h : R (some (1, 0, b0)) σ) : G 300 [some (0, 0, a0)] [(1, 0, b0)] σ := fw_on hG [93, 107, 123, 138, 152, 166, 180, 192, 205, 218, 230, 244, 258, 273, 287, 300, 315] 200 h
abbrev fk_m_isIn : List fw_CR := []
abbrev st_m_isIn : fw_K → fw_KR → fw_K := fw_st vwCl nn_sh nn_kd fw_kv fw_wc (nn_KI20.map (fun x => x.1)) (nn_KJ20.map (fun x => x.1)) (nn_PF20.map (fun x => x.1)) (nn_PS20.map (fun x => x.1)) fk_m_isIn 0 nn_dt226 3 1
theorem fs_m_isIn_0 {G : fw_K} {R : fw_KR} (hG : fw_cls st_m_isIn R G) {x y z : Int} {σ : ab_SG} (h : (fw_c x < fw_c y → (0 ≤ fw_c 0 ∧ fw_c 0 ≤ 1) ∧ R (some (0, 0, 0)) σ) ∧ (fw_c y ≤ fw_c x → (fw_c z < fw_c x → (0 ≤ fw_c 0 ∧ fw_c 0 ≤ 1) ∧ R (some (0, 0, 0)) σ) ∧ (fw_c x ≤ fw_c z → (0 ≤ fw_c 1 ∧ fw_c 1 ≤ 1) ∧ R (some (0, 0, 1)) σ))) : G 0 [some (0, 0, x), some (0, 0, y), some (0, 0, z)] [] σ := fw_on hG [] 200 h
abbrev fk_m_bad : List fw_CR := []
abbrev st_m_bad : fw_K → fw_KR → fw_K := fw_st vwCl nn_sh nn_kd fw_kv fw_wc (nn_KI20.map (fun x => x.1)) (nn_KJ20.map (fun x => x.1)) (nn_PF20.map (fun x => x.1)) (nn_PS20.map (fun x => x.1)) fk_m_bad 0 nn_dt221 2 1
theorem fs_m_bad_0 {G : fw_K} {R : fw_KR} (hG : fw_cls st_m_bad R G) {x : Int} {σ : ab_SG} (h : (fw_c (σ 93 7) ≠ fw_c 1 → G 14 [some (2, 93, 0), some (0, 0, x)] [(0, 0, x), (2, 93, 0)] σ) ∧ (fw_c (σ 93 7) = fw_c 1 → G 14 [some (2, 93, 0), some (0, 0, x)] [(0, 0, 1), (2, 93, 0)] σ)) : G 0 [some (2, 93, 0), some (0, 0, x)] [] σ := fw_on hG [14] 200 h
theorem fs_m_bad_14 {G : fw_K} {R : fw_KR} (hG : fw_cls st_m_bad R G) {a1 b0 : Int} {σ : ab_SG} (h : (0 ≤ fw_c 0 ∧ fw_c 0 ≤ 1) ∧ R (some (0, 0, 0)) (ab_ups (ab_ups σ 93 10 (fw_c b0)) 93 11 (fw_c (σ 93 6)))) : G 14 [some (2, 93, 0), some (0, 0, a1)] [(0, 0, b0), (2, 93, 0)] σ := fw_on hG [14] 200 h
abbrev fk_m_isWord : List fw_CR := [(158, 1, false, 0, 1, sp_m_wordOf)]
abbrev st_m_isWord : fw_K → fw_KR → fw_K := fw_st vwCl nn_sh nn_kd fw_kv fw_wc (nn_KI20.map (fun x => x.1)) (nn_KJ20.map (fun x => x.1)) (nn_PF20.map (fun x => x.1)) (nn_PS20.map (fun x => x.1)) fk_m_isWord 2 nn_dt217 2 1
theorem fs_m_isWord_0 {G : fw_K} {R : fw_KR} (hG : fw_cls st_m_isWord R G) {x : Int} {σ : ab_SG} (h : (fw_c (σ 93 7) ≠ fw_c 2 → (0 ≤ fw_c 0 ∧ fw_c 0 ≤ 1) ∧ R (some (0, 0, 0)) σ) ∧ (fw_c (σ 93 7) = fw_c 2 → sp_m_wordOf [(0, 0, x)] σ (fun rv σ2 => G 16 [some (2, 93, 0), some (0, 0, x)] (rv.toList ++ [(1, 0, σ 93 12)]) σ2))) : G 0 [some (2, 93, 0), some (0, 0, x)] [] σ := fw_on hG [16] 200 h
theorem fs_m_isWord_16 {G : fw_K} {R : fw_KR} (hG : fw_cls st_m_isWord R G) {a1 b0 b1 : Int} {σ : ab_SG} (h : (fw_d b1 ≠ fw_d b0 → (0 ≤ fw_c 0 ∧ fw_c 0 ≤ 1) ∧ R (some (0, 0, 0)) σ) ∧ (fw_d b1 = fw_d b0 → (0 ≤ fw_c 1 ∧ fw_c 1 ≤ 1) ∧ R (some (0, 0, 1)) σ)) : G 16 [some (2, 93, 0), some (0, 0, a1)] [(1, 0, b0), (1, 0, b1)] σ := fw_on hG [16] 200 h
abbrev fk_m_isName : List fw_CR := [(158, 1, false, 0, 1, sp_m_wordOf)]
abbrev st_m_isName : fw_K → fw_KR → fw_K := fw_st vwCl nn_sh nn_kd fw_kv fw_wc (nn_KI20.map (fun x => x.1)) (nn_KJ20.map (fun x => x.1)) (nn_PF20.map (fun x => x.1)) (nn_PS20.map (fun x => x.1)) fk_m_isName 2 nn_dt223 2 1
theorem fs_m_isName_0 {G : fw_K} {R : fw_KR} (hG : fw_cls st_m_isName R G) {σ : ab_SG} (h : (fw_c (σ 93 7) = fw_c 2 → G 12 [some (2, 93, 0), some (0, 0, 0)] [] σ) ∧ (fw_c (σ 93 7) ≠ fw_c 2 → (0 ≤ fw_c 0 ∧ fw_c 0 ≤ 1) ∧ R (some (0, 0, 0)) σ)) : G 0 [some (2, 93, 0), none] [] σ := fw_on hG [12, 26] 200 h
theorem fs_m_isName_12 {G : fw_K} {R : fw_KR} (hG : fw_cls st_m_isName R G) {a1 : Int} {σ : ab_SG} (h : (fw_c 16 < fw_c a1 → (0 ≤ fw_c 1 ∧ fw_c 1 ≤ 1) ∧ R (some (0, 0, 1)) σ) ∧ (fw_c a1 ≤ fw_c 16 → sp_m_wordOf [(0, 0, a1)] σ (fun rv σ2 => G 26 [some (2, 93, 0), some (0, 0, a1)] (rv.toList ++ [(1, 0, σ 93 12)]) σ2))) : G 12 [some (2, 93, 0), some (0, 0, a1)] [] σ := fw_on hG [12, 26] 200 h
theorem fs_m_isName_26 {G : fw_K} {R : fw_KR} (hG : fw_cls st_m_isName R G) {a1 b0 b1 : Int} {σ : ab_SG} (h : (fw_d b1 ≠ fw_d b0 → G 12 [some (2, 93, 0), some (0, 0, a1 + 1)] [] σ) ∧ (fw_d b1 = fw_d b0 → (0 ≤ fw_c 0 ∧ fw_c 0 ≤ 1) ∧ R (some (0, 0, 0)) σ)) : G 26 [some (2, 93, 0), some (0, 0, a1)] [(1, 0, b0), (1, 0, b1)] σ := fw_on hG [12, 26] 200 h
abbrev fk_m_isSign : List fw_CR := []
abbrev st_m_isSign : fw_K → fw_KR → fw_K := fw_st vwCl nn_sh nn_kd fw_kv fw_wc (nn_KI20.map (fun x => x.1)) (nn_KJ20.map (fun x => x.1)) (nn_PF20.map (fun x => x.1)) (nn_PS20.map (fun x => x.1)) fk_m_isSign 0 nn_dt236 2 1
theorem fs_m_isSign_0 {G : fw_K} {R : fw_KR} (hG : fw_cls st_m_isSign R G) {x : Int} {σ : ab_SG} (h : (fw_c (σ 93 7) ≠ fw_c 4 → (0 ≤ fw_c 0 ∧ fw_c 0 ≤ 1) ∧ R (some (0, 0, 0)) σ) ∧ (fw_c (σ 93 7) = fw_c 4 → (fw_c (σ 93 9) ≠ fw_c x → (0 ≤ fw_c 0 ∧ fw_c 0 ≤ 1) ∧ R (some (0, 0, 0)) σ) ∧ (fw_c (σ 93 9) = fw_c x → (0 ≤ fw_c 1 ∧ fw_c 1 ≤ 1) ∧ R (some (0, 0, 1)) σ))) : G 0 [some (2, 93, 0), some (0, 0, x)] [] σ := fw_on hG [] 200 h
abbrev fk_m_isNumber : List fw_CR := [(168, 1, true, 11, 0, sp_m_bad), (171, 3, false, 0, 0, sp_m_isIn)]
abbrev st_m_isNumber : fw_K → fw_KR → fw_K := fw_st vwCl nn_sh nn_kd fw_kv fw_wc (nn_KI20.map (fun x => x.1)) (nn_KJ20.map (fun x => x.1)) (nn_PF20.map (fun x => x.1)) (nn_PS20.map (fun x => x.1)) fk_m_isNumber 1 nn_dt225 3 1
theorem fs_m_isNumber_0 {G : fw_K} {R : fw_KR} (hG : fw_cls st_m_isNumber R G) {x y : Int} {σ : ab_SG} (h : (fw_c (σ 93 7) = fw_c 3 → sp_m_isIn [(0, 0, σ 93 8), (0, 0, x), (0, 0, y)] σ (fun rv σ2 => G 23 [some (2, 93, 0), some (0, 0, x), some (0, 0, y)] (rv.toList ++ []) σ2)) ∧ (fw_c (σ 93 7) ≠ fw_c 3 → sp_m_bad [(2, 93, 0), (0, 0, 1)] σ (fun rv σ2 => G 13 [some (2, 93, 0), some (0, 0, x), some (0, 0, y)] (rv.toList ++ []) σ2))) : G 0 [some (2, 93, 0), some (0, 0, x), some (0, 0, y)] [] σ := fw_on hG [13, 23, 31] 200 h
theorem fs_m_isNumber_23 {G : fw_K} {R : fw_KR} (hG : fw_cls st_m_isNumber R G) {a1 a2 b0 : Int} {σ : ab_SG} (h : (fw_c b0 ≠ 0 → (0 ≤ fw_c 1 ∧ fw_c 1 ≤ 1) ∧ R (some (0, 0, 1)) (ab_ups σ 93 13 (fw_c (σ 93 8)))) ∧ (fw_c b0 = 0 → sp_m_bad [(2, 93, 0), (0, 0, 2)] σ (fun rv σ2 => G 31 [some (2, 93, 0), some (0, 0, a1), some (0, 0, a2)] (rv.toList ++ []) σ2))) : G 23 [some (2, 93, 0), some (0, 0, a1), some (0, 0, a2)] [(0, 0, b0)] σ := fw_on hG [13, 23, 31] 200 h
theorem fs_m_isNumber_13 {G : fw_K} {R : fw_KR} (hG : fw_cls st_m_isNumber R G) {a1 a2 b0 : Int} {σ : ab_SG} (h : (0 ≤ fw_c b0 ∧ fw_c b0 ≤ 1) ∧ R (some (0, 0, b0)) σ) : G 13 [some (2, 93, 0), some (0, 0, a1), some (0, 0, a2)] [(0, 0, b0)] σ := fw_on hG [13, 23, 31] 200 h
theorem fs_m_isNumber_31 {G : fw_K} {R : fw_KR} (hG : fw_cls st_m_isNumber R G) {a1 a2 b0 : Int} {σ : ab_SG} (h : (0 ≤ fw_c b0 ∧ fw_c b0 ≤ 1) ∧ R (some (0, 0, b0)) σ) : G 31 [some (2, 93, 0), some (0, 0, a1), some (0, 0, a2)] [(0, 0, b0)] σ := fw_on hG [13, 23, 31] 200 h
section
variable {l : Launch} {cy : Nat → ClassId} {ad wr cr : Nat → Nat} {D : va_G}
theorem fm_m_spelt (hinj : nn_inj ad) : fw_H l cy ad wr cr D 219 0 sp_m_spelt := fw_mk hinj (⟨"NameNotesModel", "spelt", "(IIIIII)J"⟩, prog_14_method_18_code, 8, (Option.some Jvm.ClassFile.FieldType.long), 6, false, 2) rfl rfl nn_KI20_ok nn_KJ20_ok nn_PF20_ok nn_PS20_ok (by decide +kernel) rfl rfl (fun _ h => absurd h List.not_mem_nil) (fun as σ K h => by
  obtain ⟨a, b, c, d, e, f, rfl, ⟨ha, hb, hc, hd, he, hf⟩, h⟩ := h
  have ea : fw_c a = a := fw_c_id (by omega) (by omega)
  have eb : fw_c b = b := fw_c_id (by omega) (by omega)
  have ec : fw_c c = c := fw_c_id (by omega) (by omega)
  have ed : fw_c d = d := fw_c_id (by omega) (by omega)
  have ee : fw_c e = e := fw_c_id (by omega) (by omega)
  have ef : fw_c f = f := fw_c_id (by omega) (by omega)
  refine ⟨rfl, fun G hG => ?_⟩
  have at78 : ∀ v : Int, K (some (1, 0, if 0 < f then 27 * v + f - 96 else v)) σ → G 78 [some (0, 0, a), some (0, 0, b), some (0, 0, c), some (0, 0, d), some (0, 0, e), some (0, 0, f), some (1, 0, v), none] [] σ := fun v k => by
    refine fs_m_spelt_78 hG ?_
    rw [ef]
    refine ⟨fun q => ?_, fun q => ?_⟩
    · rw [if_neg (by omega)] at k; exact k
    · rw [if_pos q] at k; exact k
  have at57 : ∀ v : Int, K (some (1, 0, if 0 < f then 27 * (if 0 < e then 27 * v + e - 96 else v) + f - 96 else (if 0 < e then 27 * v + e - 96 else v))) σ → G 57 [some (0, 0, a), some (0, 0, b), some (0, 0, c), some (0, 0, d), some (0, 0, e), some (0, 0, f), some (1, 0, v), none] [] σ := fun v k => by
    refine fs_m_spelt_57 hG ?_
    rw [ee]
    refine ⟨fun q => at78 _ ?_, fun q => at78 _ ?_⟩
    · rw [if_neg (show ¬ 0 < e by omega)] at k; exact k
    · rw [if_pos (show 0 < e from q)] at k; exact k
  have at38 : ∀ v : Int, K (some (1, 0, if 0 < f then 27 * (if 0 < e then 27 * (if 0 < d then 27 * v + d - 96 else v) + e - 96 else (if 0 < d then 27 * v + d - 96 else v)) + f - 96 else (if 0 < e then 27 * (if 0 < d then 27 * v + d - 96 else v) + e - 96 else (if 0 < d then 27 * v + d - 96 else v)))) σ → G 38 [some (0, 0, a), some (0, 0, b), some (0, 0, c), some (0, 0, d), some (0, 0, e), some (0, 0, f), some (1, 0, v), none] [] σ := fun v k => by
    refine fs_m_spelt_38 hG ?_
    rw [ed]
    refine ⟨fun q => at57 _ ?_, fun q => at57 _ ?_⟩
    · rw [if_neg (show ¬ 0 < d by omega)] at k; exact k
    · rw [if_pos (show 0 < d from q)] at k; exact k
  refine fs_m_spelt_0 hG ?_
  rw [ea, eb, ec]
  unfold spv at h
  dsimp only at h
  refine ⟨fun q => at38 _ ?_, fun q => at38 _ ?_⟩
  · rw [if_neg (show ¬ 0 < c by omega)] at h; exact h
  · rw [if_pos (show 0 < c from q)] at h; exact h)
theorem fm_m_wordOf (hinj : nn_inj ad) : fw_H l cy ad wr cr D 218 1 sp_m_wordOf := fw_mk hinj (⟨"NameNotesModel", "wordOf", "(I)J"⟩, prog_14_method_19_code, 1, (Option.some Jvm.ClassFile.FieldType.long), 1, false, 2) rfl rfl nn_KI20_ok nn_KJ20_ok nn_PF20_ok nn_PS20_ok (by decide +kernel) rfl rfl (List.forall_mem_cons.mpr ⟨fw_row nn_PM20_ok (x := 154) (k := 0) (mn := 219) (np := 6) (ob := false) (ci := 0) (⟨"NameNotesModel", "spelt", "(IIIIII)J"⟩, prog_14_method_18_code, 8, (Option.some Jvm.ClassFile.FieldType.long), 6, false, 2) rfl (by decide +kernel) rfl rfl (by decide) (fun q => by cases q) (fm_m_spelt hinj), (fun _ h => absurd h List.not_mem_nil)⟩) (fun as σ K h => by
  obtain ⟨x, rfl, hx, h⟩ := h
  have ex : fw_c (x : Int) = x := fw_c_id (by omega) (by omega)
  refine ⟨rfl, fun G hG => fs_m_wordOf_0 hG ?_⟩
  rw [ex]
  have go : ∀ k : Nat, x = k → ∀ v : Int, v = rf_w 7 (fw_wc k) → K (some (1, 0, v)) σ := fun k hk v hv => by
    rw [hv, ← hk]; exact h
  exact ⟨⟨fun q => absurd q (by omega), fun q => ⟨98, 101, 97, 116, 115, 0, rfl, by decide, fs_m_wordOf_315 hG (go 16 (by omega) _ (by decide +kernel))⟩⟩, fun q => ⟨116, 117, 110, 101, 0, 0, rfl, by decide, fs_m_wordOf_93 hG (go 0 (by omega) _ (by decide +kernel))⟩, fun q => ⟨99, 108, 117, 101, 0, 0, rfl, by decide, fs_m_wordOf_107 hG (go 1 (by omega) _ (by decide +kernel))⟩, fun q => ⟨112, 101, 114, 115, 111, 110, rfl, by decide, fs_m_wordOf_123 hG (go 2 (by omega) _ (by decide +kernel))⟩, fun q => ⟨107, 110, 111, 119, 115, 0, rfl, by decide, fs_m_wordOf_138 hG (go 3 (by omega) _ (by decide +kernel))⟩, fun q => ⟨100, 97, 114, 101, 0, 0, rfl, by decide, fs_m_wordOf_152 hG (go 4 (by omega) _ (by decide +kernel))⟩, fun q => ⟨102, 114, 111, 109, 0, 0, rfl, by decide, fs_m_wordOf_166 hG (go 5 (by omega) _ (by decide +kernel))⟩, fun q => ⟨110, 97, 109, 101, 0, 0, rfl, by decide, fs_m_wordOf_180 hG (go 6 (by omega) _ (by decide +kernel))⟩, fun q => ⟨111, 114, 0, 0, 0, 0, rfl, by decide, fs_m_wordOf_192 hG (go 7 (by omega) _ (by decide +kernel))⟩, fun q => ⟨97, 110, 100, 0, 0, 0, rfl, by decide, fs_m_wordOf_205 hG (go 8 (by omega) _ (by decide +kernel))⟩, fun q => ⟨110, 111, 116, 0, 0, 0, rfl, by decide, fs_m_wordOf_218 hG (go 9 (by omega) _ (by decide +kernel))⟩, fun q => ⟨105, 110, 0, 0, 0, 0, rfl, by decide, fs_m_wordOf_230 hG (go 10 (by omega) _ (by decide +kernel))⟩, fun q => ⟨115, 117, 114, 101, 0, 0, rfl, by decide, fs_m_wordOf_244 hG (go 11 (by omega) _ (by decide +kernel))⟩, fun q => ⟨108, 105, 107, 101, 0, 0, rfl, by decide, fs_m_wordOf_258 hG (go 12 (by omega) _ (by decide +kernel))⟩, fun q => ⟨110, 111, 116, 101, 115, 0, rfl, by decide, fs_m_wordOf_273 hG (go 13 (by omega) _ (by decide +kernel))⟩, fun q => ⟨104, 105, 103, 104, 0, 0, rfl, by decide, fs_m_wordOf_287 hG (go 14 (by omega) _ (by decide +kernel))⟩, fun q => ⟨108, 111, 119, 0, 0, 0, rfl, by decide, fs_m_wordOf_300 hG (go 15 (by omega) _ (by decide +kernel))⟩, trivial⟩)
theorem fm_m_isIn (hinj : nn_inj ad) : fw_H l cy ad wr cr D 226 0 sp_m_isIn := fw_mk hinj (⟨"NameNotesModel", "isIn", "(III)Z"⟩, prog_14_method_8_code, 3, (Option.some Jvm.ClassFile.FieldType.boolean), 3, false, 1) rfl rfl nn_KI20_ok nn_KJ20_ok nn_PF20_ok nn_PS20_ok (by decide +kernel) rfl rfl (fun _ h => absurd h List.not_mem_nil) (fun as σ K h => by
  obtain ⟨x, y, z, rfl, h⟩ := h
  refine ⟨rfl, fun G hG => fs_m_isIn_0 hG ⟨fun q => ⟨fw_01, ?_⟩, fun q => ⟨fun q2 => ⟨fw_01, ?_⟩, fun q2 => ⟨fw_11, ?_⟩⟩⟩⟩
  · rw [fw_bo_f (fun y => absurd q (by omega))] at h; exact h
  · rw [fw_bo_f (fun y => absurd q2 (by omega))] at h; exact h
  · rw [fw_bo_t ⟨q, q2⟩] at h; exact h)
theorem fm_m_bad (hinj : nn_inj ad) : fw_H l cy ad wr cr D 221 0 sp_m_bad := fw_mk hinj (⟨"NameNotesModel", "bad", "(I)Z"⟩, prog_14_method_23_code, 2, (Option.some Jvm.ClassFile.FieldType.boolean), 1, true, 1) rfl rfl nn_KI20_ok nn_KJ20_ok nn_PF20_ok nn_PS20_ok (by decide +kernel) rfl rfl (fun _ h => absurd h List.not_mem_nil) (fun as σ K h => by
  obtain ⟨x, rfl, hx, hk, h⟩ := h
  have ek : fw_c (σ 93 7) = σ 93 7 := fw_c_id (by omega) (by omega)
  have ex : fw_c x = x := fw_c_id (by omega) (by omega)
  refine ⟨rfl, fun G hG => fs_m_bad_0 hG ?_⟩
  have at14 : ∀ v : Int, fw_c v = v → v = (if σ 93 7 = 1 then 1 else x) → G 14 [some (2, 93, 0), some (0, 0, x)] [(0, 0, v), (2, 93, 0)] σ := fun v hv hw => by
    refine fs_m_bad_14 hG ⟨fw_01, ?_⟩
    rw [hv]
    exact h _ (fw_okM_ups (fw_okM_ups (fw_okM_refl _ _) (by decide)) (by decide)) (((ab_ups_ne (by decide)).trans ab_ups_eq).trans hw) ab_ups_eq
  refine ⟨fun q => at14 x ex (if_neg (fun z => q (by rw [ek, z, fw_c1]))).symm, fun q => at14 1 fw_c1 (if_pos (ek.symm.trans (q.trans fw_c1))).symm⟩)
theorem fm_m_isWord (hinj : nn_inj ad) : fw_H l cy ad wr cr D 217 2 sp_m_isWord := fw_mk hinj (⟨"NameNotesModel", "isWord", "(I)Z"⟩, prog_14_method_20_code, 2, (Option.some Jvm.ClassFile.FieldType.boolean), 1, true, 1) rfl rfl nn_KI20_ok nn_KJ20_ok nn_PF20_ok nn_PS20_ok (by decide +kernel) rfl rfl (List.forall_mem_cons.mpr ⟨fw_row nn_PM20_ok (x := 158) (k := 0) (mn := 218) (np := 1) (ob := false) (ci := 0) (⟨"NameNotesModel", "wordOf", "(I)J"⟩, prog_14_method_19_code, 1, (Option.some Jvm.ClassFile.FieldType.long), 1, false, 2) rfl (by decide +kernel) rfl rfl (by decide) (fun q => by cases q) (fm_m_wordOf hinj), (fun _ h => absurd h List.not_mem_nil)⟩) (fun as σ K h => by
  obtain ⟨x, e, p, rfl, hx, hm, h⟩ := h
  have mk := mg_kind hm
  have ek : fw_c (σ 93 7) = σ 93 7 := fw_c_id (by omega) (by omega)
  have e2 : fw_c 2 = 2 := fw_c_id (by decide) (by decide)
  have hw := tw_iff (e := e) (p := p) (k := x) (by omega)
  refine ⟨rfl, fun G hG => fs_m_isWord_0 hG ?_⟩
  rw [ek, e2]
  refine ⟨fun q => ⟨fw_01, ?_⟩, fun q => ⟨x, rfl, hx, fs_m_isWord_16 hG ?_⟩⟩
  · rw [fw_bo_f (fun y => q (mk.1.mpr (hw.mp y).1))] at h; exact h
  · have k2 := mk.1.mp q
    obtain ⟨-, ok, e12⟩ := hm.2.2.2.2.1 k2
    have b1 := rf_w_in 7 (tk e p).2.2.2.1
    have b2 := rf_w_in 7 (fw_wc x)
    have hB := rf_B7
    have d1 : fw_d (rf_w 7 (tk e p).2.2.2.1) = rf_w 7 (tk e p).2.2.2.1 := fw_d_id (by omega) (by omega)
    have d2 : fw_d (rf_w 7 (fw_wc x)) = rf_w 7 (fw_wc x) := fw_d_id (by omega) (by omega)
    rw [e12, d1, d2]
    refine ⟨fun y => ⟨fw_01, ?_⟩, fun y => ⟨fw_11, ?_⟩⟩
    · rw [fw_bo_f (fun v => y (by rw [(hw.mp v).2]; rfl))] at h; exact h
    · have := rf_inj 7 _ _ ok (wc_ok x (by omega)) y
      rw [fw_bo_t (hw.mpr ⟨k2, this.symm⟩)] at h; exact h)
theorem fm_m_isName (hinj : nn_inj ad) : fw_H l cy ad wr cr D 223 2 sp_m_isName := fw_mk hinj (⟨"NameNotesModel", "isName", "()Z"⟩, prog_14_method_22_code, 2, (Option.some Jvm.ClassFile.FieldType.boolean), 0, true, 1) rfl rfl nn_KI20_ok nn_KJ20_ok nn_PF20_ok nn_PS20_ok (by decide +kernel) rfl rfl (List.forall_mem_cons.mpr ⟨fw_row nn_PM20_ok (x := 158) (k := 0) (mn := 218) (np := 1) (ob := false) (ci := 0) (⟨"NameNotesModel", "wordOf", "(I)J"⟩, prog_14_method_19_code, 1, (Option.some Jvm.ClassFile.FieldType.long), 1, false, 2) rfl (by decide +kernel) rfl rfl (by decide) (fun q => by cases q) (fm_m_wordOf hinj), (fun _ h => absurd h List.not_mem_nil)⟩) (fun as σ K h => by
  obtain ⟨e, p, rfl, hm, h⟩ := h
  have mk := mg_kind hm
  have ek : fw_c (σ 93 7) = σ 93 7 := fw_c_id (by omega) (by omega)
  have e2 : fw_c 2 = 2 := fw_c_id (by decide) (by decide)
  have e16 : fw_c 16 = 16 := fw_c_id (by decide) (by decide)
  have hw := tw_neg (e := e) (p := p)
  refine ⟨rfl, fun G hG => fs_m_isName_0 hG ?_⟩
  rw [ek, e2]
  refine ⟨fun q => ?_, fun q => ⟨fw_01, ?_⟩⟩
  · have k2 := mk.1.mp q
    obtain ⟨-, ok, e12⟩ := hm.2.2.2.2.1 k2
    have b1 := rf_w_in 7 (tk e p).2.2.2.1
    have hB := rf_B7
    have d1 : fw_d (rf_w 7 (tk e p).2.2.2.1) = rf_w 7 (tk e p).2.2.2.1 := fw_d_id (by omega) (by omega)
    have key : ∀ (f i : Nat), i + f = 17 → (∀ k : Nat, k < i → fw_wc k ≠ pr_wd e p) → G 12 [some (2, 93, 0), some (0, 0, (i : Int))] [] σ := by
      intro f
      induction f with
      | zero =>
        intro i hi hn
        have ei : fw_c (i : Int) = i := fw_c_id (by omega) (by omega)
        refine fs_m_isName_12 hG ?_
        rw [e16, ei]
        refine ⟨fun _ => ⟨fw_11, ?_⟩, fun z => absurd z (by omega)⟩
        rw [fw_bo_t (hw.mpr ⟨k2, fun k hk => hn k (by omega)⟩)] at h; exact h
      | succ f ih =>
        intro i hi hn
        have ei : fw_c (i : Int) = i := fw_c_id (by omega) (by omega)
        have b2 := rf_w_in 7 (fw_wc i)
        have d2 : fw_d (rf_w 7 (fw_wc i)) = rf_w 7 (fw_wc i) := fw_d_id (by omega) (by omega)
        refine fs_m_isName_12 hG ?_
        rw [e16, ei]
        refine ⟨fun z => absurd z (by omega), fun _ => ⟨i, rfl, by omega, fs_m_isName_26 hG ?_⟩⟩
        rw [e12, d1, d2]
        refine ⟨fun y => ih (i + 1) (by omega) (fun k hk => ?_), fun y => ⟨fw_01, ?_⟩⟩
        · by_cases c : k = i
          · rw [c]; exact fun v => y (by rw [v]; rfl)
          · exact hn k (by omega)
        · have := rf_inj 7 _ _ ok (wc_ok i (by omega)) y
          rw [fw_bo_f (fun v => (hw.mp v).2 i (by omega) this.symm)] at h; exact h
    exact key 17 0 rfl (fun k hk => absurd hk (Nat.not_lt_zero k))
  · rw [fw_bo_f (fun y => q (mk.1.mpr y.1))] at h; exact h)
theorem fm_m_isSign (hinj : nn_inj ad) : fw_H l cy ad wr cr D 236 0 sp_m_isSign := fw_mk hinj (⟨"NameNotesModel", "isSign", "(I)Z"⟩, prog_14_method_21_code, 2, (Option.some Jvm.ClassFile.FieldType.boolean), 1, true, 1) rfl rfl nn_KI20_ok nn_KJ20_ok nn_PF20_ok nn_PS20_ok (by decide +kernel) rfl rfl (fun _ h => absurd h List.not_mem_nil) (fun as σ K h => by
  obtain ⟨x, e, p, rfl, hx, hm, h⟩ := h
  have mk := mg_kind hm
  have ek : fw_c (σ 93 7) = σ 93 7 := fw_c_id (by omega) (by omega)
  have e4 : fw_c 4 = 4 := fw_c_id (by decide) (by decide)
  have ex : fw_c x = x := fw_c_id (by omega) (by omega)
  obtain ⟨-, -, h0, h1, h2, h3, h4⟩ := hm
  refine ⟨rfl, fun G hG => fs_m_isSign_0 hG ?_⟩
  rw [ek, e4, ex]
  have kd := tk_kind e p
  unfold tk_kd at kd
  refine ⟨fun q => ⟨fw_01, ?_⟩, fun q => ?_⟩
  · rw [fw_bo_f (fun y => q (h4 (by omega)).1)] at h; exact h
  · have hs : (tk e p).1 = 59 ∨ (60 ≤ (tk e p).1 ∧ (tk e p).1 ≤ 62) ∨ (tk e p).1 = 40 ∨ (tk e p).1 = 41 := by omega
    have e9 := (h4 hs).2
    have ec : fw_c (tk e p).1 = (tk e p).1 := fw_c_id (by omega) (by omega)
    rw [e9, ec]
    refine ⟨fun y => ⟨fw_01, ?_⟩, fun y => ⟨fw_11, ?_⟩⟩
    · rw [fw_bo_f y] at h; exact h
    · rw [fw_bo_t y] at h; exact h)
theorem fm_m_isNumber (hinj : nn_inj ad) : fw_H l cy ad wr cr D 225 1 sp_m_isNumber := fw_mk hinj (⟨"NameNotesModel", "isNumber", "(II)Z"⟩, prog_14_method_24_code, 3, (Option.some Jvm.ClassFile.FieldType.boolean), 2, true, 1) rfl rfl nn_KI20_ok nn_KJ20_ok nn_PF20_ok nn_PS20_ok (by decide +kernel) rfl rfl (List.forall_mem_cons.mpr ⟨fw_row nn_PM20_ok (x := 168) (k := 0) (mn := 221) (np := 1) (ob := true) (ci := 11) (⟨"NameNotesModel", "bad", "(I)Z"⟩, prog_14_method_23_code, 2, (Option.some Jvm.ClassFile.FieldType.boolean), 1, true, 1) rfl (by decide +kernel) rfl rfl (by decide) (fun _ => ⟨_, _, rfl⟩) (fm_m_bad hinj), (List.forall_mem_cons.mpr ⟨fw_row nn_PM20_ok (x := 171) (k := 0) (mn := 226) (np := 3) (ob := false) (ci := 0) (⟨"NameNotesModel", "isIn", "(III)Z"⟩, prog_14_method_8_code, 3, (Option.some Jvm.ClassFile.FieldType.boolean), 3, false, 1) rfl (by decide +kernel) rfl rfl (by decide) (fun q => by cases q) (fm_m_isIn hinj), (fun _ h => absurd h List.not_mem_nil)⟩)⟩) (fun as σ K h => by
  obtain ⟨a, b, e, p, rfl, hab, hm, h0, h1⟩ := h
  have mk := mg_kind hm
  have ek : fw_c (σ 93 7) = σ 93 7 := fw_c_id (by omega) (by omega)
  have e3 : fw_c 3 = 3 := fw_c_id (by decide) (by decide)
  have ea : fw_c a = a := fw_c_id (by omega) (by omega)
  have eb : fw_c b = b := fw_c_id (by omega) (by omega)
  unfold pr_nm at h0 h1
  refine ⟨rfl, fun G hG => fs_m_isNumber_0 hG ?_⟩
  rw [ek, e3]
  refine ⟨fun q => ?_, fun q => ?_⟩
  · have k3 := mk.2.1.mp q
    obtain ⟨-, e8, n0, n1⟩ := hm.2.2.2.2.2.1 k3
    have ec : fw_c (tk e p).2.2.2.2 = (tk e p).2.2.2.2 := fw_c_id (by omega) (by omega)
    rw [if_pos k3] at h0 h1
    rw [e8]
    refine ⟨_, _, _, rfl, fs_m_isNumber_23 hG ?_⟩
    rw [e8, ec, ea, eb]
    refine ⟨fun z => ⟨fw_11, ?_⟩, fun z => ?_⟩
    · have z := fw_bo_ne z
      rw [if_pos z] at h1
      exact h1 rfl z.1 z.2
    · have z := fw_bo_eq z
      rw [if_neg z] at h0
      refine ⟨2, rfl, by decide, by omega, fun σ' hM h10 _ => fs_m_isNumber_31 hG ⟨fw_01, h0 (by decide) σ' (fw_okM_tr (fw_okM_refl _ _) hM (by decide)) ?_⟩⟩
      rw [h10, if_neg (by omega)]
  · have k3 : ¬ (tk e p).1 = 3 := fun y => q (mk.2.1.mpr y)
    rw [if_neg k3] at h0
    refine ⟨1, rfl, by decide, by omega, fun σ' hM h10 _ => fs_m_isNumber_13 hG ⟨fw_01, h0 (by decide) σ' (fw_okM_tr (fw_okM_refl _ _) hM (by decide)) ?_⟩⟩
    rw [h10]
    split <;> rfl)
end
