section
/-! the class's reader: how many first notes two tunes share; all lines -/
def sp_pair : fw_SP := fun as σ K => ∃ x y w : Int, as = [(0, 0, x), (0, 0, y), (0, 0, w)] ∧ K (some (0, 0, (w * 9 + x) * 9 + y)) σ
def sm_ok (σ : ab_SG) : Prop := (0 ≤ σ 49 11 ∧ σ 49 11 ≤ 9) ∧ ∀ j : Nat, j < 9 → 0 ≤ σ 52 j ∧ σ 52 j ≤ 9
def sp_isTune49 : fw_SP := fun as σ K => ∃ x : Int, as = [(2, 49, 0), (0, 0, x)] ∧ K (some (0, 0, fw_bo (0 ≤ fw_c x ∧ fw_c x < fw_c (σ 49 11)))) σ
def sp_hasNote49 : fw_SP := fun as σ K => ∃ x i : Int, as = [(2, 49, 0), (0, 0, x), (0, 0, i)] ∧ sm_ok σ ∧ (0 ≤ x ∧ x < 9 ∧ 0 ≤ i ∧ i < 9) ∧ K (some (0, 0, fw_bo (x < σ 49 11 ∧ i < σ 52 x.toNat))) σ
def sp_pitch49 : fw_SP := fun as σ K => ∃ x i : Int, as = [(2, 49, 0), (0, 0, x), (0, 0, i)] ∧ (0 ≤ x ∧ x < 9 ∧ 0 ≤ i ∧ i < 9) ∧ K (some (0, 0, σ 50 (x * 9 + i).toNat)) σ
def sp_beat49 : fw_SP := fun as σ K => ∃ x i : Int, as = [(2, 49, 0), (0, 0, x), (0, 0, i)] ∧ (0 ≤ x ∧ x < 9 ∧ 0 ≤ i ∧ i < 9) ∧ K (some (0, 0, σ 51 (x * 9 + i).toNat)) σ
/-- note i of tunes x and y is the same, in way w -/
abbrev pr_sn (A : ab_SG) (x y i w : Int) : Prop :=
  if (x < A 49 11 ∧ i < A 52 x.toNat) ∧ (y < A 49 11 ∧ i < A 52 y.toNat) then
    (if w = 3 then fw_c (A 50 (x * 9 + i).toNat - A 50 (x * 9 + 0).toNat) = fw_c (A 50 (y * 9 + i).toNat - A 50 (y * 9 + 0).toNat)
    else (w = 2 ∨ fw_c (A 50 (x * 9 + i).toNat) = fw_c (A 50 (y * 9 + i).toNat)) ∧ (w = 1 ∨ fw_c (A 51 (x * 9 + i).toNat) = fw_c (A 51 (y * 9 + i).toNat)))
  else ((x < A 49 11 ∧ i < A 52 x.toNat) ↔ (y < A 49 11 ∧ i < A 52 y.toNat))
def pr_cs (A : ab_SG) (x y w : Int) : Nat → Nat → Int
  | 0, i => i
  | f + 1, i => if pr_sn A x y i w then pr_cs A x y w f (i + 1) else i
theorem pr_cs_in {A : ab_SG} {x y w : Int} : ∀ f i : Nat, (i : Int) ≤ pr_cs A x y w f i ∧ pr_cs A x y w f i ≤ i + f := by
  intro f
  induction f with
  | zero => intro i; exact ⟨Int.le_refl _, by show (i : Int) ≤ i + ((0 : Nat) : Int); omega⟩
  | succ f ih =>
    intro i
    have := ih (i + 1)
    unfold pr_cs
    split <;> omega
theorem pr_cs_cong {A B : ab_SG} (h : ∀ a b : Nat, a ≠ 53 → A a b = B a b) {x y w : Int} : ∀ f i : Nat, pr_cs A x y w f i = pr_cs B x y w f i := by
  intro f
  induction f with
  | zero => intro i; rfl
  | succ f ih =>
    intro i
    unfold pr_cs
    have e : pr_sn A x y i w ↔ pr_sn B x y i w := by
      unfold pr_sn
      simp only [h 49 _ (by decide), h 50 _ (by decide), h 51 _ (by decide), h 52 _ (by decide)]
    by_cases q : pr_sn A x y i w
    · rw [if_pos q, if_pos (e.mp q), ih]
    · rw [if_neg q, if_neg (fun z => q (e.mpr z))]
def sp_sameNote49 : fw_SP := fun as σ K => ∃ x y i w : Int, as = [(2, 49, 0), (0, 0, x), (0, 0, y), (0, 0, i), (0, 0, w)] ∧ sm_ok σ ∧ (0 ≤ x ∧ x < 9 ∧ 0 ≤ y ∧ y < 9 ∧ 0 ≤ i ∧ i < 9 ∧ 0 ≤ w ∧ w < 4) ∧ K (some (0, 0, fw_bo (pr_sn σ x y i w))) σ
def sp_countShared49 : fw_SP := fun as σ K => ∃ x y w : Int, as = [(2, 49, 0), (0, 0, x), (0, 0, y), (0, 0, w)] ∧ sm_ok σ ∧ (0 ≤ x ∧ x < 9 ∧ 0 ≤ y ∧ y < 9 ∧ 0 ≤ w ∧ w < 4) ∧ K (some (0, 0, pr_cs σ x y w 9 0)) σ
def sp_compareAll : fw_SP := fun as σ K => as = [(2, 49, 0)] ∧ sm_ok σ ∧ ∀ σ' : ab_SG, (∀ a b : Nat, a ≠ 53 → σ' a b = σ a b) → (∀ w x y : Nat, w < 4 → (x : Int) < σ 49 11 → (y : Int) < σ 49 11 → σ' 53 ((w * 9 + x) * 9 + y) = pr_cs σ x y w 9 0) → K none σ'
def ca_is (σ σ1 : ab_SG) (w x y : Nat) : Prop := (∀ a b : Nat, a ≠ 53 → σ1 a b = σ a b) ∧ ∀ w' x' y' : Nat, w' < 4 → (x' : Int) < σ 49 11 → (y' : Int) < σ 49 11 → (w' < w ∨ (w' = w ∧ (x' < x ∨ (x' = x ∧ y' < y)))) → σ1 53 ((w' * 9 + x') * 9 + y') = pr_cs σ x' y' w' 9 0
def sp_sclear : fw_SP := fun as σ K => as = [(2, 60, 0)] ∧ K none (ab_ups (ab_ups σ 60 3 0) 60 4 0)
/-- nothing told -/
def cl_is (A : ab_SG) : Prop := A 49 11 = 0 ∧ A 49 12 = 0 ∧ A 49 13 = 0 ∧ A 49 14 = 9 ∧ (∀ b : Nat, b < 45 → A 55 b = 0) ∧ (∀ b : Nat, b < 5 → A 56 b = 5) ∧ A 60 3 = 0 ∧ A 60 4 = 0
def cl_M : ab_ML := [(49, 11), (49, 12), (49, 13), (49, 14), (55, 1000000), (56, 1000000), (60, 3), (60, 4)]
def sp_clear49 : fw_SP := fun as σ K => as = [(2, 49, 0)] ∧ ∀ σ' : ab_SG, ab_okM cl_M σ σ' → cl_is σ' → K none σ'
/-- what the reader begins with -/
def rl_is (A : ab_SG) : Prop := cl_is A ∧ (∀ b : Nat, b < 5 → A 64 b = 0) ∧ A 48 3 = 0 ∧ A 48 4 = 0 ∧ A 48 5 = 0
theorem rl_nb {A : ab_SG} (h : rl_is A) : nb_is A := by
  obtain ⟨⟨a11, a12, -, a14, a55, a56, -, -⟩, -⟩ := h
  refine ⟨fun x hx => ?_, fun c hc => ?_, fun j hj => ?_, fun j hj => ?_, ?_⟩
  · rw [a11] at hx; exact absurd hx (by omega)
  · rw [a12] at hc; exact absurd hc (by omega)
  · rw [a55 j hj]; decide
  · rw [a56 j hj]; decide
  · rw [a14]; decide
def rl_M : ab_ML := (1, 2) :: (48, 5) :: (53, 1000000) :: (60, 3) :: (60, 4) :: rd_M
/-- rows that the words' numbers and the sizes lie in -/
def rl_ok (σ : ab_SG) : Prop := (∀ j : Nat, j < 9 → fw_d (σ 57 j) = σ 57 j) ∧ (∀ j : Nat, j < 6 → fw_d (σ 58 j) = σ 58 j) ∧ (∀ j : Nat, j < 5 → fw_d (σ 59 j) = σ 59 j) ∧ (∀ j : Nat, j < 9 → 0 ≤ σ 52 j ∧ σ 52 j ≤ 9)
/-- a studio's text, whole -/
def pr_read (A : ab_SG) (t : Nat → Int) (n : Nat) : pr_R × Int := pr_all (t, n, 900) 900 0 A 0
def sp_read : fw_SP := fun as σ K => as = [(2, 48, 0)] ∧ (0 ≤ σ 1 1 ∧ σ 1 1 ≤ 940) ∧ rl_ok σ ∧ ∀ (A σ' : ab_SG), rl_is A → rl_ok A → ab_okM rl_M σ σ' → eT σ' = (tp_t σ, (σ 1 1).toNat, 900) →
  ((pr_read A (tp_t σ) (σ 1 1).toNat).1.1 ≠ 0 → σ' 1 9 = (pr_read A (tp_t σ) (σ 1 1).toNat).1.1 → K (some (0, 0, 0)) σ') ∧
  ((pr_read A (tp_t σ) (σ 1 1).toNat).1.1 = 0 → σ' 1 9 = 0 → agr σ' (pr_read A (tp_t σ) (σ 1 1).toNat).1.2.1 → σ' 48 5 = (pr_read A (tp_t σ) (σ 1 1).toNat).2 → σ' 60 3 = 0 → σ' 60 4 = 0 →
    (∀ w x y : Nat, w < 4 → (x : Int) < σ' 49 11 → (y : Int) < σ' 49 11 → σ' 53 ((w * 9 + x) * 9 + y) = pr_cs σ' x y w 9 0) → RI (pr_read A (tp_t σ) (σ 1 1).toNat).1.2.1 → nb_is (pr_read A (tp_t σ) (σ 1 1).toNat).1.2.1 → K (some (0, 0, 1)) σ')
abbrev fk_pair : List fw_CR := []
abbrev st_pair : fw_K → fw_KR → fw_K := fw_st vwCl nn_sh nn_kd fw_kv fw_wc (nn_KI6.map (fun x => x.1)) (nn_KJ6.map (fun x => x.1)) (nn_PF6.map (fun x => x.1)) (nn_PS6.map (fun x => x.1)) fk_pair 0 nn_dt42 3 0
theorem fs_pair_0 {G : fw_K} {R : fw_KR} (hG : fw_cls st_pair R G) {x y w : Int} {σ : ab_SG} (h : R (some (0, 0, (((w * 9) + x) * 9) + y)) σ) : G 0 [some (0, 0, x), some (0, 0, y), some (0, 0, w)] [] σ := fw_on hG [] 200 h
abbrev fk_isTune49 : List fw_CR := []
abbrev st_isTune49 : fw_K → fw_KR → fw_K := fw_st vwCl nn_sh nn_kd fw_kv fw_wc (nn_KI6.map (fun x => x.1)) (nn_KJ6.map (fun x => x.1)) (nn_PF6.map (fun x => x.1)) (nn_PS6.map (fun x => x.1)) fk_isTune49 0 nn_dt46 2 1
theorem fs_isTune49_0 {G : fw_K} {R : fw_KR} (hG : fw_cls st_isTune49 R G) {x : Int} {σ : ab_SG} (h : (fw_c x < 0 → (0 ≤ fw_c 0 ∧ fw_c 0 ≤ 1) ∧ R (some (0, 0, 0)) σ) ∧ (0 ≤ fw_c x → (fw_c (σ 49 11) ≤ fw_c x → (0 ≤ fw_c 0 ∧ fw_c 0 ≤ 1) ∧ R (some (0, 0, 0)) σ) ∧ (fw_c x < fw_c (σ 49 11) → (0 ≤ fw_c 1 ∧ fw_c 1 ≤ 1) ∧ R (some (0, 0, 1)) σ))) : G 0 [some (2, 49, 0), some (0, 0, x)] [] σ := fw_on hG [] 200 h
abbrev fk_hasNote49 : List fw_CR := [(92, 2, false, 0, 0, sp_at), (96, 1, true, 6, 0, sp_isTune49)]
abbrev st_hasNote49 : fw_K → fw_KR → fw_K := fw_st vwCl nn_sh nn_kd fw_kv fw_wc (nn_KI6.map (fun x => x.1)) (nn_KJ6.map (fun x => x.1)) (nn_PF6.map (fun x => x.1)) (nn_PS6.map (fun x => x.1)) fk_hasNote49 1 nn_dt45 3 1
theorem fs_hasNote49_0 {G : fw_K} {R : fw_KR} (hG : fw_cls st_hasNote49 R G) {x i : Int} {σ : ab_SG} (h : sp_isTune49 [(2, 49, 0), (0, 0, x)] σ (fun rv σ2 => G 5 [some (2, 49, 0), some (0, 0, x), some (0, 0, i)] (rv.toList ++ []) σ2)) : G 0 [some (2, 49, 0), some (0, 0, x), some (0, 0, i)] [] σ := fw_on hG [5, 21] 200 h
theorem fs_hasNote49_5 {G : fw_K} {R : fw_KR} (hG : fw_cls st_hasNote49 R G) {a1 a2 b0 : Int} {σ : ab_SG} (h : (fw_c b0 = 0 → (0 ≤ fw_c 0 ∧ fw_c 0 ≤ 1) ∧ R (some (0, 0, 0)) σ) ∧ (fw_c b0 ≠ 0 → (fw_c a2 < 0 → (0 ≤ fw_c 0 ∧ fw_c 0 ≤ 1) ∧ R (some (0, 0, 0)) σ) ∧ (0 ≤ fw_c a2 → sp_at [(2, 52, 0), (0, 0, a1)] σ (fun rv σ2 => G 21 [some (2, 49, 0), some (0, 0, a1), some (0, 0, a2)] (rv.toList ++ [(0, 0, a2)]) σ2)))) : G 5 [some (2, 49, 0), some (0, 0, a1), some (0, 0, a2)] [(0, 0, b0)] σ := fw_on hG [5, 21] 200 h
theorem fs_hasNote49_21 {G : fw_K} {R : fw_KR} (hG : fw_cls st_hasNote49 R G) {a1 a2 b0 b1 : Int} {σ : ab_SG} (h : (fw_c b0 ≤ fw_c b1 → (0 ≤ fw_c 0 ∧ fw_c 0 ≤ 1) ∧ R (some (0, 0, 0)) σ) ∧ (fw_c b1 < fw_c b0 → (0 ≤ fw_c 1 ∧ fw_c 1 ≤ 1) ∧ R (some (0, 0, 1)) σ)) : G 21 [some (2, 49, 0), some (0, 0, a1), some (0, 0, a2)] [(0, 0, b0), (0, 0, b1)] σ := fw_on hG [5, 21] 200 h
abbrev fk_pitch49 : List fw_CR := [(92, 2, false, 0, 0, sp_at)]
abbrev st_pitch49 : fw_K → fw_KR → fw_K := fw_st vwCl nn_sh nn_kd fw_kv fw_wc (nn_KI6.map (fun x => x.1)) (nn_KJ6.map (fun x => x.1)) (nn_PF6.map (fun x => x.1)) (nn_PS6.map (fun x => x.1)) fk_pitch49 1 nn_dt47 3 0
theorem fs_pitch49_0 {G : fw_K} {R : fw_KR} (hG : fw_cls st_pitch49 R G) {x i : Int} {σ : ab_SG} (h : sp_at [(2, 50, 0), (0, 0, (x * 9) + i)] σ (fun rv σ2 => G 13 [some (2, 49, 0), some (0, 0, x), some (0, 0, i)] (rv.toList ++ []) σ2)) : G 0 [some (2, 49, 0), some (0, 0, x), some (0, 0, i)] [] σ := fw_on hG [13] 200 h
theorem fs_pitch49_13 {G : fw_K} {R : fw_KR} (hG : fw_cls st_pitch49 R G) {a1 a2 b0 : Int} {σ : ab_SG} (h : R (some (0, 0, b0)) σ) : G 13 [some (2, 49, 0), some (0, 0, a1), some (0, 0, a2)] [(0, 0, b0)] σ := fw_on hG [13] 200 h
abbrev fk_beat49 : List fw_CR := [(92, 2, false, 0, 0, sp_at)]
abbrev st_beat49 : fw_K → fw_KR → fw_K := fw_st vwCl nn_sh nn_kd fw_kv fw_wc (nn_KI6.map (fun x => x.1)) (nn_KJ6.map (fun x => x.1)) (nn_PF6.map (fun x => x.1)) (nn_PS6.map (fun x => x.1)) fk_beat49 1 nn_dt48 3 0
theorem fs_beat49_0 {G : fw_K} {R : fw_KR} (hG : fw_cls st_beat49 R G) {x i : Int} {σ : ab_SG} (h : sp_at [(2, 51, 0), (0, 0, (x * 9) + i)] σ (fun rv σ2 => G 13 [some (2, 49, 0), some (0, 0, x), some (0, 0, i)] (rv.toList ++ []) σ2)) : G 0 [some (2, 49, 0), some (0, 0, x), some (0, 0, i)] [] σ := fw_on hG [13] 200 h
theorem fs_beat49_13 {G : fw_K} {R : fw_KR} (hG : fw_cls st_beat49 R G) {a1 a2 b0 : Int} {σ : ab_SG} (h : R (some (0, 0, b0)) σ) : G 13 [some (2, 49, 0), some (0, 0, a1), some (0, 0, a2)] [(0, 0, b0)] σ := fw_on hG [13] 200 h
abbrev fk_sameNote49 : List fw_CR := [(103, 2, true, 6, 1, sp_pitch49), (115, 2, true, 6, 1, sp_beat49), (118, 2, true, 6, 1, sp_hasNote49)]
abbrev st_sameNote49 : fw_K → fw_KR → fw_K := fw_st vwCl nn_sh nn_kd fw_kv fw_wc (nn_KI6.map (fun x => x.1)) (nn_KJ6.map (fun x => x.1)) (nn_PF6.map (fun x => x.1)) (nn_PS6.map (fun x => x.1)) fk_sameNote49 2 nn_dt44 7 1
theorem fs_sameNote49_0 {G : fw_K} {R : fw_KR} (hG : fw_cls st_sameNote49 R G) {x y i w : Int} {σ : ab_SG} (h : sp_hasNote49 [(2, 49, 0), (0, 0, x), (0, 0, i)] σ (fun rv σ2 => G 6 [some (2, 49, 0), some (0, 0, x), some (0, 0, y), some (0, 0, i), some (0, 0, w), none, none] (rv.toList ++ []) σ2)) : G 0 [some (2, 49, 0), some (0, 0, x), some (0, 0, y), some (0, 0, i), some (0, 0, w), none, none] [] σ := fw_on hG [6, 15, 18, 24, 30, 51, 57, 64, 70, 86, 92, 100, 108, 114, 122, 135] 200 h
theorem fs_sameNote49_6 {G : fw_K} {R : fw_KR} (hG : fw_cls st_sameNote49 R G) {a1 a2 a3 a4 b0 : Int} {σ : ab_SG} (h : (fw_c b0 = 0 → G 18 [some (2, 49, 0), some (0, 0, a1), some (0, 0, a2), some (0, 0, a3), some (0, 0, a4), none, none] [] σ) ∧ (fw_c b0 ≠ 0 → sp_hasNote49 [(2, 49, 0), (0, 0, a2), (0, 0, a3)] σ (fun rv σ2 => G 15 [some (2, 49, 0), some (0, 0, a1), some (0, 0, a2), some (0, 0, a3), some (0, 0, a4), none, none] (rv.toList ++ []) σ2))) : G 6 [some (2, 49, 0), some (0, 0, a1), some (0, 0, a2), some (0, 0, a3), some (0, 0, a4), none, none] [(0, 0, b0)] σ := fw_on hG [6, 15, 18, 24, 30, 51, 57, 64, 70, 86, 92, 100, 108, 114, 122, 135] 200 h
theorem fs_sameNote49_18 {G : fw_K} {R : fw_KR} (hG : fw_cls st_sameNote49 R G) {a1 a2 a3 a4 : Int} {σ : ab_SG} (h : sp_hasNote49 [(2, 49, 0), (0, 0, a1), (0, 0, a3)] σ (fun rv σ2 => G 24 [some (2, 49, 0), some (0, 0, a1), some (0, 0, a2), some (0, 0, a3), some (0, 0, a4), none, none] (rv.toList ++ []) σ2)) : G 18 [some (2, 49, 0), some (0, 0, a1), some (0, 0, a2), some (0, 0, a3), some (0, 0, a4), none, none] [] σ := fw_on hG [6, 15, 18, 24, 30, 51, 57, 64, 70, 86, 92, 100, 108, 114, 122, 135] 200 h
theorem fs_sameNote49_15 {G : fw_K} {R : fw_KR} (hG : fw_cls st_sameNote49 R G) {a1 a2 a3 a4 b0 : Int} {σ : ab_SG} (h : (fw_c b0 ≠ 0 → (fw_c a4 ≠ fw_c 3 → sp_pitch49 [(2, 49, 0), (0, 0, a1), (0, 0, a3)] σ (fun rv σ2 => G 86 [some (2, 49, 0), some (0, 0, a1), some (0, 0, a2), some (0, 0, a3), some (0, 0, a4), none, none] (rv.toList ++ []) σ2)) ∧ (fw_c a4 = fw_c 3 → sp_pitch49 [(2, 49, 0), (0, 0, a1), (0, 0, a3)] σ (fun rv σ2 => G 51 [some (2, 49, 0), some (0, 0, a1), some (0, 0, a2), some (0, 0, a3), some (0, 0, a4), none, none] (rv.toList ++ []) σ2))) ∧ (fw_c b0 = 0 → G 18 [some (2, 49, 0), some (0, 0, a1), some (0, 0, a2), some (0, 0, a3), some (0, 0, a4), none, none] [] σ)) : G 15 [some (2, 49, 0), some (0, 0, a1), some (0, 0, a2), some (0, 0, a3), some (0, 0, a4), none, none] [(0, 0, b0)] σ := fw_on hG [6, 15, 18, 24, 30, 51, 57, 64, 70, 86, 92, 100, 108, 114, 122, 135] 200 h
theorem fs_sameNote49_24 {G : fw_K} {R : fw_KR} (hG : fw_cls st_sameNote49 R G) {a1 a2 a3 a4 b0 : Int} {σ : ab_SG} (h : sp_hasNote49 [(2, 49, 0), (0, 0, a2), (0, 0, a3)] σ (fun rv σ2 => G 30 [some (2, 49, 0), some (0, 0, a1), some (0, 0, a2), some (0, 0, a3), some (0, 0, a4), none, none] (rv.toList ++ [(0, 0, b0)]) σ2)) : G 24 [some (2, 49, 0), some (0, 0, a1), some (0, 0, a2), some (0, 0, a3), some (0, 0, a4), none, none] [(0, 0, b0)] σ := fw_on hG [6, 15, 18, 24, 30, 51, 57, 64, 70, 86, 92, 100, 108, 114, 122, 135] 200 h
theorem fs_sameNote49_86 {G : fw_K} {R : fw_KR} (hG : fw_cls st_sameNote49 R G) {a1 a2 a3 a4 b0 : Int} {σ : ab_SG} (h : sp_pitch49 [(2, 49, 0), (0, 0, a2), (0, 0, a3)] σ (fun rv σ2 => G 92 [some (2, 49, 0), some (0, 0, a1), some (0, 0, a2), some (0, 0, a3), some (0, 0, a4), none, none] (rv.toList ++ [(0, 0, b0)]) σ2)) : G 86 [some (2, 49, 0), some (0, 0, a1), some (0, 0, a2), some (0, 0, a3), some (0, 0, a4), none, none] [(0, 0, b0)] σ := fw_on hG [6, 15, 18, 24, 30, 51, 57, 64, 70, 86, 92, 100, 108, 114, 122, 135] 200 h
theorem fs_sameNote49_51 {G : fw_K} {R : fw_KR} (hG : fw_cls st_sameNote49 R G) {a1 a2 a3 a4 b0 : Int} {σ : ab_SG} (h : sp_pitch49 [(2, 49, 0), (0, 0, a1), (0, 0, 0)] σ (fun rv σ2 => G 57 [some (2, 49, 0), some (0, 0, a1), some (0, 0, a2), some (0, 0, a3), some (0, 0, a4), none, none] (rv.toList ++ [(0, 0, b0)]) σ2)) : G 51 [some (2, 49, 0), some (0, 0, a1), some (0, 0, a2), some (0, 0, a3), some (0, 0, a4), none, none] [(0, 0, b0)] σ := fw_on hG [6, 15, 18, 24, 30, 51, 57, 64, 70, 86, 92, 100, 108, 114, 122, 135] 200 h
theorem fs_sameNote49_30 {G : fw_K} {R : fw_KR} (hG : fw_cls st_sameNote49 R G) {a1 a2 a3 a4 b0 b1 : Int} {σ : ab_SG} (h : (fw_c b1 ≠ fw_c b0 → (0 ≤ fw_c 0 ∧ fw_c 0 ≤ 1) ∧ R (some (0, 0, 0)) σ) ∧ (fw_c b1 = fw_c b0 → (0 ≤ fw_c 1 ∧ fw_c 1 ≤ 1) ∧ R (some (0, 0, 1)) σ)) : G 30 [some (2, 49, 0), some (0, 0, a1), some (0, 0, a2), some (0, 0, a3), some (0, 0, a4), none, none] [(0, 0, b0), (0, 0, b1)] σ := fw_on hG [6, 15, 18, 24, 30, 51, 57, 64, 70, 86, 92, 100, 108, 114, 122, 135] 200 h
theorem fs_sameNote49_92 {G : fw_K} {R : fw_KR} (hG : fw_cls st_sameNote49 R G) {a1 a2 a3 a4 b0 b1 : Int} {σ : ab_SG} (h : (fw_c b1 ≠ fw_c b0 → G 100 [some (2, 49, 0), some (0, 0, a1), some (0, 0, a2), some (0, 0, a3), some (0, 0, a4), none, none] [(0, 0, 0)] σ) ∧ (fw_c b1 = fw_c b0 → G 100 [some (2, 49, 0), some (0, 0, a1), some (0, 0, a2), some (0, 0, a3), some (0, 0, a4), none, none] [(0, 0, 1)] σ)) : G 92 [some (2, 49, 0), some (0, 0, a1), some (0, 0, a2), some (0, 0, a3), some (0, 0, a4), none, none] [(0, 0, b0), (0, 0, b1)] σ := fw_on hG [6, 15, 18, 24, 30, 51, 57, 64, 70, 86, 92, 100, 108, 114, 122, 135] 200 h
theorem fs_sameNote49_57 {G : fw_K} {R : fw_KR} (hG : fw_cls st_sameNote49 R G) {a1 a2 a3 a4 b0 b1 : Int} {σ : ab_SG} (h : sp_pitch49 [(2, 49, 0), (0, 0, a2), (0, 0, a3)] σ (fun rv σ2 => G 64 [some (2, 49, 0), some (0, 0, a1), some (0, 0, a2), some (0, 0, a3), some (0, 0, a4), none, none] (rv.toList ++ [(0, 0, b1 - b0)]) σ2)) : G 57 [some (2, 49, 0), some (0, 0, a1), some (0, 0, a2), some (0, 0, a3), some (0, 0, a4), none, none] [(0, 0, b0), (0, 0, b1)] σ := fw_on hG [6, 15, 18, 24, 30, 51, 57, 64, 70, 86, 92, 100, 108, 114, 122, 135] 200 h
theorem fs_sameNote49_100 {G : fw_K} {R : fw_KR} (hG : fw_cls st_sameNote49 R G) {a1 a2 a3 a4 b0 : Int} {σ : ab_SG} (h : sp_beat49 [(2, 49, 0), (0, 0, a1), (0, 0, a3)] σ (fun rv σ2 => G 108 [some (2, 49, 0), some (0, 0, a1), some (0, 0, a2), some (0, 0, a3), some (0, 0, a4), some (0, 0, b0), none] (rv.toList ++ []) σ2)) : G 100 [some (2, 49, 0), some (0, 0, a1), some (0, 0, a2), some (0, 0, a3), some (0, 0, a4), none, none] [(0, 0, b0)] σ := fw_on hG [6, 15, 18, 24, 30, 51, 57, 64, 70, 86, 92, 100, 108, 114, 122, 135] 200 h
theorem fs_sameNote49_64 {G : fw_K} {R : fw_KR} (hG : fw_cls st_sameNote49 R G) {a1 a2 a3 a4 b0 b1 : Int} {σ : ab_SG} (h : sp_pitch49 [(2, 49, 0), (0, 0, a2), (0, 0, 0)] σ (fun rv σ2 => G 70 [some (2, 49, 0), some (0, 0, a1), some (0, 0, a2), some (0, 0, a3), some (0, 0, a4), none, none] (rv.toList ++ [(0, 0, b0), (0, 0, b1)]) σ2)) : G 64 [some (2, 49, 0), some (0, 0, a1), some (0, 0, a2), some (0, 0, a3), some (0, 0, a4), none, none] [(0, 0, b0), (0, 0, b1)] σ := fw_on hG [6, 15, 18, 24, 30, 51, 57, 64, 70, 86, 92, 100, 108, 114, 122, 135] 200 h
theorem fs_sameNote49_108 {G : fw_K} {R : fw_KR} (hG : fw_cls st_sameNote49 R G) {a1 a2 a3 a4 a5 b0 : Int} {σ : ab_SG} (h : sp_beat49 [(2, 49, 0), (0, 0, a2), (0, 0, a3)] σ (fun rv σ2 => G 114 [some (2, 49, 0), some (0, 0, a1), some (0, 0, a2), some (0, 0, a3), some (0, 0, a4), some (0, 0, a5), none] (rv.toList ++ [(0, 0, b0)]) σ2)) : G 108 [some (2, 49, 0), some (0, 0, a1), some (0, 0, a2), some (0, 0, a3), some (0, 0, a4), some (0, 0, a5), none] [(0, 0, b0)] σ := fw_on hG [6, 15, 18, 24, 30, 51, 57, 64, 70, 86, 92, 100, 108, 114, 122, 135] 200 h
theorem fs_sameNote49_70 {G : fw_K} {R : fw_KR} (hG : fw_cls st_sameNote49 R G) {a1 a2 a3 a4 b0 b1 b2 : Int} {σ : ab_SG} (h : (fw_c b2 ≠ fw_c (b1 - b0) → (0 ≤ fw_c 0 ∧ fw_c 0 ≤ 1) ∧ R (some (0, 0, 0)) σ) ∧ (fw_c b2 = fw_c (b1 - b0) → (0 ≤ fw_c 1 ∧ fw_c 1 ≤ 1) ∧ R (some (0, 0, 1)) σ)) : G 70 [some (2, 49, 0), some (0, 0, a1), some (0, 0, a2), some (0, 0, a3), some (0, 0, a4), none, none] [(0, 0, b0), (0, 0, b1), (0, 0, b2)] σ := fw_on hG [6, 15, 18, 24, 30, 51, 57, 64, 70, 86, 92, 100, 108, 114, 122, 135] 200 h
theorem fs_sameNote49_114 {G : fw_K} {R : fw_KR} (hG : fw_cls st_sameNote49 R G) {a1 a2 a3 a4 a5 b0 b1 : Int} {σ : ab_SG} (h : (fw_c b1 ≠ fw_c b0 → G 122 [some (2, 49, 0), some (0, 0, a1), some (0, 0, a2), some (0, 0, a3), some (0, 0, a4), some (0, 0, a5), none] [(0, 0, 0)] σ) ∧ (fw_c b1 = fw_c b0 → G 122 [some (2, 49, 0), some (0, 0, a1), some (0, 0, a2), some (0, 0, a3), some (0, 0, a4), some (0, 0, a5), none] [(0, 0, 1)] σ)) : G 114 [some (2, 49, 0), some (0, 0, a1), some (0, 0, a2), some (0, 0, a3), some (0, 0, a4), some (0, 0, a5), none] [(0, 0, b0), (0, 0, b1)] σ := fw_on hG [6, 15, 18, 24, 30, 51, 57, 64, 70, 86, 92, 100, 108, 114, 122, 135] 200 h
theorem fs_sameNote49_122 {G : fw_K} {R : fw_KR} (hG : fw_cls st_sameNote49 R G) {a1 a2 a3 a4 a5 b0 : Int} {σ : ab_SG} (h : (fw_c a4 = fw_c 2 → G 135 [some (2, 49, 0), some (0, 0, a1), some (0, 0, a2), some (0, 0, a3), some (0, 0, a4), some (0, 0, a5), some (0, 0, b0)] [] σ) ∧ (fw_c a4 ≠ fw_c 2 → (fw_c a5 = 0 → (0 ≤ fw_c 0 ∧ fw_c 0 ≤ 1) ∧ R (some (0, 0, 0)) σ) ∧ (fw_c a5 ≠ 0 → G 135 [some (2, 49, 0), some (0, 0, a1), some (0, 0, a2), some (0, 0, a3), some (0, 0, a4), some (0, 0, a5), some (0, 0, b0)] [] σ))) : G 122 [some (2, 49, 0), some (0, 0, a1), some (0, 0, a2), some (0, 0, a3), some (0, 0, a4), some (0, 0, a5), none] [(0, 0, b0)] σ := fw_on hG [6, 15, 18, 24, 30, 51, 57, 64, 70, 86, 92, 100, 108, 114, 122, 135] 200 h
theorem fs_sameNote49_135 {G : fw_K} {R : fw_KR} (hG : fw_cls st_sameNote49 R G) {a1 a2 a3 a4 a5 a6 : Int} {σ : ab_SG} (h : (fw_c a4 = fw_c 1 → (0 ≤ fw_c 1 ∧ fw_c 1 ≤ 1) ∧ R (some (0, 0, 1)) σ) ∧ (fw_c a4 ≠ fw_c 1 → (fw_c a6 = 0 → (0 ≤ fw_c 0 ∧ fw_c 0 ≤ 1) ∧ R (some (0, 0, 0)) σ) ∧ (fw_c a6 ≠ 0 → (0 ≤ fw_c 1 ∧ fw_c 1 ≤ 1) ∧ R (some (0, 0, 1)) σ))) : G 135 [some (2, 49, 0), some (0, 0, a1), some (0, 0, a2), some (0, 0, a3), some (0, 0, a4), some (0, 0, a5), some (0, 0, a6)] [] σ := fw_on hG [6, 15, 18, 24, 30, 51, 57, 64, 70, 86, 92, 100, 108, 114, 122, 135] 200 h
abbrev fk_countShared49 : List fw_CR := [(129, 4, true, 6, 2, sp_sameNote49)]
abbrev st_countShared49 : fw_K → fw_KR → fw_K := fw_st vwCl nn_sh nn_kd fw_kv fw_wc (nn_KI6.map (fun x => x.1)) (nn_KJ6.map (fun x => x.1)) (nn_PF6.map (fun x => x.1)) (nn_PS6.map (fun x => x.1)) fk_countShared49 3 nn_dt43 6 0
theorem fs_countShared49_0 {G : fw_K} {R : fw_KR} (hG : fw_cls st_countShared49 R G) {x y w : Int} {σ : ab_SG} (h : G 6 [some (2, 49, 0), some (0, 0, x), some (0, 0, y), some (0, 0, w), some (0, 0, 0), some (0, 0, 0)] [] σ) : G 0 [some (2, 49, 0), some (0, 0, x), some (0, 0, y), some (0, 0, w), none, none] [] σ := fw_on hG [6, 22] 200 h
theorem fs_countShared49_6 {G : fw_K} {R : fw_KR} (hG : fw_cls st_countShared49 R G) {a1 a2 a3 a4 a5 : Int} {σ : ab_SG} (h : (fw_c 9 ≤ fw_c a5 → R (some (0, 0, a4)) σ) ∧ (fw_c a5 < fw_c 9 → sp_sameNote49 [(2, 49, 0), (0, 0, a1), (0, 0, a2), (0, 0, a5), (0, 0, a3)] σ (fun rv σ2 => G 22 [some (2, 49, 0), some (0, 0, a1), some (0, 0, a2), some (0, 0, a3), some (0, 0, a4), some (0, 0, a5)] (rv.toList ++ []) σ2))) : G 6 [some (2, 49, 0), some (0, 0, a1), some (0, 0, a2), some (0, 0, a3), some (0, 0, a4), some (0, 0, a5)] [] σ := fw_on hG [6, 22] 200 h
theorem fs_countShared49_22 {G : fw_K} {R : fw_KR} (hG : fw_cls st_countShared49 R G) {a1 a2 a3 a4 a5 b0 : Int} {σ : ab_SG} (h : (fw_c b0 = 0 → R (some (0, 0, a4)) σ) ∧ (fw_c b0 ≠ 0 → G 6 [some (2, 49, 0), some (0, 0, a1), some (0, 0, a2), some (0, 0, a3), some (0, 0, a4 + 1), some (0, 0, a5 + 1)] [] σ)) : G 22 [some (2, 49, 0), some (0, 0, a1), some (0, 0, a2), some (0, 0, a3), some (0, 0, a4), some (0, 0, a5)] [(0, 0, b0)] σ := fw_on hG [6, 22] 200 h
abbrev fk_compareAll : List fw_CR := [(99, 3, false, 0, 0, sp_put), (122, 3, false, 0, 0, sp_pair), (126, 3, true, 6, 3, sp_countShared49)]
abbrev st_compareAll : fw_K → fw_KR → fw_K := fw_st vwCl nn_sh nn_kd fw_kv fw_wc (nn_KI6.map (fun x => x.1)) (nn_KJ6.map (fun x => x.1)) (nn_PF6.map (fun x => x.1)) (nn_PS6.map (fun x => x.1)) fk_compareAll 6 nn_dt41 4 4
theorem fs_compareAll_0 {G : fw_K} {R : fw_KR} (hG : fw_cls st_compareAll R G) {σ : ab_SG} (h : G 2 [some (2, 49, 0), some (0, 0, 0), none, none] [] σ) : G 0 [some (2, 49, 0), none, none, none] [] σ := fw_on hG [2, 9, 19, 37, 44, 47] 200 h
theorem fs_compareAll_2 {G : fw_K} {R : fw_KR} (hG : fw_cls st_compareAll R G) {a1 : Int} {σ : ab_SG} (h : (fw_c 4 ≤ fw_c a1 → R none σ) ∧ (fw_c a1 < fw_c 4 → G 9 [some (2, 49, 0), some (0, 0, a1), some (0, 0, 0), none] [] σ)) : G 2 [some (2, 49, 0), some (0, 0, a1), none, none] [] σ := fw_on hG [2, 9, 19, 37, 44, 47] 200 h
theorem fs_compareAll_9 {G : fw_K} {R : fw_KR} (hG : fw_cls st_compareAll R G) {a1 a2 : Int} {σ : ab_SG} (h : (fw_c (σ 49 11) ≤ fw_c a2 → G 2 [some (2, 49, 0), some (0, 0, a1 + 1), some (0, 0, a2), none] [] σ) ∧ (fw_c a2 < fw_c (σ 49 11) → G 19 [some (2, 49, 0), some (0, 0, a1), some (0, 0, a2), some (0, 0, 0)] [] σ)) : G 9 [some (2, 49, 0), some (0, 0, a1), some (0, 0, a2), none] [] σ := fw_on hG [2, 9, 19, 37, 44, 47] 200 h
theorem fs_compareAll_2a {G : fw_K} {R : fw_KR} (hG : fw_cls st_compareAll R G) {a1 a2 : Int} {σ : ab_SG} (h : (fw_c 4 ≤ fw_c a1 → R none σ) ∧ (fw_c a1 < fw_c 4 → G 9 [some (2, 49, 0), some (0, 0, a1), some (0, 0, 0), none] [] σ)) : G 2 [some (2, 49, 0), some (0, 0, a1), some (0, 0, a2), none] [] σ := fw_on hG [2, 9, 19, 37, 44, 47] 200 h
theorem fs_compareAll_19 {G : fw_K} {R : fw_KR} (hG : fw_cls st_compareAll R G) {a1 a2 a3 : Int} {σ : ab_SG} (h : (fw_c (σ 49 11) ≤ fw_c a3 → G 9 [some (2, 49, 0), some (0, 0, a1), some (0, 0, a2 + 1), some (0, 0, a3)] [] σ) ∧ (fw_c a3 < fw_c (σ 49 11) → sp_pair [(0, 0, a2), (0, 0, a3), (0, 0, a1)] σ (fun rv σ2 => G 37 [some (2, 49, 0), some (0, 0, a1), some (0, 0, a2), some (0, 0, a3)] (rv.toList ++ [(2, 53, 0)]) σ2))) : G 19 [some (2, 49, 0), some (0, 0, a1), some (0, 0, a2), some (0, 0, a3)] [] σ := fw_on hG [2, 9, 19, 37, 44, 47] 200 h
theorem fs_compareAll_9a {G : fw_K} {R : fw_KR} (hG : fw_cls st_compareAll R G) {a1 a2 a3 : Int} {σ : ab_SG} (h : (fw_c (σ 49 11) ≤ fw_c a2 → G 2 [some (2, 49, 0), some (0, 0, a1 + 1), some (0, 0, a2), some (0, 0, a3)] [] σ) ∧ (fw_c a2 < fw_c (σ 49 11) → G 19 [some (2, 49, 0), some (0, 0, a1), some (0, 0, a2), some (0, 0, 0)] [] σ)) : G 9 [some (2, 49, 0), some (0, 0, a1), some (0, 0, a2), some (0, 0, a3)] [] σ := fw_on hG [2, 9, 19, 37, 44, 47] 200 h
theorem fs_compareAll_37 {G : fw_K} {R : fw_KR} (hG : fw_cls st_compareAll R G) {a1 a2 a3 b0 : Int} {σ : ab_SG} (h : sp_countShared49 [(2, 49, 0), (0, 0, a2), (0, 0, a3), (0, 0, a1)] σ (fun rv σ2 => G 44 [some (2, 49, 0), some (0, 0, a1), some (0, 0, a2), some (0, 0, a3)] (rv.toList ++ [(0, 0, b0), (2, 53, 0)]) σ2)) : G 37 [some (2, 49, 0), some (0, 0, a1), some (0, 0, a2), some (0, 0, a3)] [(0, 0, b0), (2, 53, 0)] σ := fw_on hG [2, 9, 19, 37, 44, 47] 200 h
theorem fs_compareAll_2b {G : fw_K} {R : fw_KR} (hG : fw_cls st_compareAll R G) {a1 a2 a3 : Int} {σ : ab_SG} (h : (fw_c 4 ≤ fw_c a1 → R none σ) ∧ (fw_c a1 < fw_c 4 → G 9 [some (2, 49, 0), some (0, 0, a1), some (0, 0, 0), some (0, 0, a3)] [] σ)) : G 2 [some (2, 49, 0), some (0, 0, a1), some (0, 0, a2), some (0, 0, a3)] [] σ := fw_on hG [2, 9, 19, 37, 44, 47] 200 h
theorem fs_compareAll_44 {G : fw_K} {R : fw_KR} (hG : fw_cls st_compareAll R G) {a1 a2 a3 b0 b1 : Int} {σ : ab_SG} (h : sp_put [(2, 53, 0), (0, 0, b1), (0, 0, b0)] σ (fun rv σ2 => G 47 [some (2, 49, 0), some (0, 0, a1), some (0, 0, a2), some (0, 0, a3)] (rv.toList ++ []) σ2)) : G 44 [some (2, 49, 0), some (0, 0, a1), some (0, 0, a2), some (0, 0, a3)] [(0, 0, b0), (0, 0, b1), (2, 53, 0)] σ := fw_on hG [2, 9, 19, 37, 44, 47] 200 h
theorem fs_compareAll_47 {G : fw_K} {R : fw_KR} (hG : fw_cls st_compareAll R G) {a1 a2 a3 : Int} {σ : ab_SG} (h : G 19 [some (2, 49, 0), some (0, 0, a1), some (0, 0, a2), some (0, 0, a3 + 1)] [] σ) : G 47 [some (2, 49, 0), some (0, 0, a1), some (0, 0, a2), some (0, 0, a3)] [] σ := fw_on hG [2, 9, 19, 37, 44, 47] 200 h
abbrev fk_sclear : List fw_CR := []
abbrev st_sclear : fw_K → fw_KR → fw_K := fw_st vwCl nn_sh nn_kd fw_kv fw_wc (nn_KI5.map (fun x => x.1)) (nn_KJ5.map (fun x => x.1)) (nn_PF5.map (fun x => x.1)) (nn_PS5.map (fun x => x.1)) fk_sclear 0 nn_dt8 1 4
theorem fs_sclear_0 {G : fw_K} {R : fw_KR} (hG : fw_cls st_sclear R G) {σ : ab_SG} (h : R none (ab_ups (ab_ups σ 60 3 (fw_c 0)) 60 4 (fw_c 0))) : G 0 [some (2, 60, 0)] [] σ := fw_on hG [] 200 h
abbrev fk_clear49 : List fw_CR := [(63, 2, false, 0, 0, sp_fill), (67, 0, true, 5, 0, sp_sclear)]
abbrev st_clear49 : fw_K → fw_KR → fw_K := fw_st vwCl nn_sh nn_kd fw_kv fw_wc (nn_KI6.map (fun x => x.1)) (nn_KJ6.map (fun x => x.1)) (nn_PF6.map (fun x => x.1)) (nn_PS6.map (fun x => x.1)) fk_clear49 1 nn_dt6 1 4
theorem fs_clear49_0 {G : fw_K} {R : fw_KR} (hG : fw_cls st_clear49 R G) {σ : ab_SG} (h : sp_fill [(2, 55, 0), (0, 0, 0)] (ab_ups (ab_ups (ab_ups (ab_ups σ 49 11 (fw_c 0)) 49 12 (fw_c 0)) 49 13 (fw_c 0)) 49 14 (fw_c 9)) (fun rv σ2 => G 29 [some (2, 49, 0)] (rv.toList ++ []) σ2)) : G 0 [some (2, 49, 0)] [] σ := fw_on hG [29, 37, 44] 200 h
theorem fs_clear49_29 {G : fw_K} {R : fw_KR} (hG : fw_cls st_clear49 R G) {σ : ab_SG} (h : sp_fill [(2, 56, 0), (0, 0, 5)] σ (fun rv σ2 => G 37 [some (2, 49, 0)] (rv.toList ++ []) σ2)) : G 29 [some (2, 49, 0)] [] σ := fw_on hG [29, 37, 44] 200 h
theorem fs_clear49_37 {G : fw_K} {R : fw_KR} (hG : fw_cls st_clear49 R G) {σ : ab_SG} (h : sp_sclear [(2, 60, 0)] σ (fun rv σ2 => G 44 [some (2, 49, 0)] (rv.toList ++ []) σ2)) : G 37 [some (2, 49, 0)] [] σ := fw_on hG [29, 37, 44] 200 h
theorem fs_clear49_44 {G : fw_K} {R : fw_KR} (hG : fw_cls st_clear49 R G) {σ : ab_SG} (h : R none σ) : G 44 [some (2, 49, 0)] [] σ := fw_on hG [29, 37, 44] 200 h
abbrev fk_read : List fw_CR := [(26, 0, true, 6, 1, sp_clear49), (29, 2, false, 0, 0, sp_fill), (44, 1, true, 8, 3, sp_opn), (53, 0, true, 7, 6, sp_readLine), (57, 1, true, 8, 3, sp_takeSign), (61, 0, true, 6, 6, sp_compareAll)]
abbrev st_read : fw_K → fw_KR → fw_K := fw_st vwCl nn_sh nn_kd fw_kv fw_wc (nn_KI3.map (fun x => x.1)) (nn_KJ3.map (fun x => x.1)) (nn_PF3.map (fun x => x.1)) (nn_PS3.map (fun x => x.1)) fk_read 7 nn_dt5 2 1
theorem fs_read_0 {G : fw_K} {R : fw_KR} (hG : fw_cls st_read R G) {σ : ab_SG} (h : sp_clear49 [(2, 49, 0)] σ (fun rv σ2 => G 7 [some (2, 48, 0), none] (rv.toList ++ []) σ2)) : G 0 [some (2, 48, 0), none] [] σ := fw_on hG [7, 15, 40, 42, 63, 75, 96, 103] 200 h
theorem fs_read_7 {G : fw_K} {R : fw_KR} (hG : fw_cls st_read R G) {σ : ab_SG} (h : sp_fill [(2, 64, 0), (0, 0, 0)] σ (fun rv σ2 => G 15 [some (2, 48, 0), none] (rv.toList ++ []) σ2)) : G 7 [some (2, 48, 0), none] [] σ := fw_on hG [7, 15, 40, 42, 63, 75, 96, 103] 200 h
theorem fs_read_15 {G : fw_K} {R : fw_KR} (hG : fw_cls st_read R G) {σ : ab_SG} (h : (0 ≤ fw_c 0 ∧ fw_c 0 ≤ 1) ∧ (sp_opn [(2, 1, 0), (0, 0, 900)] (ab_ups (ab_ups (ab_ups σ 48 3 (fw_c 0)) 48 4 (fw_c 0)) 48 5 (fw_c 0)) (fun rv σ2 => G 40 [some (2, 48, 0), none] (rv.toList ++ []) σ2))) : G 15 [some (2, 48, 0), none] [] σ := fw_on hG [7, 15, 40, 42, 63, 75, 96, 103] 200 h
theorem fs_read_40 {G : fw_K} {R : fw_KR} (hG : fw_cls st_read R G) {σ : ab_SG} (h : G 42 [some (2, 48, 0), some (0, 0, 0)] [] σ) : G 40 [some (2, 48, 0), none] [] σ := fw_on hG [7, 15, 40, 42, 63, 75, 96, 103] 200 h
theorem fs_read_42 {G : fw_K} {R : fw_KR} (hG : fw_cls st_read R G) {a1 : Int} {σ : ab_SG} (h : (fw_c 900 ≤ fw_c a1 → G 96 [some (2, 48, 0), some (0, 0, a1)] [] σ) ∧ (fw_c a1 < fw_c 900 → (fw_c (σ 1 5) = 0 → G 96 [some (2, 48, 0), some (0, 0, a1)] [] σ) ∧ (fw_c (σ 1 5) ≠ 0 → sp_readLine [(2, 48, 0)] σ (fun rv σ2 => G 63 [some (2, 48, 0), some (0, 0, a1)] (rv.toList ++ []) σ2)))) : G 42 [some (2, 48, 0), some (0, 0, a1)] [] σ := fw_on hG [7, 15, 40, 42, 63, 75, 96, 103] 200 h
theorem fs_read_96 {G : fw_K} {R : fw_KR} (hG : fw_cls st_read R G) {a1 : Int} {σ : ab_SG} (h : sp_compareAll [(2, 49, 0)] σ (fun rv σ2 => G 103 [some (2, 48, 0), some (0, 0, a1)] (rv.toList ++ []) σ2)) : G 96 [some (2, 48, 0), some (0, 0, a1)] [] σ := fw_on hG [7, 15, 40, 42, 63, 75, 96, 103] 200 h
theorem fs_read_63 {G : fw_K} {R : fw_KR} (hG : fw_cls st_read R G) {a1 b0 : Int} {σ : ab_SG} (h : (fw_c b0 = 0 → (0 ≤ fw_c 0 ∧ fw_c 0 ≤ 1) ∧ R (some (0, 0, 0)) σ) ∧ (fw_c b0 ≠ 0 → sp_takeSign [(2, 1, 0), (0, 0, 59)] σ (fun rv σ2 => G 75 [some (2, 48, 0), some (0, 0, a1)] (rv.toList ++ []) σ2))) : G 63 [some (2, 48, 0), some (0, 0, a1)] [(0, 0, b0)] σ := fw_on hG [7, 15, 40, 42, 63, 75, 96, 103] 200 h
theorem fs_read_103 {G : fw_K} {R : fw_KR} (hG : fw_cls st_read R G) {a1 : Int} {σ : ab_SG} (h : (0 ≤ fw_c 1 ∧ fw_c 1 ≤ 1) ∧ R (some (0, 0, 1)) σ) : G 103 [some (2, 48, 0), some (0, 0, a1)] [] σ := fw_on hG [7, 15, 40, 42, 63, 75, 96, 103] 200 h
theorem fs_read_75 {G : fw_K} {R : fw_KR} (hG : fw_cls st_read R G) {a1 b0 : Int} {σ : ab_SG} (h : (fw_c b0 ≠ 0 → G 42 [some (2, 48, 0), some (0, 0, a1 + 1)] [] (ab_ups σ 48 5 (fw_c ((σ 48 5) + 1)))) ∧ (fw_c b0 = 0 → (0 ≤ fw_c 0 ∧ fw_c 0 ≤ 1) ∧ R (some (0, 0, 0)) σ)) : G 75 [some (2, 48, 0), some (0, 0, a1)] [(0, 0, b0)] σ := fw_on hG [7, 15, 40, 42, 63, 75, 96, 103] 200 h
theorem fw_bo_iff {p q : Prop} [Decidable p] [Decidable q] : fw_bo p = fw_bo q ↔ (p ↔ q) := by
  by_cases hp : p
  · by_cases hq : q
    · rw [fw_bo_t hp, fw_bo_t hq]; exact ⟨fun _ => ⟨fun _ => hq, fun _ => hp⟩, fun _ => rfl⟩
    · rw [fw_bo_t hp, fw_bo_f hq]; exact ⟨fun z => absurd z (by decide), fun z => absurd (z.mp hp) hq⟩
  · by_cases hq : q
    · rw [fw_bo_f hp, fw_bo_t hq]; exact ⟨fun z => absurd z (by decide), fun z => absurd (z.mpr hq) hp⟩
    · rw [fw_bo_f hp, fw_bo_f hq]; exact ⟨fun _ => ⟨fun z => absurd z hp, fun z => absurd z hq⟩, fun _ => rfl⟩
section
variable {l : Launch} {cy : Nat → ClassId} {ad wr cr : Nat → Nat} {D : va_G}
theorem fm_pair (hinj : nn_inj ad) : fw_H l cy ad wr cr D 42 0 sp_pair := fw_mk hinj (⟨"NameNotes$Studio", "pair", "(III)I"⟩, prog_8_method_21_code, 3, (Option.some Jvm.ClassFile.FieldType.int), 3, false, 0) rfl rfl nn_KI6_ok nn_KJ6_ok nn_PF6_ok nn_PS6_ok (by decide +kernel) rfl rfl (fun _ h => absurd h List.not_mem_nil) (fun as σ K h => by
  obtain ⟨x, y, w, rfl, h⟩ := h
  exact ⟨rfl, fun G hG => fs_pair_0 hG h⟩)
theorem fm_isTune49 (hinj : nn_inj ad) : fw_H l cy ad wr cr D 46 0 sp_isTune49 := fw_mk hinj (⟨"NameNotes$Studio", "isTune", "(I)Z"⟩, prog_8_method_4_code, 2, (Option.some Jvm.ClassFile.FieldType.boolean), 1, true, 1) rfl rfl nn_KI6_ok nn_KJ6_ok nn_PF6_ok nn_PS6_ok (by decide +kernel) rfl rfl (fun _ h => absurd h List.not_mem_nil) (fun as σ K h => by
  obtain ⟨x, rfl, h⟩ := h
  refine ⟨rfl, fun G hG => fs_isTune49_0 hG ⟨fun q => ⟨fw_01, ?_⟩, fun q => ⟨fun q2 => ⟨fw_01, ?_⟩, fun q2 => ⟨fw_11, ?_⟩⟩⟩⟩
  · rw [fw_bo_f (fun y => absurd q (by omega))] at h; exact h
  · rw [fw_bo_f (fun y => absurd q2 (by omega))] at h; exact h
  · rw [fw_bo_t ⟨q, q2⟩] at h; exact h)
theorem fm_hasNote49 (hinj : nn_inj ad) : fw_H l cy ad wr cr D 45 1 sp_hasNote49 := fw_mk hinj (⟨"NameNotes$Studio", "hasNote", "(II)Z"⟩, prog_8_method_10_code, 3, (Option.some Jvm.ClassFile.FieldType.boolean), 2, true, 1) rfl rfl nn_KI6_ok nn_KJ6_ok nn_PF6_ok nn_PS6_ok (by decide +kernel) rfl rfl (List.forall_mem_cons.mpr ⟨fw_row nn_PM6_ok (x := 92) (k := 2) (mn := 29) (np := 2) (ob := false) (ci := 0) (⟨"NameNotes", "at", "([II)I"⟩, prog_1_method_84_code, 2, (Option.some Jvm.ClassFile.FieldType.int), 2, false, 0) rfl (by decide +kernel) rfl rfl (by decide) (fun q => by cases q) (fm_at hinj), (List.forall_mem_cons.mpr ⟨fw_row nn_PM6_ok (x := 96) (k := 0) (mn := 46) (np := 1) (ob := true) (ci := 6) (⟨"NameNotes$Studio", "isTune", "(I)Z"⟩, prog_8_method_4_code, 2, (Option.some Jvm.ClassFile.FieldType.boolean), 1, true, 1) rfl (by decide +kernel) rfl rfl (by decide) (fun _ => ⟨_, _, rfl⟩) (fm_isTune49 hinj), (fun _ h => absurd h List.not_mem_nil)⟩)⟩) (fun as σ K h => by
  obtain ⟨x, i, rfl, hs, hb, h⟩ := h
  obtain ⟨hT, hS⟩ := hs
  have ex : fw_c x = x := fw_c_id (by omega) (by omega)
  have ei : fw_c i = i := fw_c_id (by omega) (by omega)
  have eT : fw_c (σ 49 11) = σ 49 11 := fw_c_id (by omega) (by omega)
  have hz := hS x.toNat (by omega)
  have ez : fw_c (σ 52 x.toNat) = σ 52 x.toNat := fw_c_id (by omega) (by omega)
  refine ⟨rfl, fun G hG => fs_hasNote49_0 hG ⟨x, rfl, fs_hasNote49_5 hG ⟨fun z => ⟨fw_01, ?_⟩, fun z => ⟨fun q => absurd q (by omega), fun _ => ?_⟩⟩⟩⟩
  · have hn := fw_bo_eq z
    rw [ex, eT] at hn
    rw [fw_bo_f (fun y => hn ⟨hb.1, y.1⟩)] at h
    exact h
  · have hn := fw_bo_ne z
    rw [ex, eT] at hn
    refine ⟨(52, 9), by decide, x, rfl, fun _ => fs_hasNote49_21 hG ?_, fun y => absurd (by rw [ex]; show 0 ≤ x ∧ x < 9; omega) y⟩
    rw [ex, ez, ei]
    refine ⟨fun q => ⟨fw_01, ?_⟩, fun q => ⟨fw_11, ?_⟩⟩
    · rw [fw_bo_f (fun y => absurd y.2 (by omega))] at h; exact h
    · rw [fw_bo_t ⟨hn.2, q⟩] at h; exact h)
theorem fm_pitch49 (hinj : nn_inj ad) : fw_H l cy ad wr cr D 47 1 sp_pitch49 := fw_mk hinj (⟨"NameNotes$Studio", "pitch", "(II)I"⟩, prog_8_method_11_code, 3, (Option.some Jvm.ClassFile.FieldType.int), 2, true, 0) rfl rfl nn_KI6_ok nn_KJ6_ok nn_PF6_ok nn_PS6_ok (by decide +kernel) rfl rfl (List.forall_mem_cons.mpr ⟨fw_row nn_PM6_ok (x := 92) (k := 2) (mn := 29) (np := 2) (ob := false) (ci := 0) (⟨"NameNotes", "at", "([II)I"⟩, prog_1_method_84_code, 2, (Option.some Jvm.ClassFile.FieldType.int), 2, false, 0) rfl (by decide +kernel) rfl rfl (by decide) (fun q => by cases q) (fm_at hinj), (fun _ h => absurd h List.not_mem_nil)⟩) (fun as σ K h => by
  obtain ⟨x, i, rfl, hb, h⟩ := h
  have ei : fw_c (x * 9 + i) = x * 9 + i := fw_c_id (by omega) (by omega)
  refine ⟨rfl, fun G hG => fs_pitch49_0 hG ⟨(50, 81), by decide, _, rfl, fun _ => fs_pitch49_13 hG ?_, fun y => absurd (by rw [ei]; show 0 ≤ x * 9 + i ∧ x * 9 + i < 81; omega) y⟩⟩
  rw [ei]
  exact h)
theorem fm_beat49 (hinj : nn_inj ad) : fw_H l cy ad wr cr D 48 1 sp_beat49 := fw_mk hinj (⟨"NameNotes$Studio", "beat", "(II)I"⟩, prog_8_method_12_code, 3, (Option.some Jvm.ClassFile.FieldType.int), 2, true, 0) rfl rfl nn_KI6_ok nn_KJ6_ok nn_PF6_ok nn_PS6_ok (by decide +kernel) rfl rfl (List.forall_mem_cons.mpr ⟨fw_row nn_PM6_ok (x := 92) (k := 2) (mn := 29) (np := 2) (ob := false) (ci := 0) (⟨"NameNotes", "at", "([II)I"⟩, prog_1_method_84_code, 2, (Option.some Jvm.ClassFile.FieldType.int), 2, false, 0) rfl (by decide +kernel) rfl rfl (by decide) (fun q => by cases q) (fm_at hinj), (fun _ h => absurd h List.not_mem_nil)⟩) (fun as σ K h => by
  obtain ⟨x, i, rfl, hb, h⟩ := h
  have ei : fw_c (x * 9 + i) = x * 9 + i := fw_c_id (by omega) (by omega)
  refine ⟨rfl, fun G hG => fs_beat49_0 hG ⟨(51, 81), by decide, _, rfl, fun _ => fs_beat49_13 hG ?_, fun y => absurd (by rw [ei]; show 0 ≤ x * 9 + i ∧ x * 9 + i < 81; omega) y⟩⟩
  rw [ei]
  exact h)
theorem fm_sameNote49 (hinj : nn_inj ad) : fw_H l cy ad wr cr D 44 2 sp_sameNote49 := fw_mk hinj (⟨"NameNotes$Studio", "sameNote", "(IIII)Z"⟩, prog_8_method_17_code, 7, (Option.some Jvm.ClassFile.FieldType.boolean), 4, true, 1) rfl rfl nn_KI6_ok nn_KJ6_ok nn_PF6_ok nn_PS6_ok (by decide +kernel) rfl rfl (List.forall_mem_cons.mpr ⟨fw_row nn_PM6_ok (x := 103) (k := 0) (mn := 47) (np := 2) (ob := true) (ci := 6) (⟨"NameNotes$Studio", "pitch", "(II)I"⟩, prog_8_method_11_code, 3, (Option.some Jvm.ClassFile.FieldType.int), 2, true, 0) rfl (by decide +kernel) rfl rfl (by decide) (fun _ => ⟨_, _, rfl⟩) (fm_pitch49 hinj), (List.forall_mem_cons.mpr ⟨fw_row nn_PM6_ok (x := 115) (k := 0) (mn := 48) (np := 2) (ob := true) (ci := 6) (⟨"NameNotes$Studio", "beat", "(II)I"⟩, prog_8_method_12_code, 3, (Option.some Jvm.ClassFile.FieldType.int), 2, true, 0) rfl (by decide +kernel) rfl rfl (by decide) (fun _ => ⟨_, _, rfl⟩) (fm_beat49 hinj), (List.forall_mem_cons.mpr ⟨fw_row nn_PM6_ok (x := 118) (k := 0) (mn := 45) (np := 2) (ob := true) (ci := 6) (⟨"NameNotes$Studio", "hasNote", "(II)Z"⟩, prog_8_method_10_code, 3, (Option.some Jvm.ClassFile.FieldType.boolean), 2, true, 1) rfl (by decide +kernel) rfl rfl (by decide) (fun _ => ⟨_, _, rfl⟩) (fm_hasNote49 hinj), (fun _ h => absurd h List.not_mem_nil)⟩)⟩)⟩) (fun as σ K h => by
  obtain ⟨x, y, i, w, rfl, hs, hb, h⟩ := h
  have ew : fw_c w = w := fw_c_id (by omega) (by omega)
  have e2 : fw_c 2 = 2 := fw_c_id (by decide) (by decide)
  have e3 : fw_c 3 = 3 := fw_c_id (by decide) (by decide)
  refine ⟨rfl, fun G hG => fs_sameNote49_0 hG ⟨x, i, rfl, hs, by omega, fs_sameNote49_6 hG ?_⟩⟩
  have at18 : ¬ ((x < σ 49 11 ∧ i < σ 52 x.toNat) ∧ (y < σ 49 11 ∧ i < σ 52 y.toNat)) → G 18 [some (2, 49, 0), some (0, 0, x), some (0, 0, y), some (0, 0, i), some (0, 0, w), none, none] [] σ := fun hn => by
    refine fs_sameNote49_18 hG ⟨x, i, rfl, hs, by omega, fs_sameNote49_24 hG ⟨y, i, rfl, hs, by omega, fs_sameNote49_30 hG ?_⟩⟩
    rw [fw_bo_c, fw_bo_c]
    refine ⟨fun q => ⟨fw_01, ?_⟩, fun q => ⟨fw_11, ?_⟩⟩
    · have hh : ¬ pr_sn σ x y i w := by
        unfold pr_sn; rw [if_neg hn]; exact fun z => q (fw_bo_iff.mpr z)
      rw [fw_bo_f hh] at h; exact h
    · have hh : pr_sn σ x y i w := by
        unfold pr_sn; rw [if_neg hn]; exact fw_bo_iff.mp q
      rw [fw_bo_t hh] at h; exact h
  refine ⟨fun z => at18 (fun q => fw_bo_eq z q.1), fun z => ⟨y, i, rfl, hs, by omega, fs_sameNote49_15 hG ⟨fun z2 => ?_, fun z2 => at18 (fun q => fw_bo_eq z2 q.2)⟩⟩⟩
  have hx := fw_bo_ne z
  have hy := fw_bo_ne z2
  have yes : w ≠ 3 → (w = 2 ∨ (fw_c (σ 50 (x * 9 + i).toNat) = fw_c (σ 50 (y * 9 + i).toNat))) → (w = 1 ∨ (fw_c (σ 51 (x * 9 + i).toNat) = fw_c (σ 51 (y * 9 + i).toNat))) → K (some (0, 0, 1)) σ := fun a b c => by
    have hh : pr_sn σ x y i w := by
      unfold pr_sn; rw [if_pos ⟨hx, hy⟩, if_neg a]; exact ⟨b, c⟩
    rw [fw_bo_t hh] at h; exact h
  have no : w ≠ 3 → ¬ ((w = 2 ∨ (fw_c (σ 50 (x * 9 + i).toNat) = fw_c (σ 50 (y * 9 + i).toNat))) ∧ (w = 1 ∨ (fw_c (σ 51 (x * 9 + i).toNat) = fw_c (σ 51 (y * 9 + i).toNat)))) → K (some (0, 0, 0)) σ := fun a b => by
    have hh : ¬ pr_sn σ x y i w := by
      unfold pr_sn; rw [if_pos ⟨hx, hy⟩, if_neg a]; exact b
    rw [fw_bo_f hh] at h; exact h
  have at135 : ∀ b c : Int, c = fw_bo (fw_c (σ 51 (x * 9 + i).toNat) = fw_c (σ 51 (y * 9 + i).toNat)) → w ≠ 3 → (w = 2 ∨ (fw_c (σ 50 (x * 9 + i).toNat) = fw_c (σ 50 (y * 9 + i).toNat))) → G 135 [some (2, 49, 0), some (0, 0, x), some (0, 0, y), some (0, 0, i), some (0, 0, w), some (0, 0, b), some (0, 0, c)] [] σ := fun b c hc q3 hp => by
    subst hc
    exact fs_sameNote49_135 hG ⟨fun q => ⟨fw_11, yes q3 hp (Or.inl (ew.symm.trans (q.trans fw_c1)))⟩, fun q => ⟨fun p => ⟨fw_01, no q3 (fun k => k.2.elim (fun k => q (ew.trans (k.trans fw_c1.symm))) (fw_bo_eq p))⟩, fun p => ⟨fw_11, yes q3 hp (Or.inr (fw_bo_ne p))⟩⟩⟩
  have at122 : ∀ b c : Int, b = fw_bo (fw_c (σ 50 (x * 9 + i).toNat) = fw_c (σ 50 (y * 9 + i).toNat)) → c = fw_bo (fw_c (σ 51 (x * 9 + i).toNat) = fw_c (σ 51 (y * 9 + i).toNat)) → w ≠ 3 → G 122 [some (2, 49, 0), some (0, 0, x), some (0, 0, y), some (0, 0, i), some (0, 0, w), some (0, 0, b), none] [(0, 0, c)] σ := fun b c hb2 hc q3 => by
    subst hb2
    exact fs_sameNote49_122 hG ⟨fun q => at135 _ c hc q3 (Or.inl (ew.symm.trans (q.trans e2))), fun q => ⟨fun p => ⟨fw_01, no q3 (fun k => k.1.elim (fun k => q (ew.trans (k.trans e2.symm))) (fw_bo_eq p))⟩, fun p => at135 _ c hc q3 (Or.inr (fw_bo_ne p))⟩⟩
  have at100 : ∀ b : Int, b = fw_bo (fw_c (σ 50 (x * 9 + i).toNat) = fw_c (σ 50 (y * 9 + i).toNat)) → w ≠ 3 → G 100 [some (2, 49, 0), some (0, 0, x), some (0, 0, y), some (0, 0, i), some (0, 0, w), none, none] [(0, 0, b)] σ := fun b hb2 q3 =>
    fs_sameNote49_100 hG ⟨x, i, rfl, by omega, fs_sameNote49_108 hG ⟨y, i, rfl, by omega, fs_sameNote49_114 hG ⟨fun p => at122 b 0 hb2 (fw_bo_f p).symm q3, fun p => at122 b 1 hb2 (fw_bo_t p).symm q3⟩⟩⟩
  refine ⟨fun q => ?_, fun q => ?_⟩
  · have q3 : w ≠ 3 := fun k => q (by rw [k])
    exact ⟨x, i, rfl, by omega, fs_sameNote49_86 hG ⟨y, i, rfl, by omega, fs_sameNote49_92 hG ⟨fun p => at100 0 (fw_bo_f p).symm q3, fun p => at100 1 (fw_bo_t p).symm q3⟩⟩⟩
  · have q3 : w = 3 := ew.symm.trans (q.trans e3)
    refine ⟨x, i, rfl, by omega, fs_sameNote49_51 hG ⟨x, 0, rfl, by omega, fs_sameNote49_57 hG ⟨y, i, rfl, by omega, fs_sameNote49_64 hG ⟨y, 0, rfl, by omega, fs_sameNote49_70 hG ⟨fun p => ⟨fw_01, ?_⟩, fun p => ⟨fw_11, ?_⟩⟩⟩⟩⟩⟩
    · have hh : ¬ pr_sn σ x y i w := by
        unfold pr_sn; rw [if_pos ⟨hx, hy⟩, if_pos q3]; exact p
      rw [fw_bo_f hh] at h; exact h
    · have hh : pr_sn σ x y i w := by
        unfold pr_sn; rw [if_pos ⟨hx, hy⟩, if_pos q3]; exact p
      rw [fw_bo_t hh] at h; exact h)
theorem fm_countShared49 (hinj : nn_inj ad) : fw_H l cy ad wr cr D 43 3 sp_countShared49 := fw_mk hinj (⟨"NameNotes$Studio", "countShared", "(III)I"⟩, prog_8_method_20_code, 6, (Option.some Jvm.ClassFile.FieldType.int), 3, true, 0) rfl rfl nn_KI6_ok nn_KJ6_ok nn_PF6_ok nn_PS6_ok (by decide +kernel) rfl rfl (List.forall_mem_cons.mpr ⟨fw_row nn_PM6_ok (x := 129) (k := 0) (mn := 44) (np := 4) (ob := true) (ci := 6) (⟨"NameNotes$Studio", "sameNote", "(IIII)Z"⟩, prog_8_method_17_code, 7, (Option.some Jvm.ClassFile.FieldType.boolean), 4, true, 1) rfl (by decide +kernel) rfl rfl (by decide) (fun _ => ⟨_, _, rfl⟩) (fm_sameNote49 hinj), (fun _ h => absurd h List.not_mem_nil)⟩) (fun as σ K h => by
  obtain ⟨x, y, w, rfl, hs, hb, h⟩ := h
  have e9 : fw_c 9 = 9 := fw_c_id (by decide) (by decide)
  refine ⟨rfl, fun G hG => fs_countShared49_0 hG ?_⟩
  have key : ∀ (f i : Nat), i + f = 9 → K (some (0, 0, pr_cs σ x y w f i)) σ → G 6 [some (2, 49, 0), some (0, 0, x), some (0, 0, y), some (0, 0, w), some (0, 0, (i : Int)), some (0, 0, (i : Int))] [] σ := by
    intro f
    induction f with
    | zero =>
      intro i hi q
      have ei : fw_c (i : Int) = i := fw_c_id (by omega) (by omega)
      refine fs_countShared49_6 hG ?_
      rw [e9, ei]
      exact ⟨fun _ => q, fun z => absurd z (by omega)⟩
    | succ f ih =>
      intro i hi q
      have ei : fw_c (i : Int) = i := fw_c_id (by omega) (by omega)
      refine fs_countShared49_6 hG ?_
      rw [e9, ei]
      replace q : K (some (0, 0, if pr_sn σ x y i w then pr_cs σ x y w f (i + 1) else (i : Int))) σ := q
      refine ⟨fun z => absurd z (by omega), fun _ => ⟨x, y, i, w, rfl, hs, by omega, fs_countShared49_22 hG ⟨fun z => ?_, fun z => ?_⟩⟩⟩
      · rw [if_neg (fw_bo_eq z)] at q
        exact q
      · rw [if_pos (fw_bo_ne z)] at q
        exact ih (i + 1) (by omega) q
  exact key 9 0 rfl h)
theorem fm_compareAll (hinj : nn_inj ad) : fw_H l cy ad wr cr D 41 6 sp_compareAll := fw_mk hinj (⟨"NameNotes$Studio", "compareAll", "()V"⟩, prog_8_method_19_code, 4, (Option.none : Option Jvm.ClassFile.FieldType), 0, true, 4) rfl rfl nn_KI6_ok nn_KJ6_ok nn_PF6_ok nn_PS6_ok (by decide +kernel) rfl rfl (List.forall_mem_cons.mpr ⟨fw_row nn_PM6_ok (x := 99) (k := 2) (mn := 27) (np := 3) (ob := false) (ci := 0) (⟨"NameNotes", "put", "([III)V"⟩, prog_1_method_86_code, 3, (Option.none : Option Jvm.ClassFile.FieldType), 3, false, 4) rfl (by decide +kernel) rfl rfl (by decide) (fun q => by cases q) (fm_put hinj), (List.forall_mem_cons.mpr ⟨fw_row nn_PM6_ok (x := 122) (k := 0) (mn := 42) (np := 3) (ob := false) (ci := 0) (⟨"NameNotes$Studio", "pair", "(III)I"⟩, prog_8_method_21_code, 3, (Option.some Jvm.ClassFile.FieldType.int), 3, false, 0) rfl (by decide +kernel) rfl rfl (by decide) (fun q => by cases q) (fm_pair hinj), (List.forall_mem_cons.mpr ⟨fw_row nn_PM6_ok (x := 126) (k := 0) (mn := 43) (np := 3) (ob := true) (ci := 6) (⟨"NameNotes$Studio", "countShared", "(III)I"⟩, prog_8_method_20_code, 6, (Option.some Jvm.ClassFile.FieldType.int), 3, true, 0) rfl (by decide +kernel) rfl rfl (by decide) (fun _ => ⟨_, _, rfl⟩) (fm_countShared49 hinj), (fun _ h => absurd h List.not_mem_nil)⟩)⟩)⟩) (fun as σ K h => by
  obtain ⟨rfl, hs, h⟩ := h
  obtain ⟨hT, hS⟩ := hs
  obtain ⟨T, eT⟩ : ∃ T : Nat, σ 49 11 = T := ⟨(σ 49 11).toNat, by omega⟩
  have cT : fw_c (T : Int) = T := fw_c_id (by omega) (by omega)
  have e4 : fw_c 4 = 4 := fw_c_id (by decide) (by decide)
  refine ⟨rfl, fun G hG => fs_compareAll_0 hG ?_⟩
  have k19 : ∀ (w x : Nat), w < 4 → x < T → ∀ (f y : Nat) (σ1 : ab_SG), y + f = T → ca_is σ σ1 w x y → (∀ σ2 : ab_SG, ca_is σ σ2 w x T → G 9 [some (2, 49, 0), some (0, 0, (w : Int)), some (0, 0, (x : Int) + 1), some (0, 0, (T : Int))] [] σ2) → G 19 [some (2, 49, 0), some (0, 0, (w : Int)), some (0, 0, (x : Int)), some (0, 0, (y : Int))] [] σ1 := by
    intro w x hw hx f
    induction f with
    | zero =>
      intro y σ1 hy I c
      have e : y = T := by omega
      subst e
      refine fs_compareAll_19 hG ?_
      rw [I.1 49 11 (by decide), eT, cT]
      exact ⟨fun _ => c σ1 I, fun q => absurd q (Int.lt_irrefl _)⟩
    | succ f ih =>
      intro y σ1 hy I c
      have ey : fw_c (y : Int) = y := fw_c_id (by omega) (by omega)
      have ei : fw_c (((w : Int) * 9 + x) * 9 + y) = ((w : Int) * 9 + x) * 9 + y := fw_c_id (by omega) (by omega)
      have hc := pr_cs_in (A := σ) (x := x) (y := y) (w := w) 9 0
      have ec : fw_c (pr_cs σ x y w 9 0) = pr_cs σ x y w 9 0 := fw_c_id (by omega) (by omega)
      have sm1 : sm_ok σ1 := ⟨by rw [I.1 49 11 (by decide)]; exact hT, fun j hj => by rw [I.1 52 j (by decide)]; exact hS j hj⟩
      refine fs_compareAll_19 hG ?_
      rw [I.1 49 11 (by decide), eT, cT, ey]
      refine ⟨fun q => absurd q (by omega), fun _ => ⟨x, y, w, rfl, fs_compareAll_37 hG ⟨x, y, w, rfl, sm1, by omega, fs_compareAll_44 hG ?_⟩⟩⟩
      refine ⟨(53, 324), by decide, _, _, rfl, fun _ => fs_compareAll_47 hG (ih (y + 1) _ (by omega) ?_ c), fun q => absurd (by rw [ei]; show 0 ≤ ((w : Int) * 9 + x) * 9 + y ∧ ((w : Int) * 9 + x) * 9 + y < 324; omega) q⟩
      rw [ei, pr_cs_cong I.1, ec]
      refine ⟨fun a b hab => (ab_ups_ne (fun z => hab z.1)).trans (I.1 a b hab), fun w' x' y' hw' hx' hy' hd => ?_⟩
      by_cases e : (w' * 9 + x') * 9 + y' = (((w : Int) * 9 + x) * 9 + y).toNat
      · have e1 : w' = w := by omega
        have e2 : x' = x := by omega
        have e3 : y' = y := by omega
        rw [e, ab_ups_eq, e1, e2, e3]
      · rw [ab_ups_ne (fun z => e z.2)]
        exact I.2 w' x' y' hw' hx' hy' (by omega)
  have s9 : ∀ (L3 : Option Int) (w x : Int) (σ1 : ab_SG), ((fw_c (σ1 49 11) ≤ fw_c x → G 2 [some (2, 49, 0), some (0, 0, w + 1), some (0, 0, x), L3.map fun b => (0, 0, b)] [] σ1) ∧ (fw_c x < fw_c (σ1 49 11) → G 19 [some (2, 49, 0), some (0, 0, w), some (0, 0, x), some (0, 0, 0)] [] σ1)) → G 9 [some (2, 49, 0), some (0, 0, w), some (0, 0, x), L3.map fun b => (0, 0, b)] [] σ1 := fun L3 w x σ1 h => by
    cases L3 with
    | none => exact fs_compareAll_9 hG h
    | some b => exact fs_compareAll_9a hG h
  have s2 : ∀ (L : Option (Int × Option Int)) (w : Int) (σ1 : ab_SG), ((fw_c 4 ≤ fw_c w → K none σ1) ∧ (fw_c w < fw_c 4 → G 9 [some (2, 49, 0), some (0, 0, w), some (0, 0, 0), (L.bind fun q => q.2).map fun b => (0, 0, b)] [] σ1)) → G 2 [some (2, 49, 0), some (0, 0, w), L.map fun q => (0, 0, q.1), (L.bind fun q => q.2).map fun b => (0, 0, b)] [] σ1 := fun L w σ1 h => by
    rcases L with _ | ⟨a, _ | b⟩
    · exact fs_compareAll_2 hG h
    · exact fs_compareAll_2a hG h
    · exact fs_compareAll_2b hG h
  have k9 : ∀ (w : Nat), w < 4 → ∀ (f x : Nat) (L3 : Option Int) (σ1 : ab_SG), x + f = T → ca_is σ σ1 w x 0 → (∀ (L : Option (Int × Option Int)) (σ2 : ab_SG), ca_is σ σ2 (w + 1) 0 0 → G 2 [some (2, 49, 0), some (0, 0, (w : Int) + 1), L.map fun q => (0, 0, q.1), (L.bind fun q => q.2).map fun b => (0, 0, b)] [] σ2) → G 9 [some (2, 49, 0), some (0, 0, (w : Int)), some (0, 0, (x : Int)), L3.map fun b => (0, 0, b)] [] σ1 := by
    intro w hw f
    induction f with
    | zero =>
      intro x L3 σ1 hx I c
      have ex : fw_c (x : Int) = x := fw_c_id (by omega) (by omega)
      refine s9 L3 w x σ1 ?_
      rw [I.1 49 11 (by decide), eT, cT, ex]
      exact ⟨fun _ => c (some ((x : Int), L3)) σ1 ⟨I.1, fun w' x' y' hw' hx' hy' hd => I.2 w' x' y' hw' hx' hy' (by omega)⟩, fun q => absurd q (by omega)⟩
    | succ f ih =>
      intro x L3 σ1 hx I c
      have ex : fw_c (x : Int) = x := fw_c_id (by omega) (by omega)
      refine s9 L3 w x σ1 ?_
      rw [I.1 49 11 (by decide), eT, cT, ex]
      refine ⟨fun q => absurd q (by omega), fun _ => k19 w x hw (by omega) T 0 σ1 (by omega) I (fun σ2 I2 => ?_)⟩
      exact ih (x + 1) (some (T : Int)) σ2 (by omega) ⟨I2.1, fun w' x' y' hw' hx' hy' hd => I2.2 w' x' y' hw' hx' hy' (by omega)⟩ c
  have k2 : ∀ (f w : Nat) (L : Option (Int × Option Int)) (σ1 : ab_SG), w + f = 4 → ca_is σ σ1 w 0 0 → G 2 [some (2, 49, 0), some (0, 0, (w : Int)), L.map fun q => (0, 0, q.1), (L.bind fun q => q.2).map fun b => (0, 0, b)] [] σ1 := by
    intro f
    induction f with
    | zero =>
      intro w L σ1 hw I
      have ew : fw_c (w : Int) = w := fw_c_id (by omega) (by omega)
      refine s2 L w σ1 ?_
      rw [e4, ew]
      exact ⟨fun _ => h σ1 I.1 (fun w' x' y' hw' hx' hy' => I.2 w' x' y' hw' hx' hy' (by omega)), fun q => absurd q (by omega)⟩
    | succ f ih =>
      intro w L σ1 hw I
      have ew : fw_c (w : Int) = w := fw_c_id (by omega) (by omega)
      refine s2 L w σ1 ?_
      rw [e4, ew]
      exact ⟨fun q => absurd q (by omega), fun _ => k9 w (by omega) T 0 _ σ1 (by omega) I (fun L2 σ2 I2 => ih (w + 1) L2 σ2 (by omega) I2)⟩
  exact k2 4 0 none σ rfl ⟨fun _ _ _ => rfl, fun w' x' y' hw' hx' hy' hd => absurd hd (by omega)⟩)
theorem fm_sclear (hinj : nn_inj ad) : fw_H l cy ad wr cr D 8 0 sp_sclear := fw_mk hinj (⟨"NameNotes$Sentence", "clear", "()V"⟩, prog_7_method_2_code, 1, (Option.none : Option Jvm.ClassFile.FieldType), 0, true, 4) rfl rfl nn_KI5_ok nn_KJ5_ok nn_PF5_ok nn_PS5_ok (by decide +kernel) rfl rfl (fun _ h => absurd h List.not_mem_nil) (fun as σ K h => by
  obtain ⟨rfl, h⟩ := h
  refine ⟨rfl, fun G hG => fs_sclear_0 hG ?_⟩
  rw [fw_c0]
  exact h)
theorem fm_clear49 (hinj : nn_inj ad) : fw_H l cy ad wr cr D 6 1 sp_clear49 := fw_mk hinj (⟨"NameNotes$Studio", "clear", "()V"⟩, prog_8_method_2_code, 1, (Option.none : Option Jvm.ClassFile.FieldType), 0, true, 4) rfl rfl nn_KI6_ok nn_KJ6_ok nn_PF6_ok nn_PS6_ok (by decide +kernel) rfl rfl (List.forall_mem_cons.mpr ⟨fw_row nn_PM6_ok (x := 63) (k := 2) (mn := 7) (np := 2) (ob := false) (ci := 0) (⟨"NameNotes", "fillRow", "([II)V"⟩, prog_1_method_90_code, 3, (Option.none : Option Jvm.ClassFile.FieldType), 2, false, 4) rfl (by decide +kernel) rfl rfl (by decide) (fun q => by cases q) (fm_fill hinj), (List.forall_mem_cons.mpr ⟨fw_row nn_PM6_ok (x := 67) (k := 0) (mn := 8) (np := 0) (ob := true) (ci := 5) (⟨"NameNotes$Sentence", "clear", "()V"⟩, prog_7_method_2_code, 1, (Option.none : Option Jvm.ClassFile.FieldType), 0, true, 4) rfl (by decide +kernel) rfl rfl (by decide) (fun _ => ⟨_, _, rfl⟩) (fm_sclear hinj), (fun _ h => absurd h List.not_mem_nil)⟩)⟩) (fun as σ K h => by
  obtain ⟨rfl, h⟩ := h
  have z9 : fw_c 9 = 9 := fw_c_id (by decide) (by decide)
  have z5 : fw_c 5 = 5 := fw_c_id (by decide) (by decide)
  refine ⟨rfl, fun G hG => fs_clear49_0 hG ?_⟩
  rw [fw_c0, z9]
  have M1 : ab_okM cl_M σ (ab_ups (ab_ups (ab_ups (ab_ups σ 49 11 0) 49 12 0) 49 13 0) 49 14 9) := fw_okM_ups (fw_okM_ups (fw_okM_ups (fw_okM_ups (fw_okM_refl _ _) (by decide)) (by decide)) (by decide)) (by decide)
  have v1 : ab_ups (ab_ups (ab_ups (ab_ups σ 49 11 0) 49 12 0) 49 13 0) 49 14 9 49 11 = 0 := by rw [ab_ups_ne (by decide), ab_ups_ne (by decide), ab_ups_ne (by decide), ab_ups_eq]
  have v2 : ab_ups (ab_ups (ab_ups (ab_ups σ 49 11 0) 49 12 0) 49 13 0) 49 14 9 49 12 = 0 := by rw [ab_ups_ne (by decide), ab_ups_ne (by decide), ab_ups_eq]
  have v3 : ab_ups (ab_ups (ab_ups (ab_ups σ 49 11 0) 49 12 0) 49 13 0) 49 14 9 49 13 = 0 := by rw [ab_ups_ne (by decide), ab_ups_eq]
  have v4 : ab_ups (ab_ups (ab_ups (ab_ups σ 49 11 0) 49 12 0) 49 13 0) 49 14 9 49 14 = 9 := ab_ups_eq
  generalize ab_ups (ab_ups (ab_ups (ab_ups σ 49 11 0) 49 12 0) 49 13 0) 49 14 9 = σ1 at M1 v1 v2 v3 v4 ⊢
  refine ⟨(55, 45), by decide, 0, rfl, fun σ2 a2 b2 => fs_clear49_29 hG ⟨(56, 5), by decide, 5, rfl, fun σ3 a3 b3 => fs_clear49_37 hG ⟨rfl, fs_clear49_44 hG (h _ ?_ ?_)⟩⟩⟩
  · refine fw_okM_ups (fw_okM_ups (fun a b hab => ?_) (by decide)) (by decide)
    rw [a3 a b (fun z => hab (56, 1000000) (by decide) ⟨z.1.symm, Or.inr rfl⟩), a2 a b (fun z => hab (55, 1000000) (by decide) ⟨z.1.symm, Or.inr rfl⟩)]
    exact M1 a b hab
  · have r : ∀ b : Nat, ab_ups (ab_ups σ3 60 3 0) 60 4 0 49 b = σ1 49 b := fun b => by
      rw [ab_ups_ne (fun z => absurd z.1 (by decide)), ab_ups_ne (fun z => absurd z.1 (by decide)), a3 49 b (fun z => absurd z.1 (by decide)), a2 49 b (fun z => absurd z.1 (by decide))]
    refine ⟨(r 11).trans v1, (r 12).trans v2, (r 13).trans v3, (r 14).trans v4, fun b hb => ?_, fun b hb => ?_, ?_, ab_ups_eq⟩
    · rw [ab_ups_ne (fun z => absurd z.1 (by decide)), ab_ups_ne (fun z => absurd z.1 (by decide)), a3 55 b (fun z => absurd z.1 (by decide)), b2 b hb, fw_c0]
    · rw [ab_ups_ne (fun z => absurd z.1 (by decide)), ab_ups_ne (fun z => absurd z.1 (by decide)), b3 b hb, z5]
    · rw [ab_ups_ne (by decide), ab_ups_eq])
end
theorem RD.off {σ A : ab_SG} {e : tk_E} {p k j : Nat} {v : Int} (h : RD σ A e p) (hk : k ≠ 1 ∧ k ≠ 2) (hn : pr_in k j = false) : RD (ab_ups σ k j v) A e p := by
  obtain ⟨ha, hi, he, hs, hp, hb, h9⟩ := h
  have n1 : ∀ b : Nat, ab_ups σ k j v 1 b = σ 1 b := fun b => ab_ups_ne (fun z => hk.1 z.1.symm)
  have n2 : ab_ups σ k j v 2 = σ 2 := ab_ups_row (fun z => hk.2 z.symm)
  refine ⟨fun a b hab => (ab_ups_ne (fun z => ?_)).trans (ha a b hab), hi, ?_, ?_, hp, ?_, (n1 9).trans h9⟩
  · rw [z.1, z.2, hn] at hab
    exact absurd hab (by decide)
  · rw [← he]
    unfold eT tp_t
    rw [n1, n1, n2]
  · unfold st_is
    rw [n1, n1, n1, n1, n1, n1]
    exact hs
  · rw [n1, n1]
    exact hb
theorem eT_M {M : ab_ML} {σ σ' : ab_SG} (h : ab_okM M σ σ') (hm : M.all (fun q => !(q.1.beq 2)) = true) (h1 : σ' 1 1 = σ 1 1) (h2 : σ' 1 2 = σ 1 2) : eT σ' = eT σ := by
  unfold eT
  rw [tp_t_M h hm, h1, h2]
theorem rl_end {G : fw_K} {K : fw_KR} (hG : fw_cls st_read K G) {σ0 σ A : ab_SG} {e : tk_E} {p : Nat} {n i : Int} (hM : ab_okM rl_M σ0 σ) (h : RD σ A e p) (h5 : σ 48 5 = n) (h3 : σ 60 3 = 0) (h4 : σ 60 4 = 0)
    (h1 : ∀ σ' : ab_SG, ab_okM rl_M σ0 σ' → eT σ' = e → σ' 1 9 = 0 → agr σ' A → σ' 48 5 = n → σ' 60 3 = 0 → σ' 60 4 = 0 → (∀ w x y : Nat, w < 4 → (x : Int) < σ' 49 11 → (y : Int) < σ' 49 11 → σ' 53 ((w * 9 + x) * 9 + y) = pr_cs σ' x y w 9 0) → K (some (0, 0, 1)) σ') :
    G 96 [some (2, 48, 0), some (0, 0, i)] [] σ := by
  have hi := h.2.1
  have e11 : σ 49 11 = A 49 11 := h.pl rfl
  refine fs_read_96 hG ⟨rfl, ⟨by rw [e11]; exact hi.1, fun j hj => ?_⟩, fun σ' a b => fs_read_103 hG ⟨fw_11, h1 σ' ?_ ?_ ?_ ?_ ?_ ?_ ?_ ?_⟩⟩
  · rw [h.pl (k := 52) (j := j) rfl]
    exact hi.2.2.2.2.2.2.1 j hj
  · exact fun a' b' hab => (a a' b' (fun z => hab (53, 1000000) (by decide) ⟨z.symm, Or.inr rfl⟩)).trans (hM a' b' hab)
  · rw [← h.2.2.1]
    refine eT_M (M := [(53, 1000000)]) (fun a' b' hab => a a' b' (fun z => hab (53, 1000000) (by decide) ⟨z.symm, Or.inr rfl⟩)) (by decide) (a 1 1 (by decide)) (a 1 2 (by decide))
  · exact (a 1 9 (by decide)).trans h.2.2.2.2.2.2
  · intro k j hk
    refine (a k j (fun z => ?_)).trans (h.1 k j hk)
    rw [z] at hk
    exact absurd (show false = true from hk) (by decide)
  · exact (a 48 5 (by decide)).trans h5
  · exact (a 60 3 (by decide)).trans h3
  · exact (a 60 4 (by decide)).trans h4
  · intro w x y hw hx hy
    rw [a 49 11 (by decide)] at hx hy
    exact (b w x y hw hx hy).trans (pr_cs_cong a 9 0).symm
theorem rl_loop {G : fw_K} {K : fw_KR} (hG : fw_cls st_read K G) {σ0 : ab_SG} {e : tk_E} : ∀ (f i : Nat) (σ A : ab_SG) (p : Nat) (n : Int), i + f = 900 → (0 ≤ n ∧ n ≤ i) → ab_okM rl_M σ0 σ → RD σ A e p → nb_is A → σ 48 5 = n → σ 60 3 = 0 → σ 60 4 = 0 →
    ((pr_all e f n A p).1.1 ≠ 0 → ∀ σ' : ab_SG, ab_okM rl_M σ0 σ' → eT σ' = e → σ' 1 9 = (pr_all e f n A p).1.1 → K (some (0, 0, 0)) σ') →
    ((pr_all e f n A p).1.1 = 0 → ∀ σ' : ab_SG, ab_okM rl_M σ0 σ' → eT σ' = e → σ' 1 9 = 0 → agr σ' (pr_all e f n A p).1.2.1 → σ' 48 5 = (pr_all e f n A p).2 → σ' 60 3 = 0 → σ' 60 4 = 0 → (∀ w x y : Nat, w < 4 → (x : Int) < σ' 49 11 → (y : Int) < σ' 49 11 → σ' 53 ((w * 9 + x) * 9 + y) = pr_cs σ' x y w 9 0) → RI (pr_all e f n A p).1.2.1 → nb_is (pr_all e f n A p).1.2.1 → K (some (0, 0, 1)) σ') →
    G 42 [some (2, 48, 0), some (0, 0, (i : Int))] [] σ := by
  intro f
  have z9 : fw_c 900 = 900 := fw_c_id (by decide) (by decide)
  have z59 : fw_c 59 = 59 := fw_c_id (by decide) (by decide)
  induction f with
  | zero =>
    intro i σ A p n hi hn hM h hb h5 h3 h4 hf hk
    have ei : fw_c (i : Int) = i := fw_c_id (by omega) (by omega)
    refine fs_read_42 hG ?_
    rw [z9, ei]
    exact ⟨fun _ => rl_end hG hM h h5 h3 h4 (fun σ' a b c d e5 f3 f4 s => hk rfl σ' a b c d e5 f3 f4 s h.2.1 hb), fun q => absurd q (by omega)⟩
  | succ f ih =>
    intro i σ A p n hi hn hM h hb h5 h3 h4 hf hk
    have ei : fw_c (i : Int) = i := fw_c_id (by omega) (by omega)
    refine fs_read_42 hG ?_
    rw [z9, ei, h.kind.2]
    refine ⟨fun q => absurd q (by omega), fun _ => ⟨fun q => ?_, fun q => ?_⟩⟩
    · unfold pr_all at hk
      rw [if_pos q] at hk
      exact rl_end hG hM h h5 h3 h4 (fun σ' a b c d e5 f3 f4 s => hk rfl σ' a b c d e5 f3 f4 s h.2.1 hb)
    · unfold pr_all at hf hk
      rw [if_neg q] at hf hk
      refine ⟨A, e, p, rfl, h, fun q2 σ' a b => ?_, fun q2 σ' a b => ?_⟩
      · have e1 : pr_lns A e p = pr_line A e p := by unfold pr_lns; rw [if_pos q2]
        rw [e1, if_pos q2] at hf
        have hE : eT σ' = e := (eT_M a (by decide) (a 1 1 (by decide)) (a 1 2 (by decide))).trans h.2.2.1
        exact fs_read_63 hG ⟨fun _ => ⟨fw_01, hf q2 σ' (fw_okM_tr hM a (by decide)) hE b⟩, fun y => absurd fw_c0 y⟩
      · refine fs_read_63 hG ⟨fun y => absurd (fw_c1.symm.trans y) (by decide), fun _ => ⟨59, rfl, fun q3 => ?_, fun q3 => ?_⟩⟩
        · have k3 : (tk e (pr_line A e p).2.2).1 ≠ 59 := fun z => q3 (b.kind.2.trans (z.trans z59.symm))
          have e1 : pr_lns A e p = (1, (pr_line A e p).2.1, (pr_line A e p).2.2) := by unfold pr_lns; rw [if_neg (fun y => y q2), if_pos k3]
          rw [e1, if_pos (show (1 : Int) ≠ 0 by decide)] at hf
          have M3 : ab_okM rd_M σ' (tp_rf σ' 1) := tp_rf_M 1
          have hE : eT (tp_rf σ' 1) = e := (eT_M M3 (by decide) (M3 1 1 (by decide)) (M3 1 2 (by decide))).trans b.2.2.1
          exact fs_read_75 hG ⟨fun y => absurd fw_c0 y, fun _ => ⟨fw_01, hf (by first | decide | (dsimp only; decide)) _ (fw_okM_tr (fw_okM_tr hM a (by decide)) M3 (by decide)) hE (by rw [tp_rf_9, fw_c1])⟩⟩
        · have k3 : ¬ (tk e (pr_line A e p).2.2).1 ≠ 59 := fun z => z (b.kind.2.symm.trans (q3.trans z59))
          have e1 : pr_lns A e p = (0, (pr_line A e p).2.1, tn e (pr_line A e p).2.2) := by unfold pr_lns; rw [if_neg (fun y => y q2), if_neg k3]
          rw [e1, if_neg (show ¬ (0 : Int) ≠ 0 by decide)] at hf hk
          refine ⟨b.st.1, fun σ2 M2 S2 => fs_read_75 hG ⟨fun _ => ?_, fun y => absurd (fw_c1.symm.trans y) (by decide)⟩⟩
          have H2 := b.st.2 σ2 M2 S2
          have N2 : ab_okM rl_M σ0 σ2 := fw_okM_tr (fw_okM_tr hM a (by decide)) M2 (by decide)
          have e5 : σ2 48 5 = n := (M2 48 5 (by decide)).trans ((a 48 5 (by decide)).trans h5)
          have f3 : σ2 60 3 = 0 := (M2 60 3 (by decide)).trans ((a 60 3 (by decide)).trans h3)
          have f4 : σ2 60 4 = 0 := (M2 60 4 (by decide)).trans ((a 60 4 (by decide)).trans h4)
          have en : fw_c (n + 1) = n + 1 := fw_c_id (by omega) (by omega)
          rw [e5, en]
          exact ih (i + 1) _ _ _ (n + 1) (by omega) (by omega) (fw_okM_ups N2 (by decide)) (H2.off (by decide) rfl) (pr_line_nb h.2.1 hb q2) ab_ups_eq ((ab_ups_ne (by decide)).trans f3) ((ab_ups_ne (by decide)).trans f4) hf hk
section
variable {l : Launch} {cy : Nat → ClassId} {ad wr cr : Nat → Nat} {D : va_G}
theorem fm_read (hinj : nn_inj ad) : fw_H l cy ad wr cr D 5 7 sp_read := fw_mk hinj (⟨"NameNotes$StudioReader", "read", "()Z"⟩, prog_9_method_2_code, 2, (Option.some Jvm.ClassFile.FieldType.boolean), 0, true, 1) rfl rfl nn_KI3_ok nn_KJ3_ok nn_PF3_ok nn_PS3_ok (by decide +kernel) rfl rfl (List.forall_mem_cons.mpr ⟨fw_row nn_PM3_ok (x := 26) (k := 0) (mn := 6) (np := 0) (ob := true) (ci := 6) (⟨"NameNotes$Studio", "clear", "()V"⟩, prog_8_method_2_code, 1, (Option.none : Option Jvm.ClassFile.FieldType), 0, true, 4) rfl (by decide +kernel) rfl rfl (by decide) (fun _ => ⟨_, _, rfl⟩) (fm_clear49 hinj), (List.forall_mem_cons.mpr ⟨fw_row nn_PM3_ok (x := 29) (k := 2) (mn := 7) (np := 2) (ob := false) (ci := 0) (⟨"NameNotes", "fillRow", "([II)V"⟩, prog_1_method_90_code, 3, (Option.none : Option Jvm.ClassFile.FieldType), 2, false, 4) rfl (by decide +kernel) rfl rfl (by decide) (fun q => by cases q) (fm_fill hinj), (List.forall_mem_cons.mpr ⟨fw_row nn_PM3_ok (x := 44) (k := 0) (mn := 9) (np := 1) (ob := true) (ci := 8) (⟨"NameNotes$Tape", "open", "(I)V"⟩, prog_10_method_4_code, 2, (Option.none : Option Jvm.ClassFile.FieldType), 1, true, 4) rfl (by decide +kernel) rfl rfl (by decide) (fun _ => ⟨_, _, rfl⟩) (fm_opn hinj), (List.forall_mem_cons.mpr ⟨fw_row nn_PM3_ok (x := 53) (k := 0) (mn := 19) (np := 0) (ob := true) (ci := 7) (⟨"NameNotes$StudioReader", "readLine", "()Z"⟩, prog_9_method_3_code, 1, (Option.some Jvm.ClassFile.FieldType.boolean), 0, true, 1) rfl (by decide +kernel) rfl rfl (by decide) (fun _ => ⟨_, _, rfl⟩) (fm_readLine hinj), (List.forall_mem_cons.mpr ⟨fw_row nn_PM3_ok (x := 57) (k := 0) (mn := 40) (np := 1) (ob := true) (ci := 8) (⟨"NameNotes$Tape", "takeSign", "(I)Z"⟩, prog_10_method_13_code, 2, (Option.some Jvm.ClassFile.FieldType.boolean), 1, true, 1) rfl (by decide +kernel) rfl rfl (by decide) (fun _ => ⟨_, _, rfl⟩) (fm_takeSign hinj), (List.forall_mem_cons.mpr ⟨fw_row nn_PM3_ok (x := 61) (k := 0) (mn := 41) (np := 0) (ob := true) (ci := 6) (⟨"NameNotes$Studio", "compareAll", "()V"⟩, prog_8_method_19_code, 4, (Option.none : Option Jvm.ClassFile.FieldType), 0, true, 4) rfl (by decide +kernel) rfl rfl (by decide) (fun _ => ⟨_, _, rfl⟩) (fm_compareAll hinj), (fun _ h => absurd h List.not_mem_nil)⟩)⟩)⟩)⟩)⟩)⟩) (fun as σ K h => by
  obtain ⟨rfl, hb, hr, h⟩ := h
  have z9 : fw_c 900 = 900 := fw_c_id (by decide) (by decide)
  refine ⟨rfl, fun G hG => fs_read_0 hG ⟨rfl, fun σ1 M1 C1 => fs_read_7 hG ⟨(64, 5), by decide, 0, rfl, fun σ2 a2 b2 => fs_read_15 hG ⟨fw_01, ?_⟩⟩⟩⟩
  rw [fw_c0]
  have M2 : ab_okM ((48, 3) :: (48, 4) :: (48, 5) :: (64, 1000000) :: cl_M) σ (ab_ups (ab_ups (ab_ups σ2 48 3 0) 48 4 0) 48 5 0) := fw_okM_ups (fw_okM_ups (fw_okM_ups (fun a b hab => (a2 a b (fun z => hab (64, 1000000) (by decide) ⟨z.1.symm, Or.inr rfl⟩)).trans (fw_okM_tr (fw_okM_refl _ _) M1 (by decide) a b hab)) (by decide)) (by decide)) (by decide)
  have C2 : rl_is (ab_ups (ab_ups (ab_ups σ2 48 3 0) 48 4 0) 48 5 0) := by
    have r : ∀ a b : Nat, a ≠ 48 → a ≠ 64 → ab_ups (ab_ups (ab_ups σ2 48 3 0) 48 4 0) 48 5 0 a b = σ1 a b := fun a b p q => by
      rw [ab_ups_ne (fun z => p z.1), ab_ups_ne (fun z => p z.1), ab_ups_ne (fun z => p z.1), a2 a b (fun z => q z.1)]
    obtain ⟨c1, c2, c3, c4, c5, c6, c7, c8⟩ := C1
    refine ⟨⟨(r 49 11 (by decide) (by decide)).trans c1, (r 49 12 (by decide) (by decide)).trans c2, (r 49 13 (by decide) (by decide)).trans c3, (r 49 14 (by decide) (by decide)).trans c4, fun b hb => (r 55 b (by decide) (by decide)).trans (c5 b hb), fun b hb => (r 56 b (by decide) (by decide)).trans (c6 b hb), (r 60 3 (by decide) (by decide)).trans c7, (r 60 4 (by decide) (by decide)).trans c8⟩, fun b hb => ?_, ?_, ?_, ab_ups_eq⟩
    · rw [ab_ups_ne (fun z => absurd z.1 (by decide)), ab_ups_ne (fun z => absurd z.1 (by decide)), ab_ups_ne (fun z => absurd z.1 (by decide)), b2 b hb, fw_c0]
    · rw [ab_ups_ne (by decide), ab_ups_ne (by decide), ab_ups_eq]
    · rw [ab_ups_ne (by decide), ab_ups_eq]
  generalize ab_ups (ab_ups (ab_ups σ2 48 3 0) 48 4 0) 48 5 0 = A at M2 C2 ⊢
  have hA : rl_ok A := by
    unfold rl_ok
    rw [fw_okM_c M2 (a := 57) (by decide), fw_okM_c M2 (a := 58) (by decide), fw_okM_c M2 (a := 59) (by decide), fw_okM_c M2 (a := 52) (by decide)]
    exact hr
  have M3 : ab_okM rl_M σ A := fw_okM_tr (fw_okM_refl _ _) M2 (by decide)
  have n11 : A 1 1 = σ 1 1 := M2 1 1 (by decide)
  have nt : tp_t A = tp_t σ := tp_t_M M2 (by decide)
  refine ⟨900, rfl, ⟨by rw [n11]; exact hb.1, by rw [n11]; exact hb.2, by rw [z9]; decide, by rw [z9]; decide⟩, fun σ' M S2 e9 S => fs_read_40 hG ?_⟩
  rw [z9] at S2 S
  rw [n11, nt] at S
  have eE : eT σ' = (tp_t σ, (σ 1 1).toNat, 900) := by
    unfold eT
    rw [tp_t_M M (by decide), nt, M 1 1 (by decide), n11, S2]
  have H : RD σ' A (tp_t σ, (σ 1 1).toNat, 900) 0 := by
    refine ⟨agr_M (fun _ _ _ => rfl) M (by decide), ⟨?_, ?_, ?_, hA.1, hA.2.1, hA.2.2.1, hA.2.2.2, ?_⟩, eE, S, Nat.zero_le _, ?_, e9⟩
    · rw [C2.1.1]; decide
    · rw [C2.1.2.1]; decide
    · rw [C2.1.2.2.1]; decide
    · rw [C2.2.2.2.1]; decide
    · rw [M 1 1 (by decide), n11, S2]; exact ⟨hb.1, hb.2, by decide, by decide⟩
  exact rl_loop hG 900 0 σ' A 0 0 rfl ⟨by decide, by decide⟩ (fw_okM_tr M3 M (by decide)) H (rl_nb C2) ((M 48 5 (by decide)).trans C2.2.2.2.2) ((M 60 3 (by decide)).trans C2.1.2.2.2.2.2.2.1) ((M 60 4 (by decide)).trans C2.1.2.2.2.2.2.2.2) (fun q σ3 a b c => (h A σ3 C2 hA a b).1 q c) (fun q σ3 a b c d f g k s i9 n9 => (h A σ3 C2 hA a b).2 q c d f g k s i9 n9))
end
end
section
/-! the reference's words: numbers over 27; a run of letters and digits as it reads it -/
/-- a word's number over 32, told over 27 -/
def rf_w : Nat → Int → Int
  | 0, _ => 0
  | n + 1, w => 27 * rf_w n (w / 32) + w % 32
/-- a word of at most n letters -/
def rf_ok : Nat → Int → Prop
  | 0, w => w = 0
  | n + 1, w => w = 0 ∨ (1 ≤ w % 32 ∧ w % 32 ≤ 26 ∧ rf_ok n (w / 32))
def rf_B : Nat → Int
  | 0 => 0
  | n + 1 => 27 * rf_B n + 31
def rf_C : Nat → Int
  | 0 => 1
  | n + 1 => 32 * rf_C n
theorem rf_w_in : ∀ (n : Nat) (w : Int), 0 ≤ rf_w n w ∧ rf_w n w ≤ rf_B n := by
  intro n
  induction n with
  | zero => intro w; exact ⟨Int.le_refl _, Int.le_refl _⟩
  | succ n ih =>
    intro w
    have := ih (w / 32)
    show 0 ≤ 27 * rf_w n (w / 32) + w % 32 ∧ 27 * rf_w n (w / 32) + w % 32 ≤ 27 * rf_B n + 31
    omega
theorem rf_w_0 : ∀ n : Nat, rf_w n 0 = 0 := by
  intro n
  induction n with
  | zero => rfl
  | succ n ih =>
    show 27 * rf_w n ((0 : Int) / 32) + (0 : Int) % 32 = 0
    rw [show (0 : Int) / 32 = 0 from by decide, ih]
    decide
theorem rf_ok_0 : ∀ n : Nat, rf_ok n 0 := by
  intro n
  cases n with
  | zero => exact rfl
  | succ n => exact Or.inl rfl
theorem rf_ok_in : ∀ (n : Nat) (w : Int), rf_ok n w → 0 ≤ w ∧ w < rf_C n := by
  intro n
  induction n with
  | zero => intro w h; cases h; decide
  | succ n ih =>
    intro w h
    show 0 ≤ w ∧ w < 32 * rf_C n
    rcases h with h | ⟨h1, h2, h3⟩
    · have := ih 0 (rf_ok_0 n)
      omega
    · have := ih _ h3
      omega
theorem rf_ok_up : ∀ (n : Nat) (w : Int), rf_ok n w → rf_ok (n + 1) w ∧ rf_w (n + 1) w = rf_w n w := by
  intro n
  induction n with
  | zero => intro w h; cases h; exact ⟨Or.inl rfl, rf_w_0 1⟩
  | succ n ih =>
    intro w h
    rcases h with h | ⟨h1, h2, h3⟩
    · subst h
      exact ⟨Or.inl rfl, by rw [rf_w_0, rf_w_0]⟩
    · have := ih _ h3
      refine ⟨Or.inr ⟨h1, h2, this.1⟩, ?_⟩
      show 27 * rf_w (n + 1) (w / 32) + w % 32 = 27 * rf_w n (w / 32) + w % 32
      rw [this.2]
theorem rf_ok_le {n m : Nat} (h : n ≤ m) {w : Int} (hw : rf_ok n w) : rf_ok m w ∧ rf_w m w = rf_w n w := by
  induction h with
  | refl => exact ⟨hw, rfl⟩
  | step _ ih =>
    have := rf_ok_up _ _ ih.1
    exact ⟨this.1, this.2.trans ih.2⟩
/-- words told over 27 are the same if they are -/
theorem rf_inj : ∀ (n : Nat) (a b : Int), rf_ok n a → rf_ok n b → rf_w n a = rf_w n b → a = b := by
  intro n
  induction n with
  | zero => intro a b ha hb _; exact ha.trans hb.symm
  | succ n ih =>
    intro a b ha hb h
    replace h : 27 * rf_w n (a / 32) + a % 32 = 27 * rf_w n (b / 32) + b % 32 := h
    have na := (rf_w_in n (a / 32)).1
    have nb := (rf_w_in n (b / 32)).1
    rcases ha with ha | ⟨a1, a2, a3⟩
    · rcases hb with hb | ⟨b1, b2, b3⟩
      · exact ha.trans hb.symm
      · exfalso
        subst ha
        rw [show (0 : Int) / 32 = 0 from by decide, rf_w_0] at h
        omega
    · rcases hb with hb | ⟨b1, b2, b3⟩
      · exfalso
        subst hb
        rw [show (0 : Int) / 32 = 0 from by decide, rf_w_0] at h
        omega
      · have := ih _ _ a3 b3 (by omega)
        omega
/-- one letter more -/
theorem rf_add {n : Nat} {w d : Int} (h : rf_ok n w) (h1 : 1 ≤ d) (h2 : d ≤ 26) : rf_ok (n + 1) (w * 32 + d) ∧ rf_w (n + 1) (w * 32 + d) = 27 * rf_w n w + d := by
  have e1 : (w * 32 + d) / 32 = w := by omega
  have e2 : (w * 32 + d) % 32 = d := by omega
  refine ⟨Or.inr ⟨by omega, by omega, by rw [e1]; exact h⟩, ?_⟩
  show 27 * rf_w n ((w * 32 + d) / 32) + (w * 32 + d) % 32 = 27 * rf_w n w + d
  rw [e1, e2]
theorem rf_C7 : rf_C 7 = 34359738368 := by decide
theorem rf_B7 : rf_B 7 ≤ 13000000000 := by decide
/-- what a run of p - q bytes tells both: the class's (letters, digits, word, number) and the reference's (good, word, number); L: its first byte is a letter -/
def rf_is (L : Prop) (q p : Nat) (s : tk_S) (g : Prop) (w n : Int) : Prop :=
  (0 ≤ s.1 ∧ 0 ≤ s.2.1 ∧ s.1 + s.2.1 = (p : Int) - q) ∧ (g ↔ ((L ∧ s.2.1 = 0) ∨ (¬ L ∧ s.1 = 0))) ∧ (q < p → (L → 1 ≤ s.1) ∧ (¬ L → 1 ≤ s.2.1)) ∧
  (s.2.1 = 0 → s.1 ≤ 7 → rf_ok s.1.toNat s.2.2.1 ∧ w = rf_w 7 s.2.2.1) ∧ (s.1 = 0 → (s.2.1 = 0 → s.2.2.2 = 0 ∧ n = 0) ∧ (s.2.1 = 1 → 0 ≤ s.2.2.2 ∧ s.2.2.2 ≤ 9 ∧ n = s.2.2.2) ∧ (s.2.1 = 2 → 0 ≤ s.2.2.2 ∧ s.2.2.2 ≤ 99 ∧ n = s.2.2.2))
theorem rf_is_0 (L : Prop) (q : Nat) : rf_is L q q (0, 0, 0, 0) True 0 0 :=
  ⟨⟨Int.le_refl _, Int.le_refl _, by show (0 : Int) + 0 = (q : Int) - q; omega⟩, ⟨fun _ => (Classical.em L).elim (fun z => Or.inl ⟨z, rfl⟩) (fun z => Or.inr ⟨z, rfl⟩), fun _ => trivial⟩, fun z => absurd z (Nat.lt_irrefl _), fun _ _ => ⟨rfl, (rf_w_0 7).symm⟩, fun _ => ⟨fun _ => ⟨rfl, rfl⟩, fun z => absurd z (by show ¬ (0 : Int) = 1; decide), fun z => absurd z (by show ¬ (0 : Int) = 2; decide)⟩⟩
theorem rf_is_l {L : Prop} {q p : Nat} {s : tk_S} {g : Prop} {w n c w' n' : Int} (h : rf_is L q p s g w n) (hc : 97 ≤ c ∧ c ≤ 122) (hL : p = q → L) (hw' : (p : Int) - q < 7 → w' = fw_d (27 * w + fw_c c - 96)) :
    rf_is L q (p + 1) (s.1 + 1, s.2.1, fw_d (s.2.2.1 * 32 + c - 97 + 1), s.2.2.2) (g ∧ L) w' n' := by
  obtain ⟨⟨h1, h2, h3⟩, hg, hf, hw, hn⟩ := h
  have hp : q ≤ p := by omega
  refine ⟨⟨by show 0 ≤ s.1 + 1; omega, h2, by show s.1 + 1 + s.2.1 = ((p + 1 : Nat) : Int) - q; omega⟩, ?_, fun _ => ⟨fun _ => by show 1 ≤ s.1 + 1; omega, fun z => ?_⟩, fun z z7 => ?_, fun z => absurd z (by show ¬ s.1 + 1 = 0; omega)⟩
  · show (g ∧ L) ↔ ((L ∧ s.2.1 = 0) ∨ (¬ L ∧ s.1 + 1 = 0))
    rw [hg]
    constructor
    · rintro ⟨z | z, zl⟩
      · exact Or.inl z
      · exact absurd zl z.1
    · rintro (z | z)
      · exact ⟨Or.inl z, z.1⟩
      · exact absurd z.2 (by omega)
  · show 1 ≤ s.2.1
    by_cases e : p = q
    · exact absurd (hL e) z
    · exact (hf (by omega)).2 z
  · replace z : s.2.1 = 0 := z
    replace z7 : s.1 + 1 ≤ 7 := z7
    have hk := hw z (by omega)
    have hin := rf_ok_in _ _ (rf_ok_le (m := 7) (by omega) hk.1).1
    rw [rf_C7] at hin
    have ha := rf_add (d := c - 96) hk.1 (by omega) (by omega)
    have ed : fw_d (s.2.2.1 * 32 + c - 97 + 1) = s.2.2.1 * 32 + (c - 96) := by
      rw [fw_d_id (by omega) (by omega)]; omega
    have en : (s.1 + 1).toNat = s.1.toNat + 1 := by omega
    show rf_ok (s.1 + 1).toNat (fw_d (s.2.2.1 * 32 + c - 97 + 1)) ∧ w' = rf_w 7 (fw_d (s.2.2.1 * 32 + c - 97 + 1))
    have hb := rf_w_in 7 s.2.2.1
    have hB := rf_B7
    have ew := hk.2
    rw [ed, en, hw' (by omega), fw_c_id (by omega) (by omega), fw_d_id (by omega) (by omega)]
    refine ⟨ha.1, ?_⟩
    have e7 := (rf_ok_le (m := 7) (by omega) ha.1).2
    have e6 := (rf_ok_le (m := 7) (by omega) hk.1).2
    rw [e7, ha.2, hk.2, e6]
    omega
theorem rf_is_d {L : Prop} {q p : Nat} {s : tk_S} {g : Prop} {w n c w' n' : Int} (h : rf_is L q p s g w n) (hc : 48 ≤ c ∧ c ≤ 57) (hL : p = q → ¬ L) (hn' : (p : Int) - q < 2 → n' = fw_c (10 * n + c - 48)) :
    rf_is L q (p + 1) (s.1, s.2.1 + 1, s.2.2.1, fw_c (s.2.2.2 * 10 + c - 48)) (g ∧ ¬ L) w' n' := by
  obtain ⟨⟨h1, h2, h3⟩, hg, hf, hw, hn⟩ := h
  have hp : q ≤ p := by omega
  refine ⟨⟨h1, by show 0 ≤ s.2.1 + 1; omega, by show s.1 + (s.2.1 + 1) = ((p + 1 : Nat) : Int) - q; omega⟩, ?_, fun _ => ⟨fun z => ?_, fun _ => by show 1 ≤ s.2.1 + 1; omega⟩, fun z => absurd z (by show ¬ s.2.1 + 1 = 0; omega), fun z => ?_⟩
  · show (g ∧ ¬ L) ↔ ((L ∧ s.2.1 + 1 = 0) ∨ (¬ L ∧ s.1 = 0))
    rw [hg]
    constructor
    · rintro ⟨z | z, zl⟩
      · exact absurd z.1 zl
      · exact Or.inr z
    · rintro (z | z)
      · exact absurd z.2 (by omega)
      · exact ⟨Or.inr z, z.1⟩
  · show 1 ≤ s.1
    by_cases e : p = q
    · exact absurd z (hL e)
    · exact (hf (by omega)).1 z
  · replace z : s.1 = 0 := z
    obtain ⟨n0, n1, n2⟩ := hn z
    refine ⟨fun y => absurd y (by show ¬ s.2.1 + 1 = 0; omega), fun y => ?_, fun y => ?_⟩
    · replace y : s.2.1 + 1 = 1 := y
      have := n0 (by omega)
      show 0 ≤ fw_c (s.2.2.2 * 10 + c - 48) ∧ fw_c (s.2.2.2 * 10 + c - 48) ≤ 9 ∧ n' = fw_c (s.2.2.2 * 10 + c - 48)
      have e1 : fw_c (s.2.2.2 * 10 + c - 48) = s.2.2.2 * 10 + c - 48 := fw_c_id (by omega) (by omega)
      have e2 : fw_c (10 * n + c - 48) = 10 * n + c - 48 := fw_c_id (by omega) (by omega)
      rw [e1, hn' (by omega), e2]
      omega
    · replace y : s.2.1 + 1 = 2 := y
      have := n1 (by omega)
      show 0 ≤ fw_c (s.2.2.2 * 10 + c - 48) ∧ fw_c (s.2.2.2 * 10 + c - 48) ≤ 99 ∧ n' = fw_c (s.2.2.2 * 10 + c - 48)
      have e1 : fw_c (s.2.2.2 * 10 + c - 48) = s.2.2.2 * 10 + c - 48 := fw_c_id (by omega) (by omega)
      have e2 : fw_c (10 * n + c - 48) = 10 * n + c - 48 := fw_c_id (by omega) (by omega)
      rw [e1, hn' (by omega), e2]
      omega
end
section
/-! the reference's step to the next token -/
def sp_m_isLetter : fw_SP := fun as σ K => ∃ x : Int, as = [(0, 0, x)] ∧ K (some (0, 0, fw_bo (97 ≤ fw_c x ∧ fw_c x ≤ 122))) σ
def sp_m_isDigit : fw_SP := fun as σ K => ∃ x : Int, as = [(0, 0, x)] ∧ K (some (0, 0, fw_bo (48 ≤ fw_c x ∧ fw_c x ≤ 57))) σ
def sp_m_tapeAt : fw_SP := fun as σ K => ∃ x : Int, as = [(2, 93, 0), (0, 0, x)] ∧ (0 ≤ x ∧ x ≤ 940 ∧ 0 ≤ σ 93 3 ∧ σ 93 3 ≤ 940) ∧ K (some (0, 0, if x < σ 93 3 then σ 94 x.toNat else 0)) σ
def go_M : ab_ML := [(93, 5), (93, 6), (93, 7), (93, 8), (93, 9), (93, 12)]
/-- the reference's fields tell a token -/
def mg_is (σ : ab_SG) (k : tk_T) : Prop := σ 93 6 = k.2.1 ∧ σ 93 5 = (k.2.2.1 : Int) ∧ (k.1 = 0 → σ 93 7 = 0) ∧ (k.1 = 1 ∨ k.1 = 46 → σ 93 7 = 1) ∧ (k.1 = 2 → σ 93 7 = 2 ∧ rf_ok 7 k.2.2.2.1 ∧ σ 93 12 = rf_w 7 k.2.2.2.1) ∧
  (k.1 = 3 → σ 93 7 = 3 ∧ σ 93 8 = k.2.2.2.2 ∧ 0 ≤ k.2.2.2.2 ∧ k.2.2.2.2 ≤ 99) ∧ (k.1 = 59 ∨ (60 ≤ k.1 ∧ k.1 ≤ 62) ∨ k.1 = 40 ∨ k.1 = 41 → σ 93 7 = 4 ∧ σ 93 9 = k.1)
def mg_tp (σ : ab_SG) (t : Nat → Int) : Prop := ∀ j : Nat, (j : Int) < σ 93 3 → σ 94 j = t j ∧ 0 ≤ t j ∧ t j ≤ 255
def sp_m_go : fw_SP := fun as σ K => ∃ t : Nat → Int, as = [(2, 93, 0)] ∧ (0 ≤ σ 93 5 ∧ σ 93 5 ≤ σ 93 3 ∧ σ 93 3 ≤ 940 ∧ 0 ≤ σ 93 4 ∧ σ 93 4 ≤ 940) ∧ mg_tp σ t ∧
  ∀ σ' : ab_SG, ab_okM go_M σ σ' → mg_is σ' (tk_tok t (σ 93 3).toNat (σ 93 4) (σ 93 5).toNat) → K none σ'
abbrev fk_m_isLetter : List fw_CR := []
abbrev st_m_isLetter : fw_K → fw_KR → fw_K := fw_st vwCl nn_sh nn_kd fw_kv fw_wc (nn_KI20.map (fun x => x.1)) (nn_KJ20.map (fun x => x.1)) (nn_PF20.map (fun x => x.1)) (nn_PS20.map (fun x => x.1)) fk_m_isLetter 0 nn_dt213 1 1
theorem fs_m_isLetter_0 {G : fw_K} {R : fw_KR} (hG : fw_cls st_m_isLetter R G) {x : Int} {σ : ab_SG} (h : (fw_c x < fw_c 97 → (0 ≤ fw_c 0 ∧ fw_c 0 ≤ 1) ∧ R (some (0, 0, 0)) σ) ∧ (fw_c 97 ≤ fw_c x → (fw_c 122 < fw_c x → (0 ≤ fw_c 0 ∧ fw_c 0 ≤ 1) ∧ R (some (0, 0, 0)) σ) ∧ (fw_c x ≤ fw_c 122 → (0 ≤ fw_c 1 ∧ fw_c 1 ≤ 1) ∧ R (some (0, 0, 1)) σ))) : G 0 [some (0, 0, x)] [] σ := fw_on hG [] 200 h
abbrev fk_m_isDigit : List fw_CR := []
abbrev st_m_isDigit : fw_K → fw_KR → fw_K := fw_st vwCl nn_sh nn_kd fw_kv fw_wc (nn_KI20.map (fun x => x.1)) (nn_KJ20.map (fun x => x.1)) (nn_PF20.map (fun x => x.1)) (nn_PS20.map (fun x => x.1)) fk_m_isDigit 0 nn_dt214 1 1
theorem fs_m_isDigit_0 {G : fw_K} {R : fw_KR} (hG : fw_cls st_m_isDigit R G) {x : Int} {σ : ab_SG} (h : (fw_c x < fw_c 48 → (0 ≤ fw_c 0 ∧ fw_c 0 ≤ 1) ∧ R (some (0, 0, 0)) σ) ∧ (fw_c 48 ≤ fw_c x → (fw_c 57 < fw_c x → (0 ≤ fw_c 0 ∧ fw_c 0 ≤ 1) ∧ R (some (0, 0, 0)) σ) ∧ (fw_c x ≤ fw_c 57 → (0 ≤ fw_c 1 ∧ fw_c 1 ≤ 1) ∧ R (some (0, 0, 1)) σ))) : G 0 [some (0, 0, x)] [] σ := fw_on hG [] 200 h
abbrev fk_m_tapeAt : List fw_CR := []
abbrev st_m_tapeAt : fw_K → fw_KR → fw_K := fw_st vwCl nn_sh nn_kd fw_kv fw_wc (nn_KI20.map (fun x => x.1)) (nn_KJ20.map (fun x => x.1)) (nn_PF20.map (fun x => x.1)) (nn_PS20.map (fun x => x.1)) fk_m_tapeAt 0 nn_dt215 2 0
theorem fs_m_tapeAt_0 {G : fw_K} {R : fw_KR} (hG : fw_cls st_m_tapeAt R G) {x : Int} {σ : ab_SG} (h : (fw_c (σ 93 3) ≤ fw_c x → R (some (0, 0, 0)) σ) ∧ (fw_c x < fw_c (σ 93 3) → (0 ≤ fw_c x ∧ fw_c x < ((940 : Nat) : Int)) ∧ (R (some (0, 0, σ 94 (fw_c x).toNat)) σ))) : G 0 [some (2, 93, 0), some (0, 0, x)] [] σ := fw_on hG [] 200 h
abbrev fk_m_go : List fw_CR := [(129, 1, false, 0, 0, sp_m_isLetter), (133, 1, false, 0, 0, sp_m_isDigit), (146, 1, true, 11, 0, sp_m_tapeAt)]
abbrev st_m_go : fw_K → fw_KR → fw_K := fw_st vwCl nn_sh nn_kd fw_kv fw_wc (nn_KI20.map (fun x => x.1)) (nn_KJ20.map (fun x => x.1)) (nn_PF20.map (fun x => x.1)) (nn_PS20.map (fun x => x.1)) fk_m_go 1 nn_dt212 5 4
theorem fs_m_go_0 {G : fw_K} {R : fw_KR} (hG : fw_cls st_m_go R G) {σ : ab_SG} (h : (fw_c (σ 93 3) ≤ fw_c (σ 93 5) → G 52 [some (2, 93, 0), none, none, none, none] [] σ) ∧ (fw_c (σ 93 5) < fw_c (σ 93 3) → (0 ≤ fw_c (σ 93 5) ∧ fw_c (σ 93 5) < ((940 : Nat) : Int)) ∧ ((fw_c (σ 94 (fw_c (σ 93 5)).toNat) = fw_c 32 → G 39 [some (2, 93, 0), none, none, none, none] [] σ) ∧ (fw_c (σ 94 (fw_c (σ 93 5)).toNat) ≠ fw_c 32 → (0 ≤ fw_c (σ 93 5) ∧ fw_c (σ 93 5) < ((940 : Nat) : Int)) ∧ ((fw_c (σ 94 (fw_c (σ 93 5)).toNat) ≠ fw_c 10 → G 52 [some (2, 93, 0), none, none, none, none] [] σ) ∧ (fw_c (σ 94 (fw_c (σ 93 5)).toNat) = fw_c 10 → G 39 [some (2, 93, 0), none, none, none, none] [] σ)))))) : G 0 [some (2, 93, 0), none, none, none, none] [] σ := fw_on hG [0, 39, 52, 96, 127, 134, 174, 179, 198, 202, 215, 223, 226, 237, 240, 243, 263, 271, 272, 307, 337, 374] 200 h
theorem fs_m_go_52 {G : fw_K} {R : fw_KR} (hG : fw_cls st_m_go R G) {σ : ab_SG} (h : (fw_c (σ 93 3) ≤ fw_c (σ 93 4) → G 96 [some (2, 93, 0), none, none, none, none] [] (ab_ups σ 93 6 (fw_c (σ 93 5)))) ∧ (fw_c (σ 93 4) < fw_c (σ 93 3) → (fw_c (fw_c (σ 93 5)) < fw_c (σ 93 4) → G 96 [some (2, 93, 0), none, none, none, none] [] (ab_ups σ 93 6 (fw_c (σ 93 5)))) ∧ (fw_c (σ 93 4) ≤ fw_c (fw_c (σ 93 5)) → R none (ab_ups (ab_ups (ab_ups σ 93 6 (fw_c (σ 93 5))) 93 6 (fw_c (σ 93 4))) 93 7 (fw_c 1))))) : G 52 [some (2, 93, 0), none, none, none, none] [] σ := fw_on hG [0, 39, 52, 96, 127, 134, 174, 179, 198, 202, 215, 223, 226, 237, 240, 243, 263, 271, 272, 307, 337, 374] 200 h
theorem fs_m_go_39 {G : fw_K} {R : fw_KR} (hG : fw_cls st_m_go R G) {σ : ab_SG} (h : G 0 [some (2, 93, 0), none, none, none, none] [] (ab_ups σ 93 5 (fw_c ((σ 93 5) + 1)))) : G 39 [some (2, 93, 0), none, none, none, none] [] σ := fw_on hG [0, 39, 52, 96, 127, 134, 174, 179, 198, 202, 215, 223, 226, 237, 240, 243, 263, 271, 272, 307, 337, 374] 200 h
theorem fs_m_go_96 {G : fw_K} {R : fw_KR} (hG : fw_cls st_m_go R G) {σ : ab_SG} (h : (fw_c (σ 93 5) < fw_c (σ 93 3) → (0 ≤ fw_c (σ 93 5) ∧ fw_c (σ 93 5) < ((940 : Nat) : Int)) ∧ (sp_m_isLetter [(0, 0, σ 94 (fw_c (σ 93 5)).toNat)] σ (fun rv σ2 => G 127 [some (2, 93, 0), some (0, 0, σ 94 (fw_c (σ 93 5)).toNat), none, none, none] (rv.toList ++ []) σ2))) ∧ (fw_c (σ 93 3) ≤ fw_c (σ 93 5) → R none (ab_ups σ 93 7 (fw_c 0)))) : G 96 [some (2, 93, 0), none, none, none, none] [] σ := fw_on hG [0, 39, 52, 96, 127, 134, 174, 179, 198, 202, 215, 223, 226, 237, 240, 243, 263, 271, 272, 307, 337, 374] 200 h
theorem fs_m_go_127 {G : fw_K} {R : fw_KR} (hG : fw_cls st_m_go R G) {a1 b0 : Int} {σ : ab_SG} (h : (fw_c b0 ≠ 0 → G 198 [some (2, 93, 0), some (0, 0, a1), none, none, none] [] σ) ∧ (fw_c b0 = 0 → sp_m_isDigit [(0, 0, a1)] σ (fun rv σ2 => G 134 [some (2, 93, 0), some (0, 0, a1), none, none, none] (rv.toList ++ []) σ2))) : G 127 [some (2, 93, 0), some (0, 0, a1), none, none, none] [(0, 0, b0)] σ := fw_on hG [0, 39, 52, 96, 127, 134, 174, 179, 198, 202, 215, 223, 226, 237, 240, 243, 263, 271, 272, 307, 337, 374] 200 h
theorem fs_m_go_198 {G : fw_K} {R : fw_KR} (hG : fw_cls st_m_go R G) {a1 : Int} {σ : ab_SG} (h : sp_m_isLetter [(0, 0, a1)] σ (fun rv σ2 => G 202 [some (2, 93, 0), some (0, 0, a1), none, none, none] (rv.toList ++ []) σ2)) : G 198 [some (2, 93, 0), some (0, 0, a1), none, none, none] [] σ := fw_on hG [0, 39, 52, 96, 127, 134, 174, 179, 198, 202, 215, 223, 226, 237, 240, 243, 263, 271, 272, 307, 337, 374] 200 h
theorem fs_m_go_134 {G : fw_K} {R : fw_KR} (hG : fw_cls st_m_go R G) {a1 b0 : Int} {σ : ab_SG} (h : (fw_c b0 ≠ 0 → G 198 [some (2, 93, 0), some (0, 0, a1), none, none, none] [] σ) ∧ (fw_c b0 = 0 → (fw_c a1 = fw_c 59 → G 174 [some (2, 93, 0), some (0, 0, a1), none, none, none] [(2, 93, 0)] σ) ∧ (fw_c a1 ≠ fw_c 59 → (fw_c a1 = fw_c 60 → G 174 [some (2, 93, 0), some (0, 0, a1), none, none, none] [(2, 93, 0)] σ) ∧ (fw_c a1 ≠ fw_c 60 → (fw_c a1 = fw_c 61 → G 174 [some (2, 93, 0), some (0, 0, a1), none, none, none] [(2, 93, 0)] σ) ∧ (fw_c a1 ≠ fw_c 61 → (fw_c a1 = fw_c 62 → G 174 [some (2, 93, 0), some (0, 0, a1), none, none, none] [(2, 93, 0)] σ) ∧ (fw_c a1 ≠ fw_c 62 → (fw_c a1 = fw_c 40 → G 174 [some (2, 93, 0), some (0, 0, a1), none, none, none] [(2, 93, 0)] σ) ∧ (fw_c a1 ≠ fw_c 40 → (fw_c a1 ≠ fw_c 41 → G 179 [some (2, 93, 0), some (0, 0, a1), none, none, none] [(0, 0, 1), (2, 93, 0)] σ) ∧ (fw_c a1 = fw_c 41 → G 174 [some (2, 93, 0), some (0, 0, a1), none, none, none] [(2, 93, 0)] σ)))))))) : G 134 [some (2, 93, 0), some (0, 0, a1), none, none, none] [(0, 0, b0)] σ := fw_on hG [0, 39, 52, 96, 127, 134, 174, 179, 198, 202, 215, 223, 226, 237, 240, 243, 263, 271, 272, 307, 337, 374] 200 h
theorem fs_m_go_202 {G : fw_K} {R : fw_KR} (hG : fw_cls st_m_go R G) {a1 b0 : Int} {σ : ab_SG} (h : G 215 [some (2, 93, 0), some (0, 0, a1), some (0, 0, b0), some (0, 0, 1), none] [] (ab_ups (ab_ups σ 93 12 (fw_d ((0 : Nat) : Int))) 93 8 (fw_c 0))) : G 202 [some (2, 93, 0), some (0, 0, a1), none, none, none] [(0, 0, b0)] σ := fw_on hG [0, 39, 52, 96, 127, 134, 174, 179, 198, 202, 215, 223, 226, 237, 240, 243, 263, 271, 272, 307, 337, 374] 200 h
theorem fs_m_go_174 {G : fw_K} {R : fw_KR} (hG : fw_cls st_m_go R G) {a1 : Int} {σ : ab_SG} (h : G 179 [some (2, 93, 0), some (0, 0, a1), none, none, none] [(0, 0, 4), (2, 93, 0)] σ) : G 174 [some (2, 93, 0), some (0, 0, a1), none, none, none] [(2, 93, 0)] σ := fw_on hG [0, 39, 52, 96, 127, 134, 174, 179, 198, 202, 215, 223, 226, 237, 240, 243, 263, 271, 272, 307, 337, 374] 200 h
theorem fs_m_go_179 {G : fw_K} {R : fw_KR} (hG : fw_cls st_m_go R G) {a1 b0 : Int} {σ : ab_SG} (h : R none (ab_ups (ab_ups (ab_ups σ 93 7 (fw_c b0)) 93 9 (fw_c a1)) 93 5 (fw_c ((σ 93 5) + 1)))) : G 179 [some (2, 93, 0), some (0, 0, a1), none, none, none] [(0, 0, b0), (2, 93, 0)] σ := fw_on hG [0, 39, 52, 96, 127, 134, 174, 179, 198, 202, 215, 223, 226, 237, 240, 243, 263, 271, 272, 307, 337, 374] 200 h
theorem fs_m_go_215 {G : fw_K} {R : fw_KR} (hG : fw_cls st_m_go R G) {a1 a2 a3 : Int} {σ : ab_SG} (h : sp_m_tapeAt [(2, 93, 0), (0, 0, σ 93 5)] σ (fun rv σ2 => G 223 [some (2, 93, 0), some (0, 0, a1), some (0, 0, a2), some (0, 0, a3), none] (rv.toList ++ []) σ2)) : G 215 [some (2, 93, 0), some (0, 0, a1), some (0, 0, a2), some (0, 0, a3), none] [] σ := fw_on hG [0, 39, 52, 96, 127, 134, 174, 179, 198, 202, 215, 223, 226, 237, 240, 243, 263, 271, 272, 307, 337, 374] 200 h
theorem fs_m_go_223 {G : fw_K} {R : fw_KR} (hG : fw_cls st_m_go R G) {a1 a2 a3 b0 : Int} {σ : ab_SG} (h : sp_m_isLetter [(0, 0, b0)] σ (fun rv σ2 => G 226 [some (2, 93, 0), some (0, 0, a1), some (0, 0, a2), some (0, 0, a3), none] (rv.toList ++ []) σ2)) : G 223 [some (2, 93, 0), some (0, 0, a1), some (0, 0, a2), some (0, 0, a3), none] [(0, 0, b0)] σ := fw_on hG [0, 39, 52, 96, 127, 134, 174, 179, 198, 202, 215, 223, 226, 237, 240, 243, 263, 271, 272, 307, 337, 374] 200 h
theorem fs_m_go_226 {G : fw_K} {R : fw_KR} (hG : fw_cls st_m_go R G) {a1 a2 a3 b0 : Int} {σ : ab_SG} (h : (fw_c b0 ≠ 0 → G 243 [some (2, 93, 0), some (0, 0, a1), some (0, 0, a2), some (0, 0, a3), none] [] σ) ∧ (fw_c b0 = 0 → sp_m_tapeAt [(2, 93, 0), (0, 0, σ 93 5)] σ (fun rv σ2 => G 237 [some (2, 93, 0), some (0, 0, a1), some (0, 0, a2), some (0, 0, a3), none] (rv.toList ++ []) σ2))) : G 226 [some (2, 93, 0), some (0, 0, a1), some (0, 0, a2), some (0, 0, a3), none] [(0, 0, b0)] σ := fw_on hG [0, 39, 52, 96, 127, 134, 174, 179, 198, 202, 215, 223, 226, 237, 240, 243, 263, 271, 272, 307, 337, 374] 200 h
theorem fs_m_go_243 {G : fw_K} {R : fw_KR} (hG : fw_cls st_m_go R G) {a1 a2 a3 : Int} {σ : ab_SG} (h : (0 ≤ fw_c (σ 93 5) ∧ fw_c (σ 93 5) < ((940 : Nat) : Int)) ∧ ((fw_c a3 = 0 → G 271 [some (2, 93, 0), some (0, 0, a1), some (0, 0, a2), some (0, 0, a3), some (0, 0, σ 94 (fw_c (σ 93 5)).toNat)] [] σ) ∧ (fw_c a3 ≠ 0 → sp_m_isLetter [(0, 0, σ 94 (fw_c (σ 93 5)).toNat)] σ (fun rv σ2 => G 263 [some (2, 93, 0), some (0, 0, a1), some (0, 0, a2), some (0, 0, a3), some (0, 0, σ 94 (fw_c (σ 93 5)).toNat)] (rv.toList ++ []) σ2)))) : G 243 [some (2, 93, 0), some (0, 0, a1), some (0, 0, a2), some (0, 0, a3), none] [] σ := fw_on hG [0, 39, 52, 96, 127, 134, 174, 179, 198, 202, 215, 223, 226, 237, 240, 243, 263, 271, 272, 307, 337, 374] 200 h
theorem fs_m_go_237 {G : fw_K} {R : fw_KR} (hG : fw_cls st_m_go R G) {a1 a2 a3 b0 : Int} {σ : ab_SG} (h : sp_m_isDigit [(0, 0, b0)] σ (fun rv σ2 => G 240 [some (2, 93, 0), some (0, 0, a1), some (0, 0, a2), some (0, 0, a3), none] (rv.toList ++ []) σ2)) : G 237 [some (2, 93, 0), some (0, 0, a1), some (0, 0, a2), some (0, 0, a3), none] [(0, 0, b0)] σ := fw_on hG [0, 39, 52, 96, 127, 134, 174, 179, 198, 202, 215, 223, 226, 237, 240, 243, 263, 271, 272, 307, 337, 374] 200 h
theorem fs_m_go_271 {G : fw_K} {R : fw_KR} (hG : fw_cls st_m_go R G) {a1 a2 a3 a4 : Int} {σ : ab_SG} (h : G 272 [some (2, 93, 0), some (0, 0, a1), some (0, 0, a2), some (0, 0, a3), some (0, 0, a4)] [(0, 0, 0)] σ) : G 271 [some (2, 93, 0), some (0, 0, a1), some (0, 0, a2), some (0, 0, a3), some (0, 0, a4)] [] σ := fw_on hG [0, 39, 52, 96, 127, 134, 174, 179, 198, 202, 215, 223, 226, 237, 240, 243, 263, 271, 272, 307, 337, 374] 200 h
theorem fs_m_go_263 {G : fw_K} {R : fw_KR} (hG : fw_cls st_m_go R G) {a1 a2 a3 a4 b0 : Int} {σ : ab_SG} (h : (fw_c b0 ≠ fw_c a2 → G 271 [some (2, 93, 0), some (0, 0, a1), some (0, 0, a2), some (0, 0, a3), some (0, 0, a4)] [] σ) ∧ (fw_c b0 = fw_c a2 → G 272 [some (2, 93, 0), some (0, 0, a1), some (0, 0, a2), some (0, 0, a3), some (0, 0, a4)] [(0, 0, 1)] σ)) : G 263 [some (2, 93, 0), some (0, 0, a1), some (0, 0, a2), some (0, 0, a3), some (0, 0, a4)] [(0, 0, b0)] σ := fw_on hG [0, 39, 52, 96, 127, 134, 174, 179, 198, 202, 215, 223, 226, 237, 240, 243, 263, 271, 272, 307, 337, 374] 200 h
theorem fs_m_go_240 {G : fw_K} {R : fw_KR} (hG : fw_cls st_m_go R G) {a1 a2 a3 b0 : Int} {σ : ab_SG} (h : (fw_c b0 = 0 → (fw_c a3 = 0 → R none (ab_ups σ 93 7 (fw_c 1))) ∧ (fw_c a3 ≠ 0 → (fw_c a2 = 0 → G 374 [some (2, 93, 0), some (0, 0, a1), some (0, 0, a2), some (0, 0, a3), none] [(0, 0, 2), (0, 0, (σ 93 5) - (σ 93 6)), (2, 93, 0)] σ) ∧ (fw_c a2 ≠ 0 → G 374 [some (2, 93, 0), some (0, 0, a1), some (0, 0, a2), some (0, 0, a3), none] [(0, 0, 7), (0, 0, (σ 93 5) - (σ 93 6)), (2, 93, 0)] σ))) ∧ (fw_c b0 ≠ 0 → G 243 [some (2, 93, 0), some (0, 0, a1), some (0, 0, a2), some (0, 0, a3), none] [] σ)) : G 240 [some (2, 93, 0), some (0, 0, a1), some (0, 0, a2), some (0, 0, a3), none] [(0, 0, b0)] σ := fw_on hG [0, 39, 52, 96, 127, 134, 174, 179, 198, 202, 215, 223, 226, 237, 240, 243, 263, 271, 272, 307, 337, 374] 200 h
theorem fs_m_go_272 {G : fw_K} {R : fw_KR} (hG : fw_cls st_m_go R G) {a1 a2 a3 a4 b0 : Int} {σ : ab_SG} (h : (fw_c 7 ≤ fw_c ((σ 93 5) - (σ 93 6)) → G 307 [some (2, 93, 0), some (0, 0, a1), some (0, 0, a2), some (0, 0, b0), some (0, 0, a4)] [] σ) ∧ (fw_c ((σ 93 5) - (σ 93 6)) < fw_c 7 → G 307 [some (2, 93, 0), some (0, 0, a1), some (0, 0, a2), some (0, 0, b0), some (0, 0, a4)] [] (ab_ups σ 93 12 (fw_d (((27 * (σ 93 12)) + (fw_c a4)) - 96))))) : G 272 [some (2, 93, 0), some (0, 0, a1), some (0, 0, a2), some (0, 0, a3), some (0, 0, a4)] [(0, 0, b0)] σ := fw_on hG [0, 39, 52, 96, 127, 134, 174, 179, 198, 202, 215, 223, 226, 237, 240, 243, 263, 271, 272, 307, 337, 374] 200 h
theorem fs_m_go_374 {G : fw_K} {R : fw_KR} (hG : fw_cls st_m_go R G) {a1 a2 a3 b0 b1 : Int} {σ : ab_SG} (h : (fw_c b1 ≤ fw_c b0 → (fw_c a2 = 0 → R none (ab_ups σ 93 7 (fw_c 3))) ∧ (fw_c a2 ≠ 0 → R none (ab_ups σ 93 7 (fw_c 2)))) ∧ (fw_c b0 < fw_c b1 → R none (ab_ups σ 93 7 (fw_c 1)))) : G 374 [some (2, 93, 0), some (0, 0, a1), some (0, 0, a2), some (0, 0, a3), none] [(0, 0, b0), (0, 0, b1), (2, 93, 0)] σ := fw_on hG [0, 39, 52, 96, 127, 134, 174, 179, 198, 202, 215, 223, 226, 237, 240, 243, 263, 271, 272, 307, 337, 374] 200 h
theorem fs_m_go_307 {G : fw_K} {R : fw_KR} (hG : fw_cls st_m_go R G) {a1 a2 a3 a4 : Int} {σ : ab_SG} (h : (fw_c 2 ≤ fw_c ((σ 93 5) - (σ 93 6)) → G 337 [some (2, 93, 0), some (0, 0, a1), some (0, 0, a2), some (0, 0, a3), some (0, 0, a4)] [] σ) ∧ (fw_c ((σ 93 5) - (σ 93 6)) < fw_c 2 → G 337 [some (2, 93, 0), some (0, 0, a1), some (0, 0, a2), some (0, 0, a3), some (0, 0, a4)] [] (ab_ups σ 93 8 (fw_c (((10 * (σ 93 8)) + a4) - 48))))) : G 307 [some (2, 93, 0), some (0, 0, a1), some (0, 0, a2), some (0, 0, a3), some (0, 0, a4)] [] σ := fw_on hG [0, 39, 52, 96, 127, 134, 174, 179, 198, 202, 215, 223, 226, 237, 240, 243, 263, 271, 272, 307, 337, 374] 200 h
theorem fs_m_go_337 {G : fw_K} {R : fw_KR} (hG : fw_cls st_m_go R G) {a1 a2 a3 a4 : Int} {σ : ab_SG} (h : G 215 [some (2, 93, 0), some (0, 0, a1), some (0, 0, a2), some (0, 0, a3), some (0, 0, a4)] [] (ab_ups σ 93 5 (fw_c ((σ 93 5) + 1)))) : G 337 [some (2, 93, 0), some (0, 0, a1), some (0, 0, a2), some (0, 0, a3), some (0, 0, a4)] [] σ := fw_on hG [0, 39, 52, 96, 127, 134, 174, 179, 198, 202, 215, 223, 226, 237, 240, 243, 263, 271, 272, 307, 337, 374] 200 h
theorem fs_m_go_215a {G : fw_K} {R : fw_KR} (hG : fw_cls st_m_go R G) {a1 a2 a3 a4 : Int} {σ : ab_SG} (h : sp_m_tapeAt [(2, 93, 0), (0, 0, σ 93 5)] σ (fun rv σ2 => G 223 [some (2, 93, 0), some (0, 0, a1), some (0, 0, a2), some (0, 0, a3), some (0, 0, a4)] (rv.toList ++ []) σ2)) : G 215 [some (2, 93, 0), some (0, 0, a1), some (0, 0, a2), some (0, 0, a3), some (0, 0, a4)] [] σ := fw_on hG [0, 39, 52, 96, 127, 134, 174, 179, 198, 202, 215, 223, 226, 237, 240, 243, 263, 271, 272, 307, 337, 374] 200 h
theorem fs_m_go_223a {G : fw_K} {R : fw_KR} (hG : fw_cls st_m_go R G) {a1 a2 a3 a4 b0 : Int} {σ : ab_SG} (h : sp_m_isLetter [(0, 0, b0)] σ (fun rv σ2 => G 226 [some (2, 93, 0), some (0, 0, a1), some (0, 0, a2), some (0, 0, a3), some (0, 0, a4)] (rv.toList ++ []) σ2)) : G 223 [some (2, 93, 0), some (0, 0, a1), some (0, 0, a2), some (0, 0, a3), some (0, 0, a4)] [(0, 0, b0)] σ := fw_on hG [0, 39, 52, 96, 127, 134, 174, 179, 198, 202, 215, 223, 226, 237, 240, 243, 263, 271, 272, 307, 337, 374] 200 h
theorem fs_m_go_226a {G : fw_K} {R : fw_KR} (hG : fw_cls st_m_go R G) {a1 a2 a3 a4 b0 : Int} {σ : ab_SG} (h : (fw_c b0 ≠ 0 → G 243 [some (2, 93, 0), some (0, 0, a1), some (0, 0, a2), some (0, 0, a3), some (0, 0, a4)] [] σ) ∧ (fw_c b0 = 0 → sp_m_tapeAt [(2, 93, 0), (0, 0, σ 93 5)] σ (fun rv σ2 => G 237 [some (2, 93, 0), some (0, 0, a1), some (0, 0, a2), some (0, 0, a3), some (0, 0, a4)] (rv.toList ++ []) σ2))) : G 226 [some (2, 93, 0), some (0, 0, a1), some (0, 0, a2), some (0, 0, a3), some (0, 0, a4)] [(0, 0, b0)] σ := fw_on hG [0, 39, 52, 96, 127, 134, 174, 179, 198, 202, 215, 223, 226, 237, 240, 243, 263, 271, 272, 307, 337, 374] 200 h
theorem fs_m_go_243a {G : fw_K} {R : fw_KR} (hG : fw_cls st_m_go R G) {a1 a2 a3 a4 : Int} {σ : ab_SG} (h : (0 ≤ fw_c (σ 93 5) ∧ fw_c (σ 93 5) < ((940 : Nat) : Int)) ∧ ((fw_c a3 = 0 → G 271 [some (2, 93, 0), some (0, 0, a1), some (0, 0, a2), some (0, 0, a3), some (0, 0, σ 94 (fw_c (σ 93 5)).toNat)] [] σ) ∧ (fw_c a3 ≠ 0 → sp_m_isLetter [(0, 0, σ 94 (fw_c (σ 93 5)).toNat)] σ (fun rv σ2 => G 263 [some (2, 93, 0), some (0, 0, a1), some (0, 0, a2), some (0, 0, a3), some (0, 0, σ 94 (fw_c (σ 93 5)).toNat)] (rv.toList ++ []) σ2)))) : G 243 [some (2, 93, 0), some (0, 0, a1), some (0, 0, a2), some (0, 0, a3), some (0, 0, a4)] [] σ := fw_on hG [0, 39, 52, 96, 127, 134, 174, 179, 198, 202, 215, 223, 226, 237, 240, 243, 263, 271, 272, 307, 337, 374] 200 h
theorem fs_m_go_237a {G : fw_K} {R : fw_KR} (hG : fw_cls st_m_go R G) {a1 a2 a3 a4 b0 : Int} {σ : ab_SG} (h : sp_m_isDigit [(0, 0, b0)] σ (fun rv σ2 => G 240 [some (2, 93, 0), some (0, 0, a1), some (0, 0, a2), some (0, 0, a3), some (0, 0, a4)] (rv.toList ++ []) σ2)) : G 237 [some (2, 93, 0), some (0, 0, a1), some (0, 0, a2), some (0, 0, a3), some (0, 0, a4)] [(0, 0, b0)] σ := fw_on hG [0, 39, 52, 96, 127, 134, 174, 179, 198, 202, 215, 223, 226, 237, 240, 243, 263, 271, 272, 307, 337, 374] 200 h
theorem fs_m_go_240a {G : fw_K} {R : fw_KR} (hG : fw_cls st_m_go R G) {a1 a2 a3 a4 b0 : Int} {σ : ab_SG} (h : (fw_c b0 = 0 → (fw_c a3 = 0 → R none (ab_ups σ 93 7 (fw_c 1))) ∧ (fw_c a3 ≠ 0 → (fw_c a2 = 0 → G 374 [some (2, 93, 0), some (0, 0, a1), some (0, 0, a2), some (0, 0, a3), some (0, 0, a4)] [(0, 0, 2), (0, 0, (σ 93 5) - (σ 93 6)), (2, 93, 0)] σ) ∧ (fw_c a2 ≠ 0 → G 374 [some (2, 93, 0), some (0, 0, a1), some (0, 0, a2), some (0, 0, a3), some (0, 0, a4)] [(0, 0, 7), (0, 0, (σ 93 5) - (σ 93 6)), (2, 93, 0)] σ))) ∧ (fw_c b0 ≠ 0 → G 243 [some (2, 93, 0), some (0, 0, a1), some (0, 0, a2), some (0, 0, a3), some (0, 0, a4)] [] σ)) : G 240 [some (2, 93, 0), some (0, 0, a1), some (0, 0, a2), some (0, 0, a3), some (0, 0, a4)] [(0, 0, b0)] σ := fw_on hG [0, 39, 52, 96, 127, 134, 174, 179, 198, 202, 215, 223, 226, 237, 240, 243, 263, 271, 272, 307, 337, 374] 200 h
theorem fs_m_go_374a {G : fw_K} {R : fw_KR} (hG : fw_cls st_m_go R G) {a1 a2 a3 a4 b0 b1 : Int} {σ : ab_SG} (h : (fw_c b1 ≤ fw_c b0 → (fw_c a2 = 0 → R none (ab_ups σ 93 7 (fw_c 3))) ∧ (fw_c a2 ≠ 0 → R none (ab_ups σ 93 7 (fw_c 2)))) ∧ (fw_c b0 < fw_c b1 → R none (ab_ups σ 93 7 (fw_c 1)))) : G 374 [some (2, 93, 0), some (0, 0, a1), some (0, 0, a2), some (0, 0, a3), some (0, 0, a4)] [(0, 0, b0), (0, 0, b1), (2, 93, 0)] σ := fw_on hG [0, 39, 52, 96, 127, 134, 174, 179, 198, 202, 215, 223, 226, 237, 240, 243, 263, 271, 272, 307, 337, 374] 200 h
theorem mg_skip {G : fw_K} {K : fw_KR} (hG : fw_cls st_m_go K G) {σ0 : ab_SG} {t : Nat → Int} {n : Nat} (hn : n ≤ 940) (h3 : σ0 93 3 = (n : Int)) (ht : ∀ j : Nat, j < n → σ0 94 j = t j ∧ 0 ≤ t j ∧ t j ≤ 255) : ∀ (f p : Nat) (σ : ab_SG), p + f = n → ab_okM go_M σ0 σ → σ 93 5 = (p : Int) →
    (∀ σ' : ab_SG, ab_okM go_M σ0 σ' → σ' 93 5 = ((tk_sk t f p : Nat) : Int) → G 52 [some (2, 93, 0), none, none, none, none] [] σ') → G 0 [some (2, 93, 0), none, none, none, none] [] σ := by
  intro f
  have e32 : fw_c 32 = 32 := fw_c_id (by decide) (by decide)
  have e10 : fw_c 10 = 10 := fw_c_id (by decide) (by decide)
  have en : fw_c (n : Int) = n := fw_c_id (by omega) (by omega)
  induction f with
  | zero =>
    intro p σ hp hM h5 k
    have ep : fw_c (p : Int) = p := fw_c_id (by omega) (by omega)
    refine fs_m_go_0 hG ?_
    rw [h5, (hM 93 3 (by decide)).trans h3, en, ep]
    exact ⟨fun _ => k σ hM h5, fun q => absurd q (by omega)⟩
  | succ f ih =>
    intro p σ hp hM h5 k
    have ep : fw_c (p : Int) = p := fw_c_id (by omega) (by omega)
    have hb := ht p (by omega)
    have e94 : σ 94 p = t p := by rw [fw_okM_c hM (a := 94) (by decide)]; exact hb.1
    have et : fw_c (t p) = t p := fw_c_id (by omega) (by omega)
    replace k : ∀ σ' : ab_SG, ab_okM go_M σ0 σ' → σ' 93 5 = ((if t p = 32 ∨ t p = 10 then tk_sk t f (p + 1) else p : Nat) : Int) → G 52 [some (2, 93, 0), none, none, none, none] [] σ' := k
    have at39 : (t p = 32 ∨ t p = 10) → G 39 [some (2, 93, 0), none, none, none, none] [] σ := fun q => by
      rw [if_pos q] at k
      refine fs_m_go_39 hG ?_
      have e1 : fw_c (σ 93 5 + 1) = ((p + 1 : Nat) : Int) := by rw [h5, fw_c_id (by omega) (by omega)]; rfl
      rw [e1]
      exact ih (p + 1) _ (by omega) (fw_okM_ups hM (by decide)) ab_ups_eq k
    refine fs_m_go_0 hG ?_
    rw [h5, (hM 93 3 (by decide)).trans h3, en, ep, Int.toNat_natCast, e94, et, e32, e10]
    refine ⟨fun q => absurd q (by omega), fun _ => ⟨⟨Int.natCast_nonneg p, by show (p : Int) < 940; omega⟩, fun q => at39 (Or.inl q), fun q => ⟨⟨Int.natCast_nonneg p, by show (p : Int) < 940; omega⟩, fun q2 => ?_, fun q2 => at39 (Or.inr q2)⟩⟩⟩
    rw [if_neg (fun z => z.elim q q2)] at k
    exact k σ hM h5
/-- a run: from the loop's head on -/
theorem mg_run {G : fw_K} {K : fw_KR} (hG : fw_cls st_m_go K G) {σ0 : ab_SG} {t : Nat → Int} {n q : Nat} (hn : n ≤ 940) (h3 : σ0 93 3 = (n : Int)) (ht : ∀ j : Nat, j < n → σ0 94 j = t j ∧ 0 ≤ t j ∧ t j ≤ 255) {L : Prop} [Decidable L] {a1 : Int} :
    ∀ (f p : Nat) (σ : ab_SG) (s : tk_S) (g : Prop) [Decidable g] (L4 : Option Int), p + f = n → q ≤ p → ab_okM go_M σ0 σ → σ 93 5 = (p : Int) → σ 93 6 = (q : Int) → rf_is L q p s g (σ 93 12) (σ 93 8) → (p = q → p < n ∧ (L → 97 ≤ t p ∧ t p ≤ 122) ∧ (¬ L → 48 ≤ t p ∧ t p ≤ 57)) →
    (∀ (σ' : ab_SG), ab_okM go_M σ0 σ' → mg_is σ' (tk_rt q (tk_run t f p s)) → K none σ') →
    G 215 [some (2, 93, 0), some (0, 0, a1), some (0, 0, fw_bo L), some (0, 0, fw_bo g), L4.map fun b => (0, 0, b)] [] σ := by
  intro f
  have c7 : fw_c 7 = 7 := fw_c_id (by decide) (by decide)
  have c2 : fw_c 2 = 2 := fw_c_id (by decide) (by decide)
  have c3 : fw_c 3 = 3 := fw_c_id (by decide) (by decide)
  -- the pieces, whatever lies in the last local
  have s215 : ∀ (L4 : Option Int) (a2 a3 : Int) (σ : ab_SG), sp_m_tapeAt [(2, 93, 0), (0, 0, σ 93 5)] σ (fun rv σ2 => G 223 [some (2, 93, 0), some (0, 0, a1), some (0, 0, a2), some (0, 0, a3), L4.map fun b => (0, 0, b)] (rv.toList ++ []) σ2) → G 215 [some (2, 93, 0), some (0, 0, a1), some (0, 0, a2), some (0, 0, a3), L4.map fun b => (0, 0, b)] [] σ := fun L4 a2 a3 σ h => by
    cases L4 with
    | none => exact fs_m_go_215 hG h
    | some b => exact fs_m_go_215a hG h
  have s223 : ∀ (L4 : Option Int) (a2 a3 b0 : Int) (σ : ab_SG), sp_m_isLetter [(0, 0, b0)] σ (fun rv σ2 => G 226 [some (2, 93, 0), some (0, 0, a1), some (0, 0, a2), some (0, 0, a3), L4.map fun b => (0, 0, b)] (rv.toList ++ []) σ2) → G 223 [some (2, 93, 0), some (0, 0, a1), some (0, 0, a2), some (0, 0, a3), L4.map fun b => (0, 0, b)] [(0, 0, b0)] σ := fun L4 a2 a3 b0 σ h => by
    cases L4 with
    | none => exact fs_m_go_223 hG h
    | some b => exact fs_m_go_223a hG h
  have s226 : ∀ (L4 : Option Int) (a2 a3 b0 : Int) (σ : ab_SG), (fw_c b0 ≠ 0 → G 243 [some (2, 93, 0), some (0, 0, a1), some (0, 0, a2), some (0, 0, a3), L4.map fun b => (0, 0, b)] [] σ) ∧ (fw_c b0 = 0 → sp_m_tapeAt [(2, 93, 0), (0, 0, σ 93 5)] σ (fun rv σ2 => G 237 [some (2, 93, 0), some (0, 0, a1), some (0, 0, a2), some (0, 0, a3), L4.map fun b => (0, 0, b)] (rv.toList ++ []) σ2)) → G 226 [some (2, 93, 0), some (0, 0, a1), some (0, 0, a2), some (0, 0, a3), L4.map fun b => (0, 0, b)] [(0, 0, b0)] σ := fun L4 a2 a3 b0 σ h => by
    cases L4 with
    | none => exact fs_m_go_226 hG h
    | some b => exact fs_m_go_226a hG h
  have s237 : ∀ (L4 : Option Int) (a2 a3 b0 : Int) (σ : ab_SG), sp_m_isDigit [(0, 0, b0)] σ (fun rv σ2 => G 240 [some (2, 93, 0), some (0, 0, a1), some (0, 0, a2), some (0, 0, a3), L4.map fun b => (0, 0, b)] (rv.toList ++ []) σ2) → G 237 [some (2, 93, 0), some (0, 0, a1), some (0, 0, a2), some (0, 0, a3), L4.map fun b => (0, 0, b)] [(0, 0, b0)] σ := fun L4 a2 a3 b0 σ h => by
    cases L4 with
    | none => exact fs_m_go_237 hG h
    | some b => exact fs_m_go_237a hG h
  have s374 : ∀ (L4 : Option Int) (a2 a3 b0 b1 : Int) (σ : ab_SG), (fw_c b1 ≤ fw_c b0 → (fw_c a2 = 0 → K none (ab_ups σ 93 7 (fw_c 3))) ∧ (fw_c a2 ≠ 0 → K none (ab_ups σ 93 7 (fw_c 2)))) ∧ (fw_c b0 < fw_c b1 → K none (ab_ups σ 93 7 (fw_c 1))) → G 374 [some (2, 93, 0), some (0, 0, a1), some (0, 0, a2), some (0, 0, a3), L4.map fun b => (0, 0, b)] [(0, 0, b0), (0, 0, b1), (2, 93, 0)] σ := fun L4 a2 a3 b0 b1 σ h => by
    cases L4 with
    | none => exact fs_m_go_374 hG h
    | some b => exact fs_m_go_374a hG h
  have s240 : ∀ (L4 : Option Int) (a2 a3 b0 : Int) (σ : ab_SG), (fw_c b0 = 0 → (fw_c a3 = 0 → K none (ab_ups σ 93 7 (fw_c 1))) ∧ (fw_c a3 ≠ 0 → (fw_c a2 = 0 → G 374 [some (2, 93, 0), some (0, 0, a1), some (0, 0, a2), some (0, 0, a3), L4.map fun b => (0, 0, b)] [(0, 0, 2), (0, 0, σ 93 5 - σ 93 6), (2, 93, 0)] σ) ∧ (fw_c a2 ≠ 0 → G 374 [some (2, 93, 0), some (0, 0, a1), some (0, 0, a2), some (0, 0, a3), L4.map fun b => (0, 0, b)] [(0, 0, 7), (0, 0, σ 93 5 - σ 93 6), (2, 93, 0)] σ))) ∧ (fw_c b0 ≠ 0 → G 243 [some (2, 93, 0), some (0, 0, a1), some (0, 0, a2), some (0, 0, a3), L4.map fun b => (0, 0, b)] [] σ) → G 240 [some (2, 93, 0), some (0, 0, a1), some (0, 0, a2), some (0, 0, a3), L4.map fun b => (0, 0, b)] [(0, 0, b0)] σ := fun L4 a2 a3 b0 σ h => by
    cases L4 with
    | none => exact fs_m_go_240 hG h
    | some b => exact fs_m_go_240a hG h
  have s243 : ∀ (L4 : Option Int) (a2 a3 : Int) (σ : ab_SG), (0 ≤ fw_c (σ 93 5) ∧ fw_c (σ 93 5) < ((940 : Nat) : Int)) ∧ ((fw_c a3 = 0 → G 271 [some (2, 93, 0), some (0, 0, a1), some (0, 0, a2), some (0, 0, a3), some (0, 0, σ 94 (fw_c (σ 93 5)).toNat)] [] σ) ∧ (fw_c a3 ≠ 0 → sp_m_isLetter [(0, 0, σ 94 (fw_c (σ 93 5)).toNat)] σ (fun rv σ2 => G 263 [some (2, 93, 0), some (0, 0, a1), some (0, 0, a2), some (0, 0, a3), some (0, 0, σ 94 (fw_c (σ 93 5)).toNat)] (rv.toList ++ []) σ2))) → G 243 [some (2, 93, 0), some (0, 0, a1), some (0, 0, a2), some (0, 0, a3), L4.map fun b => (0, 0, b)] [] σ := fun L4 a2 a3 σ h => by
    cases L4 with
    | none => exact fs_m_go_243 hG h
    | some b => exact fs_m_go_243a hG h
  -- the run's end
  have fin : ∀ (p : Nat) (σ : ab_SG) (s : tk_S) (g : Prop) [Decidable g] (L4 : Option Int), p ≤ n → q < p → ab_okM go_M σ0 σ → σ 93 5 = (p : Int) → σ 93 6 = (q : Int) → rf_is L q p s g (σ 93 12) (σ 93 8) → (∀ (σ' : ab_SG), ab_okM go_M σ0 σ' → mg_is σ' (tk_rt q (p, s)) → K none σ') →
      (fw_c (fw_bo g) = 0 → K none (ab_ups σ 93 7 (fw_c 1))) ∧ (fw_c (fw_bo g) ≠ 0 → (fw_c (fw_bo L) = 0 → G 374 [some (2, 93, 0), some (0, 0, a1), some (0, 0, fw_bo L), some (0, 0, fw_bo g), L4.map fun b => (0, 0, b)] [(0, 0, 2), (0, 0, σ 93 5 - σ 93 6), (2, 93, 0)] σ) ∧ (fw_c (fw_bo L) ≠ 0 → G 374 [some (2, 93, 0), some (0, 0, a1), some (0, 0, fw_bo L), some (0, 0, fw_bo g), L4.map fun b => (0, 0, b)] [(0, 0, 7), (0, 0, σ 93 5 - σ 93 6), (2, 93, 0)] σ)) := by
    intro p σ s g _ L4 hpn hqp hM h5 h6 I k
    obtain ⟨⟨i1, i2, i3⟩, hg, hf, hw, hnm⟩ := I
    have hf := hf hqp
    have wrong : ¬ (s.2.1 = 0 ∧ s.1 ≤ 7) → ¬ (s.1 = 0 ∧ s.2.1 ≤ 2) → K none (ab_ups σ 93 7 (fw_c 1)) := fun a b => by
      rw [fw_c1]
      refine k _ (fw_okM_ups hM (by decide)) ?_
      unfold tk_rt
      rw [if_neg a, if_neg b]
      refine ⟨(ab_ups_ne (by decide)).trans h6, (ab_ups_ne (by decide)).trans h5, fun z => absurd z (by show ¬ (1 : Int) = 0; decide), fun _ => ab_ups_eq, fun z => absurd z (by show ¬ (1 : Int) = 2; decide), fun z => absurd z (by show ¬ (1 : Int) = 3; decide), fun z => absurd z (by show ¬ ((1 : Int) = 59 ∨ (60 ≤ (1 : Int) ∧ (1 : Int) ≤ 62) ∨ (1 : Int) = 40 ∨ (1 : Int) = 41); decide)⟩
    have ed : fw_c (σ 93 5 - σ 93 6) = (p : Int) - q := by rw [h5, h6]; exact fw_c_id (by omega) (by omega)
    refine ⟨fun z => ?_, fun z => ⟨fun y => ?_, fun y => ?_⟩⟩
    · have z := fw_bo_eq z
      refine wrong (fun a => z (hg.mpr ?_)) (fun a => z (hg.mpr ?_))
      · by_cases l : L
        · exact Or.inl ⟨l, a.1⟩
        · have := hf.2 l; omega
      · by_cases l : L
        · have := hf.1 l; omega
        · exact Or.inr ⟨l, a.1⟩
    · have l := fw_bo_eq y
      have h0 : s.1 = 0 := by
        rcases hg.mp (fw_bo_ne z) with a | a
        · exact absurd a.1 l
        · exact a.2
      have h1 := hf.2 l
      refine s374 L4 _ _ 2 _ σ ?_
      rw [ed, c2, c3]
      refine ⟨fun d => ⟨fun _ => ?_, fun y2 => absurd y y2⟩, fun d => wrong (fun a => by omega) (fun a => by omega)⟩
      have hm := hnm h0
      refine k _ (fw_okM_ups hM (by decide)) ?_
      unfold tk_rt
      rw [if_neg (show ¬ (s.2.1 = 0 ∧ s.1 ≤ 7) from fun a => by omega), if_pos (show s.1 = 0 ∧ s.2.1 ≤ 2 from ⟨h0, by omega⟩)]
      have e8 : (ab_ups σ 93 7 3) 93 8 = σ 93 8 := ab_ups_ne (by decide)
      refine ⟨(ab_ups_ne (by decide)).trans h6, (ab_ups_ne (by decide)).trans h5, fun z => absurd z (by show ¬ (3 : Int) = 0; decide), fun z => absurd z (by show ¬ ((3 : Int) = 1 ∨ (3 : Int) = 46); decide), fun z => absurd z (by show ¬ (3 : Int) = 2; decide), fun _ => ⟨ab_ups_eq, ?_, ?_, ?_⟩, fun z => absurd z (by show ¬ ((3 : Int) = 59 ∨ (60 ≤ (3 : Int) ∧ (3 : Int) ≤ 62) ∨ (3 : Int) = 40 ∨ (3 : Int) = 41); decide)⟩
      · rw [e8]; show σ 93 8 = s.2.2.2; omega
      · show 0 ≤ s.2.2.2; omega
      · show s.2.2.2 ≤ 99; omega
    · have l := fw_bo_ne y
      have h0 : s.2.1 = 0 := by
        rcases hg.mp (fw_bo_ne z) with a | a
        · exact a.2
        · exact absurd l a.1
      have h1 := hf.1 l
      refine s374 L4 _ _ 7 _ σ ?_
      rw [ed, c7, c2]
      refine ⟨fun d => ⟨fun y2 => absurd y2 y, fun _ => ?_⟩, fun d => wrong (fun a => by omega) (fun a => by omega)⟩
      have hk := hw h0 (by omega)
      have hk7 := (rf_ok_le (m := 7) (by omega) hk.1).1
      refine k _ (fw_okM_ups hM (by decide)) ?_
      unfold tk_rt
      rw [if_pos (show s.2.1 = 0 ∧ s.1 ≤ 7 from ⟨h0, by omega⟩)]
      have e12 : (ab_ups σ 93 7 2) 93 12 = σ 93 12 := ab_ups_ne (by decide)
      refine ⟨(ab_ups_ne (by decide)).trans h6, (ab_ups_ne (by decide)).trans h5, fun z => absurd z (by show ¬ (2 : Int) = 0; decide), fun z => absurd z (by show ¬ ((2 : Int) = 1 ∨ (2 : Int) = 46); decide), fun _ => ⟨ab_ups_eq, hk7, e12.trans hk.2⟩, fun z => absurd z (by show ¬ (2 : Int) = 3; decide), fun z => absurd z (by show ¬ ((2 : Int) = 59 ∨ (60 ≤ (2 : Int) ∧ (2 : Int) ≤ 62) ∨ (2 : Int) = 40 ∨ (2 : Int) = 41); decide)⟩
  induction f with
  | zero =>
    intro p σ s g _ L4 hp hqp hM h5 h6 I h0 k
    have hlt : q < p := by
      rcases Nat.lt_or_ge q p with a | a
      · exact a
      · have := (h0 (by omega)).1; omega
    have n3 : σ 93 3 = (n : Int) := (hM 93 3 (by decide)).trans h3
    refine s215 L4 _ _ σ ⟨_, rfl, by omega, s223 L4 _ _ _ σ ⟨_, rfl, ?_⟩⟩
    rw [if_neg (show ¬ σ 93 5 < σ 93 3 by omega), fw_c0]
    refine s226 L4 _ _ _ σ ⟨fun z => absurd (fw_bo_ne z) (by decide), fun _ => ⟨_, rfl, by omega, s237 L4 _ _ _ σ ⟨_, rfl, ?_⟩⟩⟩
    rw [if_neg (show ¬ σ 93 5 < σ 93 3 by omega), fw_c0]
    exact s240 L4 _ _ _ σ ⟨fun _ => fin p σ s g L4 (by omega) hlt hM h5 h6 I k, fun z => absurd (fw_bo_ne z) (by decide)⟩
  | succ f ih =>
    intro p σ s g _ L4 hp hqp hM h5 h6 I h0 k
    have n3 : σ 93 3 = (n : Int) := (hM 93 3 (by decide)).trans h3
    have hb := ht p (by omega)
    have e94 : σ 94 p = t p := by rw [fw_okM_c hM (a := 94) (by decide)]; exact hb.1
    have et : fw_c (t p) = t p := fw_c_id (by omega) (by omega)
    have ep : fw_c (p : Int) = p := fw_c_id (by omega) (by omega)
    have e5 : (σ 93 5).toNat = p := by omega
    unfold tk_run at k
    -- behind the byte: good, word, number
    have nx : ∀ (g' : Prop) [Decidable g'] (s' : tk_S), (∀ w' n' : Int, ((p : Int) - q < 7 → w' = fw_d (27 * σ 93 12 + fw_c (t p) - 96)) → ((p : Int) - q < 2 → n' = fw_c (10 * σ 93 8 + t p - 48)) → rf_is L q (p + 1) s' g' w' n') → (∀ (σ' : ab_SG), ab_okM go_M σ0 σ' → mg_is σ' (tk_rt q (tk_run t f (p + 1) s')) → K none σ') →
        G 272 [some (2, 93, 0), some (0, 0, a1), some (0, 0, fw_bo L), some (0, 0, fw_bo g), some (0, 0, t p)] [(0, 0, fw_bo g')] σ := by
      intro g' _ s' I' k'
      have ed : fw_c (σ 93 5 - σ 93 6) = (p : Int) - q := by rw [h5, h6]; exact fw_c_id (by omega) (by omega)
      have at307 : ∀ σ1 : ab_SG, ab_okM go_M σ0 σ1 → σ1 93 5 = (p : Int) → σ1 93 6 = (q : Int) → σ1 93 8 = σ 93 8 → ((p : Int) - q < 7 → σ1 93 12 = fw_d (27 * σ 93 12 + fw_c (t p) - 96)) → G 307 [some (2, 93, 0), some (0, 0, a1), some (0, 0, fw_bo L), some (0, 0, fw_bo g'), some (0, 0, t p)] [] σ1 := by
        intro σ1 M1 q5 q6 q8 q12
        have ed1 : fw_c (σ1 93 5 - σ1 93 6) = (p : Int) - q := by rw [q5, q6]; exact fw_c_id (by omega) (by omega)
        have at337 : ∀ σ2 : ab_SG, ab_okM go_M σ0 σ2 → σ2 93 5 = (p : Int) → σ2 93 6 = (q : Int) → ((p : Int) - q < 2 → σ2 93 8 = fw_c (10 * σ 93 8 + t p - 48)) → ((p : Int) - q < 7 → σ2 93 12 = fw_d (27 * σ 93 12 + fw_c (t p) - 96)) → G 337 [some (2, 93, 0), some (0, 0, a1), some (0, 0, fw_bo L), some (0, 0, fw_bo g'), some (0, 0, t p)] [] σ2 := by
          intro σ2 M2 r5 r6 r8 r12
          refine fs_m_go_337 hG ?_
          have e1 : fw_c (σ2 93 5 + 1) = ((p + 1 : Nat) : Int) := by rw [r5, fw_c_id (by omega) (by omega)]; rfl
          rw [e1]
          refine ih (p + 1) _ s' g' (some (t p)) (by omega) (by omega) (fw_okM_ups M2 (by decide)) ab_ups_eq ((ab_ups_ne (by decide)).trans r6) ?_ (fun z => by omega) k'
          rw [ab_ups_ne (by decide), ab_ups_ne (by decide)]
          exact I' _ _ r12 r8
        refine fs_m_go_307 hG ?_
        rw [ed1, c2, q8]
        exact ⟨fun z => at337 σ1 M1 q5 q6 (fun y => by omega) q12, fun z => at337 _ (fw_okM_ups M1 (by decide)) ((ab_ups_ne (by decide)).trans q5) ((ab_ups_ne (by decide)).trans q6) (fun _ => ab_ups_eq) (fun y => (ab_ups_ne (by decide)).trans (q12 y))⟩
      refine fs_m_go_272 hG ?_
      rw [ed, c7]
      exact ⟨fun z => at307 σ hM h5 h6 rfl (fun y => by omega), fun z => at307 _ (fw_okM_ups hM (by decide)) ((ab_ups_ne (by decide)).trans h5) ((ab_ups_ne (by decide)).trans h6) (ab_ups_ne (by decide)) (fun _ => ab_ups_eq)⟩
    have at243 : (97 ≤ t p ∧ t p ≤ 122) ∨ (48 ≤ t p ∧ t p ≤ 57) → G 243 [some (2, 93, 0), some (0, 0, a1), some (0, 0, fw_bo L), some (0, 0, fw_bo g), L4.map fun b => (0, 0, b)] [] σ := by
      intro hal
      refine s243 L4 _ _ σ ?_
      rw [h5, ep, Int.toNat_natCast, e94]
      by_cases hl : 97 ≤ t p ∧ t p ≤ 122
      · rw [if_pos hl] at k
        have hL : p = q → L := fun z => by
          by_cases l : L
          · exact l
          · have := (h0 z).2.2 l; omega
        have I' := fun w' n' a (_ : (p : Int) - q < 2 → n' = fw_c (10 * σ 93 8 + t p - 48)) => rf_is_l (w' := w') (n' := n') I hl hL a
        refine ⟨⟨Int.natCast_nonneg p, by show (p : Int) < 940; omega⟩, fun z => ?_, fun z => ⟨_, rfl, ?_⟩⟩
        · have := nx (g ∧ L) _ I' k
          rw [fw_bo_f (show ¬ (g ∧ L) from fun y => fw_bo_eq z y.1)] at this
          exact fs_m_go_271 hG this
        · rw [et]
          refine fs_m_go_263 hG ?_
          rw [fw_bo_c, fw_bo_c]
          refine ⟨fun y => ?_, fun y => ?_⟩
          · have := nx (g ∧ L) _ I' k
            rw [fw_bo_f (show ¬ (g ∧ L) from fun v => y (fw_bo_iff.mpr ⟨fun _ => v.2, fun _ => hl⟩))] at this
            exact fs_m_go_271 hG this
          · have := nx (g ∧ L) _ I' k
            rw [fw_bo_t (show g ∧ L from ⟨fw_bo_ne z, (fw_bo_iff.mp y).mp hl⟩)] at this
            exact this
      · have hd : 48 ≤ t p ∧ t p ≤ 57 := hal.elim (fun z => absurd z hl) (fun z => z)
        rw [if_neg hl, if_pos hd] at k
        have hL : p = q → ¬ L := fun z l => by
          have := (h0 z).2.1 l; omega
        have I' := fun w' n' (_ : (p : Int) - q < 7 → w' = fw_d (27 * σ 93 12 + fw_c (t p) - 96)) a => rf_is_d (w' := w') (n' := n') I hd hL a
        refine ⟨⟨Int.natCast_nonneg p, by show (p : Int) < 940; omega⟩, fun z => ?_, fun z => ⟨_, rfl, ?_⟩⟩
        · have := nx (g ∧ ¬ L) _ I' k
          rw [fw_bo_f (show ¬ (g ∧ ¬ L) from fun y => fw_bo_eq z y.1)] at this
          exact fs_m_go_271 hG this
        · rw [et]
          refine fs_m_go_263 hG ?_
          rw [fw_bo_c, fw_bo_c]
          refine ⟨fun y => ?_, fun y => ?_⟩
          · have := nx (g ∧ ¬ L) _ I' k
            rw [fw_bo_f (show ¬ (g ∧ ¬ L) from fun v => y (fw_bo_iff.mpr ⟨fun m => absurd m hl, fun m => absurd m v.2⟩))] at this
            exact fs_m_go_271 hG this
          · have := nx (g ∧ ¬ L) _ I' k
            rw [fw_bo_t (show g ∧ ¬ L from ⟨fw_bo_ne z, fun m => hl ((fw_bo_iff.mp y).mpr m)⟩)] at this
            exact this
    refine s215 L4 _ _ σ ⟨_, rfl, by omega, s223 L4 _ _ _ σ ⟨_, rfl, ?_⟩⟩
    rw [if_pos (show σ 93 5 < σ 93 3 by omega), e5, e94, et]
    refine s226 L4 _ _ _ σ ⟨fun z => at243 (Or.inl (fw_bo_ne z)), fun z => ⟨_, rfl, by omega, s237 L4 _ _ _ σ ⟨_, rfl, ?_⟩⟩⟩
    rw [if_pos (show σ 93 5 < σ 93 3 by omega), e5, e94, et]
    refine s240 L4 _ _ _ σ ⟨fun z2 => ?_, fun z2 => at243 (Or.inr (fw_bo_ne z2))⟩
    have a1 := fw_bo_eq z
    have a2 := fw_bo_eq z2
    rw [if_neg a1, if_neg a2] at k
    have hlt : q < p := by
      rcases Nat.lt_or_ge q p with a | a
      · exact a
      · have h0 := h0 (by omega)
        by_cases l : L
        · exact absurd (h0.2.1 l) a1
        · exact absurd (h0.2.2 l) a2
    exact fin p σ s g L4 (by omega) hlt hM h5 h6 I k
section
variable {l : Launch} {cy : Nat → ClassId} {ad wr cr : Nat → Nat} {D : va_G}
theorem fm_m_isLetter (hinj : nn_inj ad) : fw_H l cy ad wr cr D 213 0 sp_m_isLetter := fw_mk hinj (⟨"NameNotesModel", "isLetter", "(I)Z"⟩, prog_14_method_16_code, 1, (Option.some Jvm.ClassFile.FieldType.boolean), 1, false, 1) rfl rfl nn_KI20_ok nn_KJ20_ok nn_PF20_ok nn_PS20_ok (by decide +kernel) rfl rfl (fun _ h => absurd h List.not_mem_nil) (fun as σ K h => by
  obtain ⟨x, rfl, h⟩ := h
  have ea : fw_c 97 = 97 := fw_c_id (by decide) (by decide)
  have ez : fw_c 122 = 122 := fw_c_id (by decide) (by decide)
  refine ⟨rfl, fun G hG => fs_m_isLetter_0 hG ?_⟩
  rw [ea, ez]
  refine ⟨fun q => ⟨fw_01, ?_⟩, fun q => ⟨fun q2 => ⟨fw_01, ?_⟩, fun q2 => ⟨fw_11, ?_⟩⟩⟩
  · rw [fw_bo_f (fun y => absurd q (by omega))] at h; exact h
  · rw [fw_bo_f (fun y => absurd q2 (by omega))] at h; exact h
  · rw [fw_bo_t ⟨q, q2⟩] at h; exact h)
theorem fm_m_isDigit (hinj : nn_inj ad) : fw_H l cy ad wr cr D 214 0 sp_m_isDigit := fw_mk hinj (⟨"NameNotesModel", "isDigit", "(I)Z"⟩, prog_14_method_15_code, 1, (Option.some Jvm.ClassFile.FieldType.boolean), 1, false, 1) rfl rfl nn_KI20_ok nn_KJ20_ok nn_PF20_ok nn_PS20_ok (by decide +kernel) rfl rfl (fun _ h => absurd h List.not_mem_nil) (fun as σ K h => by
  obtain ⟨x, rfl, h⟩ := h
  have ea : fw_c 48 = 48 := fw_c_id (by decide) (by decide)
  have ez : fw_c 57 = 57 := fw_c_id (by decide) (by decide)
  refine ⟨rfl, fun G hG => fs_m_isDigit_0 hG ?_⟩
  rw [ea, ez]
  refine ⟨fun q => ⟨fw_01, ?_⟩, fun q => ⟨fun q2 => ⟨fw_01, ?_⟩, fun q2 => ⟨fw_11, ?_⟩⟩⟩
  · rw [fw_bo_f (fun y => absurd q (by omega))] at h; exact h
  · rw [fw_bo_f (fun y => absurd q2 (by omega))] at h; exact h
  · rw [fw_bo_t ⟨q, q2⟩] at h; exact h)
theorem fm_m_tapeAt (hinj : nn_inj ad) : fw_H l cy ad wr cr D 215 0 sp_m_tapeAt := fw_mk hinj (⟨"NameNotesModel", "tapeAt", "(I)I"⟩, prog_14_method_14_code, 2, (Option.some Jvm.ClassFile.FieldType.int), 1, true, 0) rfl rfl nn_KI20_ok nn_KJ20_ok nn_PF20_ok nn_PS20_ok (by decide +kernel) rfl rfl (fun _ h => absurd h List.not_mem_nil) (fun as σ K h => by
  obtain ⟨x, rfl, hb, h⟩ := h
  have ex : fw_c x = x := fw_c_id (by omega) (by omega)
  have e3 : fw_c (σ 93 3) = σ 93 3 := fw_c_id (by omega) (by omega)
  refine ⟨rfl, fun G hG => fs_m_tapeAt_0 hG ?_⟩
  rw [ex, e3]
  refine ⟨fun q => ?_, fun q => ⟨⟨hb.1, by show x < 940; omega⟩, ?_⟩⟩
  · rw [if_neg (by omega)] at h; exact h
  · rw [if_pos q] at h; exact h)
theorem fm_m_go (hinj : nn_inj ad) : fw_H l cy ad wr cr D 212 1 sp_m_go := fw_mk hinj (⟨"NameNotesModel", "go", "()V"⟩, prog_14_method_17_code, 5, (Option.none : Option Jvm.ClassFile.FieldType), 0, true, 4) rfl rfl nn_KI20_ok nn_KJ20_ok nn_PF20_ok nn_PS20_ok (by decide +kernel) rfl rfl (List.forall_mem_cons.mpr ⟨fw_row nn_PM20_ok (x := 129) (k := 0) (mn := 213) (np := 1) (ob := false) (ci := 0) (⟨"NameNotesModel", "isLetter", "(I)Z"⟩, prog_14_method_16_code, 1, (Option.some Jvm.ClassFile.FieldType.boolean), 1, false, 1) rfl (by decide +kernel) rfl rfl (by decide) (fun q => by cases q) (fm_m_isLetter hinj), (List.forall_mem_cons.mpr ⟨fw_row nn_PM20_ok (x := 133) (k := 0) (mn := 214) (np := 1) (ob := false) (ci := 0) (⟨"NameNotesModel", "isDigit", "(I)Z"⟩, prog_14_method_15_code, 1, (Option.some Jvm.ClassFile.FieldType.boolean), 1, false, 1) rfl (by decide +kernel) rfl rfl (by decide) (fun q => by cases q) (fm_m_isDigit hinj), (List.forall_mem_cons.mpr ⟨fw_row nn_PM20_ok (x := 146) (k := 0) (mn := 215) (np := 1) (ob := true) (ci := 11) (⟨"NameNotesModel", "tapeAt", "(I)I"⟩, prog_14_method_14_code, 2, (Option.some Jvm.ClassFile.FieldType.int), 1, true, 0) rfl (by decide +kernel) rfl rfl (by decide) (fun _ => ⟨_, _, rfl⟩) (fm_m_tapeAt hinj), (fun _ h => absurd h List.not_mem_nil)⟩)⟩)⟩) (fun as σ K h => by
  obtain ⟨t, rfl, ⟨n1, n2, n3, n4, n5⟩, ht, h⟩ := h
  obtain ⟨n, en⟩ : ∃ n : Nat, σ 93 3 = (n : Int) := ⟨(σ 93 3).toNat, by omega⟩
  have ht' : ∀ j : Nat, j < n → σ 94 j = t j ∧ 0 ≤ t j ∧ t j ≤ 255 := fun j hj => ht j (by omega)
  have hn : (σ 93 3).toNat = n := by omega
  rw [hn] at h
  refine ⟨rfl, fun G hG => ?_⟩
  refine mg_skip hG (σ0 := σ) (t := t) (n := n) (by omega) en ht' (n - (σ 93 5).toNat) (σ 93 5).toNat σ (by omega) (fw_okM_refl _ _) (by omega) (fun σ1 hM h5 => ?_)
  have hq := tk_sk_le t (n - (σ 93 5).toNat) (σ 93 5).toNat
  unfold tk_tok at h
  generalize tk_sk t (n - (σ 93 5).toNat) (σ 93 5).toNat = q at h h5 hq
  have hqn : q ≤ n := by omega
  have e3 : σ1 93 3 = (n : Int) := (hM 93 3 (by decide)).trans en
  have e4 : σ1 93 4 = σ 93 4 := hM 93 4 (by decide)
  have c3 : fw_c (n : Int) = n := fw_c_id (by omega) (by omega)
  have c4 : fw_c (σ 93 4) = σ 93 4 := fw_c_id (by omega) (by omega)
  have c5 : fw_c (q : Int) = q := fw_c_id (by omega) (by omega)
  have at96 : ¬ (σ 93 4 < (n : Int) ∧ σ 93 4 ≤ (q : Int)) → G 96 [some (2, 93, 0), none, none, none, none] [] (ab_ups σ1 93 6 (q : Int)) := by
    intro hno
    unfold tk_at at h
    rw [if_neg hno] at h
    have M2 : ab_okM go_M σ (ab_ups σ1 93 6 (q : Int)) := fw_okM_ups hM (by decide)
    have p5 : ab_ups σ1 93 6 (q : Int) 93 5 = (q : Int) := (ab_ups_ne (by decide)).trans h5
    have p3 : ab_ups σ1 93 6 (q : Int) 93 3 = (n : Int) := (ab_ups_ne (by decide)).trans e3
    have p6 : ab_ups σ1 93 6 (q : Int) 93 6 = (q : Int) := ab_ups_eq
    generalize ab_ups σ1 93 6 (q : Int) = σ2 at M2 p5 p3 p6 ⊢
    refine fs_m_go_96 hG ?_
    rw [p5, p3, c3, c5, Int.toNat_natCast]
    refine ⟨fun qn => ?_, fun qn => ?_⟩
    · have hb := ht' q (by omega)
      have e94 : σ2 94 q = t q := by rw [fw_okM_c M2 (a := 94) (by decide)]; exact hb.1
      have et : fw_c (t q) = t q := fw_c_id (by omega) (by omega)
      rw [if_neg (show ¬ n ≤ q by omega)] at h
      rw [e94]
      refine ⟨⟨Int.natCast_nonneg q, by show (q : Int) < 940; omega⟩, _, rfl, ?_⟩
      rw [et]
      have at198 : (97 ≤ t q ∧ t q ≤ 122) ∨ (48 ≤ t q ∧ t q ≤ 57) → G 198 [some (2, 93, 0), some (0, 0, t q), none, none, none] [] σ2 := by
        intro hal
        rw [if_pos hal] at h
        refine fs_m_go_198 hG ⟨_, rfl, ?_⟩
        rw [et]
        refine fs_m_go_202 hG ?_
        have z : fw_d ((0 : Nat) : Int) = 0 := fw_d_id (by decide) (by decide)
        rw [z, fw_c0]
        have w12 : ab_ups (ab_ups σ2 93 12 0) 93 8 0 93 12 = 0 := (ab_ups_ne (by decide)).trans ab_ups_eq
        have w8 : ab_ups (ab_ups σ2 93 12 0) 93 8 0 93 8 = 0 := ab_ups_eq
        have I : rf_is (97 ≤ t q ∧ t q ≤ 122) q q (0, 0, 0, 0) True (ab_ups (ab_ups σ2 93 12 0) 93 8 0 93 12) (ab_ups (ab_ups σ2 93 12 0) 93 8 0 93 8) := by
          rw [w12, w8]; exact rf_is_0 _ q
        have := mg_run hG (σ0 := σ) (t := t) (n := n) (q := q) (by omega) en ht' (L := 97 ≤ t q ∧ t q ≤ 122) (a1 := t q) (n - q) q (ab_ups (ab_ups σ2 93 12 0) 93 8 0) (0, 0, 0, 0) True none (by omega) (Nat.le_refl _) (fw_okM_ups (fw_okM_ups M2 (by decide)) (by decide)) ((ab_ups_ne (by decide)).trans ((ab_ups_ne (by decide)).trans p5)) ((ab_ups_ne (by decide)).trans ((ab_ups_ne (by decide)).trans p6)) I (fun _ => ⟨by omega, fun y => y, fun y => hal.elim (fun v => absurd v y) (fun v => v)⟩) h
        rw [fw_bo_t trivial] at this
        exact this
      refine fs_m_go_127 hG ⟨fun z => at198 (Or.inl (fw_bo_ne z)), fun z => ⟨_, rfl, ?_⟩⟩
      have hnl := fw_bo_eq z
      rw [et]
      refine fs_m_go_134 hG ⟨fun z2 => at198 (Or.inr (fw_bo_ne z2)), fun z2 => ?_⟩
      have hnd := fw_bo_eq z2
      rw [if_neg (show ¬ ((97 ≤ t q ∧ t q ≤ 122) ∨ (48 ≤ t q ∧ t q ≤ 57)) from fun y => y.elim hnl hnd)] at h
      have at179 : ∀ v : Int, ((v = 4 ∧ (t q = 59 ∨ (60 ≤ t q ∧ t q ≤ 62) ∨ t q = 40 ∨ t q = 41)) ∨ (v = 1 ∧ ¬ (t q = 59 ∨ (60 ≤ t q ∧ t q ≤ 62) ∨ t q = 40 ∨ t q = 41))) → G 179 [some (2, 93, 0), some (0, 0, t q), none, none, none] [(0, 0, v), (2, 93, 0)] σ2 := by
        intro v hv
        refine fs_m_go_179 hG ?_
        have ev : fw_c v = v := fw_c_id (by omega) (by omega)
        have e1 : fw_c (σ2 93 5 + 1) = ((q + 1 : Nat) : Int) := by rw [p5, fw_c_id (by omega) (by omega)]; rfl
        rw [ev, et, e1]
        refine h _ (fw_okM_ups (fw_okM_ups (fw_okM_ups M2 (by decide)) (by decide)) (by decide)) ?_
        have r6 : ab_ups (ab_ups (ab_ups σ2 93 7 v) 93 9 (t q)) 93 5 ((q + 1 : Nat) : Int) 93 6 = (q : Int) := (ab_ups_ne (by decide)).trans ((ab_ups_ne (by decide)).trans ((ab_ups_ne (by decide)).trans p6))
        have r7 : ab_ups (ab_ups (ab_ups σ2 93 7 v) 93 9 (t q)) 93 5 ((q + 1 : Nat) : Int) 93 7 = v := (ab_ups_ne (by decide)).trans ((ab_ups_ne (by decide)).trans ab_ups_eq)
        have r9 : ab_ups (ab_ups (ab_ups σ2 93 7 v) 93 9 (t q)) 93 5 ((q + 1 : Nat) : Int) 93 9 = t q := (ab_ups_ne (by decide)).trans ab_ups_eq
        have r5 : ab_ups (ab_ups (ab_ups σ2 93 7 v) 93 9 (t q)) 93 5 ((q + 1 : Nat) : Int) 93 5 = ((q + 1 : Nat) : Int) := ab_ups_eq
        by_cases hs : t q = 59 ∨ (60 ≤ t q ∧ t q ≤ 62) ∨ t q = 40 ∨ t q = 41
        · have v4 : v = 4 := by omega
          rw [if_pos (show t q = 59 ∨ (60 ≤ t q ∧ t q ≤ 62) ∨ t q = 40 ∨ t q = 41 ∨ t q = 46 by omega)]
          exact ⟨r6, r5, fun y => absurd y (by show ¬ t q = 0; omega), fun y => absurd y (by show ¬ (t q = 1 ∨ t q = 46); omega), fun y => absurd y (by show ¬ t q = 2; omega), fun y => absurd y (by show ¬ t q = 3; omega), fun _ => ⟨r7.trans v4, r9⟩⟩
        · have v1 : v = 1 := by omega
          by_cases h46 : t q = 46
          · rw [if_pos (show t q = 59 ∨ (60 ≤ t q ∧ t q ≤ 62) ∨ t q = 40 ∨ t q = 41 ∨ t q = 46 by omega)]
            exact ⟨r6, r5, fun y => absurd y (by show ¬ t q = 0; omega), fun _ => r7.trans v1, fun y => absurd y (by show ¬ t q = 2; omega), fun y => absurd y (by show ¬ t q = 3; omega), fun y => absurd y hs⟩
          · rw [if_neg (show ¬ (t q = 59 ∨ (60 ≤ t q ∧ t q ≤ 62) ∨ t q = 40 ∨ t q = 41 ∨ t q = 46) by omega)]
            exact ⟨r6, r5, fun y => absurd y (by show ¬ (1 : Int) = 0; decide), fun _ => r7.trans v1, fun y => absurd y (by show ¬ (1 : Int) = 2; decide), fun y => absurd y (by show ¬ (1 : Int) = 3; decide), fun y => absurd y (by show ¬ ((1 : Int) = 59 ∨ (60 ≤ (1 : Int) ∧ (1 : Int) ≤ 62) ∨ (1 : Int) = 40 ∨ (1 : Int) = 41); decide)⟩
      have at174 : (t q = 59 ∨ (60 ≤ t q ∧ t q ≤ 62) ∨ t q = 40 ∨ t q = 41) → G 174 [some (2, 93, 0), some (0, 0, t q), none, none, none] [(2, 93, 0)] σ2 := fun y => fs_m_go_174 hG (at179 4 (Or.inl ⟨rfl, y⟩))
      have d1 : fw_c 59 = 59 := fw_c_id (by decide) (by decide)
      have d2 : fw_c 60 = 60 := fw_c_id (by decide) (by decide)
      have d3 : fw_c 61 = 61 := fw_c_id (by decide) (by decide)
      have d4 : fw_c 62 = 62 := fw_c_id (by decide) (by decide)
      have d5 : fw_c 40 = 40 := fw_c_id (by decide) (by decide)
      have d6 : fw_c 41 = 41 := fw_c_id (by decide) (by decide)
      rw [et, d1, d2, d3, d4, d5, d6]
      exact ⟨fun a => at174 (by omega), fun a => ⟨fun b => at174 (by omega), fun b => ⟨fun c => at174 (by omega), fun c => ⟨fun d => at174 (by omega), fun d => ⟨fun e => at174 (by omega), fun e => ⟨fun f => at179 1 (Or.inr ⟨rfl, by omega⟩), fun f => at174 (by omega)⟩⟩⟩⟩⟩⟩
    · rw [if_pos (show n ≤ q by omega)] at h
      rw [fw_c0]
      exact h _ (fw_okM_ups M2 (by decide)) ⟨(ab_ups_ne (by decide)).trans p6, (ab_ups_ne (by decide)).trans p5, fun _ => ab_ups_eq, fun y => absurd y (by show ¬ ((0 : Int) = 1 ∨ (0 : Int) = 46); decide), fun y => absurd y (by show ¬ (0 : Int) = 2; decide), fun y => absurd y (by show ¬ (0 : Int) = 3; decide), fun y => absurd y (by show ¬ ((0 : Int) = 59 ∨ (60 ≤ (0 : Int) ∧ (0 : Int) ≤ 62) ∨ (0 : Int) = 40 ∨ (0 : Int) = 41); decide)⟩
  refine fs_m_go_52 hG ?_
  rw [h5, e3, e4, c3, c4, c5, c5]
  refine ⟨fun a => at96 (by omega), fun a => ⟨fun b => at96 (by omega), fun b => ?_⟩⟩
  unfold tk_at at h
  rw [if_pos ⟨a, b⟩] at h
  rw [fw_c1]
  exact h _ (fw_okM_ups (fw_okM_ups (fw_okM_ups hM (by decide)) (by decide)) (by decide)) ⟨(ab_ups_ne (by decide)).trans ab_ups_eq, (ab_ups_ne (by decide)).trans ((ab_ups_ne (by decide)).trans ((ab_ups_ne (by decide)).trans h5)), fun y => absurd y (by show ¬ (1 : Int) = 0; decide), fun _ => ab_ups_eq, fun y => absurd y (by show ¬ (1 : Int) = 2; decide), fun y => absurd y (by show ¬ (1 : Int) = 3; decide), fun y => absurd y (by show ¬ ((1 : Int) = 59 ∨ (60 ≤ (1 : Int) ∧ (1 : Int) ≤ 62) ∨ (1 : Int) = 40 ∨ (1 : Int) = 41); decide)⟩)
end
end
section
/-! the reference's words, signs, numbers -/
def spv (a b c d e f : Int) : Int :=
  let v1 := 27 * (a - 96) + b - 96
  let v2 := if 0 < c then 27 * v1 + c - 96 else v1
  let v3 := if 0 < d then 27 * v2 + d - 96 else v2
  let v4 := if 0 < e then 27 * v3 + e - 96 else v3
  if 0 < f then 27 * v4 + f - 96 else v4
def sp_m_spelt : fw_SP := fun as σ K => ∃ a b c d e f : Int, as = [(0, 0, a), (0, 0, b), (0, 0, c), (0, 0, d), (0, 0, e), (0, 0, f)] ∧ ((0 ≤ a ∧ a ≤ 127) ∧ (0 ≤ b ∧ b ≤ 127) ∧ (0 ≤ c ∧ c ≤ 127) ∧ (0 ≤ d ∧ d ≤ 127) ∧ (0 ≤ e ∧ e ≤ 127) ∧ (0 ≤ f ∧ f ≤ 127)) ∧ K (some (1, 0, spv a b c d e f)) σ
def sp_m_wordOf : fw_SP := fun as σ K => ∃ x : Nat, as = [(0, 0, (x : Int))] ∧ x ≤ 16 ∧ K (some (1, 0, rf_w 7 (fw_wc x))) σ
def rf_okb : Nat → Int → Bool
  | 0, w => decide (w = 0)
  | n + 1, w => decide (w = 0) || (decide (1 ≤ w % 32) && (decide (w % 32 ≤ 26) && rf_okb n (w / 32)))
theorem rf_okb_ok : ∀ (n : Nat) (w : Int), rf_okb n w = true → rf_ok n w := by
  intro n
  induction n with
  | zero => intro w h; exact (of_decide_eq_true (show decide (w = 0) = true from h) : w = 0)
  | succ n ih =>
    intro w h
    replace h : (decide (w = 0) || (decide (1 ≤ w % 32) && (decide (w % 32 ≤ 26) && rf_okb n (w / 32)))) = true := h
    rw [Bool.or_eq_true, Bool.and_eq_true, Bool.and_eq_true] at h
    rcases h with h | ⟨h1, h2, h3⟩
    · exact Or.inl (of_decide_eq_true h)
    · exact Or.inr ⟨of_decide_eq_true h1, of_decide_eq_true h2, ih _ h3⟩
theorem wc_ok : ∀ k : Nat, k < 17 → rf_ok 7 (fw_wc k) := fun k hk => rf_okb_ok 7 _ ((by decide +kernel : ∀ k : Nat, k < 17 → rf_okb 7 (fw_wc k) = true) k hk)
theorem wc_ne : ∀ i : Nat, i < 17 → ∀ j : Nat, j < 17 → fw_wc i = fw_wc j → i = j := by decide +kernel
theorem kw_of_iff (w : Int) : ∀ n : Nat, n ≤ 17 → ∀ k : Nat, k < n → (kw_of n w (-1) = (k : Int) ↔ fw_wc k = w) := by
  intro n
  induction n with
  | zero => intro _ k hk; exact absurd hk (Nat.not_lt_zero k)
  | succ n ih =>
    intro hn k hk
    unfold kw_of
    by_cases h : fw_wc n = w
    · rw [if_pos h]
      constructor
      · intro z
        have : k = n := by omega
        rw [this]; exact h
      · intro z
        have := wc_ne k (by omega) n (by omega) (z.trans h.symm)
        rw [this]
    · rw [if_neg h]
      by_cases e : k = n
      · subst e
        have := kw_of_in k w (-1)
        exact ⟨fun z => by omega, fun z => absurd z h⟩
      · exact ih (by omega) k (by omega)
theorem tw_iff {e : tk_E} {p k : Nat} (hk : k < 17) : tw e p = (k : Int) ↔ ((tk e p).1 = 2 ∧ fw_wc k = pr_wd e p) := by
  unfold tw
  by_cases h : (tk e p).1 = 2
  · rw [if_pos h]
    exact (kw_of_iff _ 17 (Nat.le_refl _) k hk).trans ⟨fun z => ⟨h, z⟩, fun z => z.2⟩
  · rw [if_neg h]
    exact ⟨fun z => by omega, fun z => absurd z.1 h⟩
theorem tw_neg {e : tk_E} {p : Nat} : ((tk e p).1 = 2 ∧ tw e p < 0) ↔ ((tk e p).1 = 2 ∧ ∀ k : Nat, k < 17 → fw_wc k ≠ pr_wd e p) := by
  constructor
  · rintro ⟨h, h1⟩
    refine ⟨h, fun k hk z => ?_⟩
    have := (tw_iff hk).mpr ⟨h, z⟩
    omega
  · rintro ⟨h, h1⟩
    refine ⟨h, ?_⟩
    have e1 : tw e p = kw_of 17 (tk e p).2.2.2.1 (-1) := by unfold tw; rw [if_pos h]
    rcases kw_of_in 17 (tk e p).2.2.2.1 (-1) with g | g
    · rw [e1, g]; decide
    · exfalso
      have hk : (kw_of 17 (tk e p).2.2.2.1 (-1)).toNat < 17 := by omega
      have := (tw_iff (e := e) (p := p) hk).mp (by rw [e1]; omega)
      exact h1 _ hk this.2
def tk_kd (k : Int) : Prop := k = 0 ∨ k = 1 ∨ k = 2 ∨ k = 3 ∨ (k = 59 ∨ (60 ≤ k ∧ k ≤ 62) ∨ k = 40 ∨ k = 41 ∨ k = 46)
theorem tk_kind (e : tk_E) (p : Nat) : tk_kd (tk e p).1 := by
  show tk_kd (tk_at e.1 e.2.1 e.2.2 (tk_sk e.1 (e.2.1 - p) p)).1
  generalize tk_sk e.1 (e.2.1 - p) p = q
  unfold tk_at
  split
  · exact Or.inr (Or.inl rfl)
  · split
    · exact Or.inl rfl
    · split
      · unfold tk_rt
        split
        · exact Or.inr (Or.inr (Or.inl rfl))
        · split
          · exact Or.inr (Or.inr (Or.inr (Or.inl rfl)))
          · exact Or.inr (Or.inl rfl)
      · show tk_kd (if e.1 q = 59 ∨ (60 ≤ e.1 q ∧ e.1 q ≤ 62) ∨ e.1 q = 40 ∨ e.1 q = 41 ∨ e.1 q = 46 then e.1 q else 1)
        unfold tk_kd
        split <;> omega
theorem mg_kind {σ : ab_SG} {e : tk_E} {p : Nat} (h : mg_is σ (tk e p)) : (σ 93 7 = 2 ↔ (tk e p).1 = 2) ∧ (σ 93 7 = 3 ↔ (tk e p).1 = 3) ∧ (σ 93 7 = 1 ↔ (tk e p).1 = 1 ∨ (tk e p).1 = 46) ∧ (σ 93 7 = 0 ↔ (tk e p).1 = 0) ∧ (0 ≤ σ 93 7 ∧ σ 93 7 ≤ 4) := by
  obtain ⟨-, -, h0, h1, h2, h3, h4⟩ := h
  have hk := tk_kind e p
  unfold tk_kd at hk
  rcases hk with q | q | q | q | q
  · have := h0 q; omega
  · have := h1 (Or.inl q); omega
  · have := (h2 q).1; omega
  · have := (h3 q).1; omega
  · by_cases y : (tk e p).1 = 46
    · have := h1 (Or.inr y); omega
    · have := (h4 (by omega)).1; omega
def sp_m_isWord : fw_SP := fun as σ K => ∃ (x : Nat) (e : tk_E) (p : Nat), as = [(2, 93, 0), (0, 0, (x : Int))] ∧ x ≤ 16 ∧ mg_is σ (tk e p) ∧ K (some (0, 0, fw_bo (tw e p = (x : Int)))) σ
def sp_m_isName : fw_SP := fun as σ K => ∃ (e : tk_E) (p : Nat), as = [(2, 93, 0)] ∧ mg_is σ (tk e p) ∧ K (some (0, 0, fw_bo ((tk e p).1 = 2 ∧ tw e p < 0))) σ
def sp_m_isSign : fw_SP := fun as σ K => ∃ (x : Int) (e : tk_E) (p : Nat), as = [(2, 93, 0), (0, 0, x)] ∧ (x = 59 ∨ (60 ≤ x ∧ x ≤ 62) ∨ x = 40 ∨ x = 41) ∧ mg_is σ (tk e p) ∧ K (some (0, 0, fw_bo ((tk e p).1 = x))) σ
def sp_m_bad : fw_SP := fun as σ K => ∃ x : Int, as = [(2, 93, 0), (0, 0, x)] ∧ (1 ≤ x ∧ x ≤ 4) ∧ (0 ≤ σ 93 7 ∧ σ 93 7 ≤ 4) ∧ ∀ σ' : ab_SG, ab_okM [(93, 10), (93, 11)] σ σ' → σ' 93 10 = (if σ 93 7 = 1 then 1 else x) → σ' 93 11 = fw_c (σ 93 6) → K (some (0, 0, 0)) σ'
def sp_m_isIn : fw_SP := fun as σ K => ∃ x y z : Int, as = [(0, 0, x), (0, 0, y), (0, 0, z)] ∧ K (some (0, 0, fw_bo (fw_c y ≤ fw_c x ∧ fw_c x ≤ fw_c z))) σ
def md_M : ab_ML := (93, 10) :: (93, 11) :: (93, 13) :: (93, 25) :: (93, 26) :: (96, 1000000) :: (100, 1000000) :: (103, 1000000) :: go_M
def md_no (σ : ab_SG) (f : Int) (K : fw_KR) : Prop := ∀ σ' : ab_SG, ab_okM md_M σ σ' → σ' 93 10 = f → K (some (0, 0, 0)) σ'
def sp_m_isNumber : fw_SP := fun as σ K => ∃ (a b : Int) (e : tk_E) (p : Nat), as = [(2, 93, 0), (0, 0, a), (0, 0, b)] ∧ (0 ≤ a ∧ a ≤ 24 ∧ 0 ≤ b ∧ b ≤ 24) ∧ mg_is σ (tk e p) ∧ (pr_nm e p a b ≠ 0 → md_no σ (pr_nm e p a b) K) ∧
  (pr_nm e p a b = 0 → a ≤ (tk e p).2.2.2.2 → (tk e p).2.2.2.2 ≤ b → K (some (0, 0, 1)) (ab_ups σ 93 13 (tk e p).2.2.2.2))
abbrev fk_m_spelt : List fw_CR := []
abbrev st_m_spelt : fw_K → fw_KR → fw_K := fw_st vwCl nn_sh nn_kd fw_kv fw_wc (nn_KI20.map (fun x => x.1)) (nn_KJ20.map (fun x => x.1)) (nn_PF20.map (fun x => x.1)) (nn_PS20.map (fun x => x.1)) fk_m_spelt 0 nn_dt219 8 2
theorem fs_m_spelt_0 {G : fw_K} {R : fw_KR} (hG : fw_cls st_m_spelt R G) {a b c d e f : Int} {σ : ab_SG} (h : (fw_c c ≤ 0 → G 38 [some (0, 0, a), some (0, 0, b), some (0, 0, c), some (0, 0, d), some (0, 0, e), some (0, 0, f), some (1, 0, ((27 * ((fw_c a) - 96)) + (fw_c b)) - 96), none] [] σ) ∧ (0 < fw_c c → G 38 [some (0, 0, a), some (0, 0, b), some (0, 0, c), some (0, 0, d), some (0, 0, e), some (0, 0, f), some (1, 0, ((27 * (((27 * ((fw_c a) - 96)) + (fw_c b)) - 96)) + (fw_c c)) - 96), none] [] σ)) : G 0 [some (0, 0, a), some (0, 0, b), some (0, 0, c), some (0, 0, d), some (0, 0, e), some (0, 0, f), none, none] [] σ := fw_on hG [38, 57, 78] 200 h
theorem fs_m_spelt_38 {G : fw_K} {R : fw_KR} (hG : fw_cls st_m_spelt R G) {a0 a1 a2 a3 a4 a5 a6 : Int} {σ : ab_SG} (h : (fw_c a3 ≤ 0 → G 57 [some (0, 0, a0), some (0, 0, a1), some (0, 0, a2), some (0, 0, a3), some (0, 0, a4), some (0, 0, a5), some (1, 0, a6), none] [] σ) ∧ (0 < fw_c a3 → G 57 [some (0, 0, a0), some (0, 0, a1), some (0, 0, a2), some (0, 0, a3), some (0, 0, a4), some (0, 0, a5), some (1, 0, ((27 * a6) + (fw_c a3)) - 96), none] [] σ)) : G 38 [some (0, 0, a0), some (0, 0, a1), some (0, 0, a2), some (0, 0, a3), some (0, 0, a4), some (0, 0, a5), some (1, 0, a6), none] [] σ := fw_on hG [38, 57, 78] 200 h
theorem fs_m_spelt_57 {G : fw_K} {R : fw_KR} (hG : fw_cls st_m_spelt R G) {a0 a1 a2 a3 a4 a5 a6 : Int} {σ : ab_SG} (h : (fw_c a4 ≤ 0 → G 78 [some (0, 0, a0), some (0, 0, a1), some (0, 0, a2), some (0, 0, a3), some (0, 0, a4), some (0, 0, a5), some (1, 0, a6), none] [] σ) ∧ (0 < fw_c a4 → G 78 [some (0, 0, a0), some (0, 0, a1), some (0, 0, a2), some (0, 0, a3), some (0, 0, a4), some (0, 0, a5), some (1, 0, ((27 * a6) + (fw_c a4)) - 96), none] [] σ)) : G 57 [some (0, 0, a0), some (0, 0, a1), some (0, 0, a2), some (0, 0, a3), some (0, 0, a4), some (0, 0, a5), some (1, 0, a6), none] [] σ := fw_on hG [38, 57, 78] 200 h
theorem fs_m_spelt_78 {G : fw_K} {R : fw_KR} (hG : fw_cls st_m_spelt R G) {a0 a1 a2 a3 a4 a5 a6 : Int} {σ : ab_SG} (h : (fw_c a5 ≤ 0 → R (some (1, 0, a6)) σ) ∧ (0 < fw_c a5 → R (some (1, 0, ((27 * a6) + (fw_c a5)) - 96)) σ)) : G 78 [some (0, 0, a0), some (0, 0, a1), some (0, 0, a2), some (0, 0, a3), some (0, 0, a4), some (0, 0, a5), some (1, 0, a6), none] [] σ := fw_on hG [38, 57, 78] 200 h
abbrev fk_m_wordOf : List fw_CR := [(154, 6, false, 0, 0, sp_m_spelt)]
abbrev st_m_wordOf : fw_K → fw_KR → fw_K := fw_st vwCl nn_sh nn_kd fw_kv fw_wc (nn_KI20.map (fun x => x.1)) (nn_KJ20.map (fun x => x.1)) (nn_PF20.map (fun x => x.1)) (nn_PS20.map (fun x => x.1)) fk_m_wordOf 1 nn_dt218 1 2
theorem fs_m_wordOf_0 {G : fw_K} {R : fw_KR} (hG : fw_cls st_m_wordOf R G) {x : Int} {σ : ab_SG} (h : ((fw_c x < 0 → (sp_m_spelt [(0, 0, 98), (0, 0, 101), (0, 0, 97), (0, 0, 116), (0, 0, 115), (0, 0, 0)] σ (fun rv σ2 => G 315 [some (0, 0, x)] (rv.toList ++ []) σ2))) ∧ (15 < fw_c x → (sp_m_spelt [(0, 0, 98), (0, 0, 101), (0, 0, 97), (0, 0, 116), (0, 0, 115), (0, 0, 0)] σ (fun rv σ2 => G 315 [some (0, 0, x)] (rv.toList ++ []) σ2)))) ∧ (fw_c x = 0 → (sp_m_spelt [(0, 0, 116), (0, 0, 117), (0, 0, 110), (0, 0, 101), (0, 0, 0), (0, 0, 0)] σ (fun rv σ2 => G 93 [some (0, 0, x)] (rv.toList ++ []) σ2))) ∧ (fw_c x = 0 + 1 → (sp_m_spelt [(0, 0, 99), (0, 0, 108), (0, 0, 117), (0, 0, 101), (0, 0, 0), (0, 0, 0)] σ (fun rv σ2 => G 107 [some (0, 0, x)] (rv.toList ++ []) σ2))) ∧ (fw_c x = 0 + 1 + 1 → (sp_m_spelt [(0, 0, 112), (0, 0, 101), (0, 0, 114), (0, 0, 115), (0, 0, 111), (0, 0, 110)] σ (fun rv σ2 => G 123 [some (0, 0, x)] (rv.toList ++ []) σ2))) ∧ (fw_c x = 0 + 1 + 1 + 1 → (sp_m_spelt [(0, 0, 107), (0, 0, 110), (0, 0, 111), (0, 0, 119), (0, 0, 115), (0, 0, 0)] σ (fun rv σ2 => G 138 [some (0, 0, x)] (rv.toList ++ []) σ2))) ∧ (fw_c x = 0 + 1 + 1 + 1 + 1 → (sp_m_spelt [(0, 0, 100), (0, 0, 97), (0, 0, 114), (0, 0, 101), (0, 0, 0), (0, 0, 0)] σ (fun rv σ2 => G 152 [some (0, 0, x)] (rv.toList ++ []) σ2))) ∧ (fw_c x = 0 + 1 + 1 + 1 + 1 + 1 → (sp_m_spelt [(0, 0, 102), (0, 0, 114), (0, 0, 111), (0, 0, 109), (0, 0, 0), (0, 0, 0)] σ (fun rv σ2 => G 166 [some (0, 0, x)] (rv.toList ++ []) σ2))) ∧ (fw_c x = 0 + 1 + 1 + 1 + 1 + 1 + 1 → (sp_m_spelt [(0, 0, 110), (0, 0, 97), (0, 0, 109), (0, 0, 101), (0, 0, 0), (0, 0, 0)] σ (fun rv σ2 => G 180 [some (0, 0, x)] (rv.toList ++ []) σ2))) ∧ (fw_c x = 0 + 1 + 1 + 1 + 1 + 1 + 1 + 1 → (sp_m_spelt [(0, 0, 111), (0, 0, 114), (0, 0, 0), (0, 0, 0), (0, 0, 0), (0, 0, 0)] σ (fun rv σ2 => G 192 [some (0, 0, x)] (rv.toList ++ []) σ2))) ∧ (fw_c x = 0 + 1 + 1 + 1 + 1 + 1 + 1 + 1 + 1 → (sp_m_spelt [(0, 0, 97), (0, 0, 110), (0, 0, 100), (0, 0, 0), (0, 0, 0), (0, 0, 0)] σ (fun rv σ2 => G 205 [some (0, 0, x)] (rv.toList ++ []) σ2))) ∧ (fw_c x = 0 + 1 + 1 + 1 + 1 + 1 + 1 + 1 + 1 + 1 → (sp_m_spelt [(0, 0, 110), (0, 0, 111), (0, 0, 116), (0, 0, 0), (0, 0, 0), (0, 0, 0)] σ (fun rv σ2 => G 218 [some (0, 0, x)] (rv.toList ++ []) σ2))) ∧ (fw_c x = 0 + 1 + 1 + 1 + 1 + 1 + 1 + 1 + 1 + 1 + 1 → (sp_m_spelt [(0, 0, 105), (0, 0, 110), (0, 0, 0), (0, 0, 0), (0, 0, 0), (0, 0, 0)] σ (fun rv σ2 => G 230 [some (0, 0, x)] (rv.toList ++ []) σ2))) ∧ (fw_c x = 0 + 1 + 1 + 1 + 1 + 1 + 1 + 1 + 1 + 1 + 1 + 1 → (sp_m_spelt [(0, 0, 115), (0, 0, 117), (0, 0, 114), (0, 0, 101), (0, 0, 0), (0, 0, 0)] σ (fun rv σ2 => G 244 [some (0, 0, x)] (rv.toList ++ []) σ2))) ∧ (fw_c x = 0 + 1 + 1 + 1 + 1 + 1 + 1 + 1 + 1 + 1 + 1 + 1 + 1 → (sp_m_spelt [(0, 0, 108), (0, 0, 105), (0, 0, 107), (0, 0, 101), (0, 0, 0), (0, 0, 0)] σ (fun rv σ2 => G 258 [some (0, 0, x)] (rv.toList ++ []) σ2))) ∧ (fw_c x = 0 + 1 + 1 + 1 + 1 + 1 + 1 + 1 + 1 + 1 + 1 + 1 + 1 + 1 → (sp_m_spelt [(0, 0, 110), (0, 0, 111), (0, 0, 116), (0, 0, 101), (0, 0, 115), (0, 0, 0)] σ (fun rv σ2 => G 273 [some (0, 0, x)] (rv.toList ++ []) σ2))) ∧ (fw_c x = 0 + 1 + 1 + 1 + 1 + 1 + 1 + 1 + 1 + 1 + 1 + 1 + 1 + 1 + 1 → (sp_m_spelt [(0, 0, 104), (0, 0, 105), (0, 0, 103), (0, 0, 104), (0, 0, 0), (0, 0, 0)] σ (fun rv σ2 => G 287 [some (0, 0, x)] (rv.toList ++ []) σ2))) ∧ (fw_c x = 0 + 1 + 1 + 1 + 1 + 1 + 1 + 1 + 1 + 1 + 1 + 1 + 1 + 1 + 1 + 1 → (sp_m_spelt [(0, 0, 108), (0, 0, 111), (0, 0, 119), (0, 0, 0), (0, 0, 0), (0, 0, 0)] σ (fun rv σ2 => G 300 [some (0, 0, x)] (rv.toList ++ []) σ2))) ∧ True) : G 0 [some (0, 0, x)] [] σ := fw_on hG [93, 107, 123, 138, 152, 166, 180, 192, 205, 218, 230, 244, 258, 273, 287, 300, 315] 200 h
theorem fs_m_wordOf_315 {G : fw_K} {R : fw_KR} (hG : fw_cls st_m_wordOf R G) {a0 b0 : Int} {σ : ab_SG} (h : R (some (1, 0, b0)) σ) : G 315 [some (0, 0, a0)] [(1, 0, b0)] σ := fw_on hG [93, 107, 123, 138, 152, 166, 180, 192, 205, 218, 230, 244, 258, 273, 287, 300, 315] 200 h
theorem fs_m_wordOf_93 {G : fw_K} {R : fw_KR} (hG : fw_cls st_m_wordOf R G) {a0 b0 : Int} {σ : ab_SG} (h : R (some (1, 0, b0)) σ) : G 93 [some (0, 0, a0)] [(1, 0, b0)] σ := fw_on hG [93, 107, 123, 138, 152, 166, 180, 192, 205, 218, 230, 244, 258, 273, 287, 300, 315] 200 h
theorem fs_m_wordOf_107 {G : fw_K} {R : fw_KR} (hG : fw_cls st_m_wordOf R G) {a0 b0 : Int} {σ : ab_SG} (h : R (some (1, 0, b0)) σ) : G 107 [some (0, 0, a0)] [(1, 0, b0)] σ := fw_on hG [93, 107, 123, 138, 152, 166, 180, 192, 205, 218, 230, 244, 258, 273, 287, 300, 315] 200 h
theorem fs_m_wordOf_123 {G : fw_K} {R : fw_KR} (hG : fw_cls st_m_wordOf R G) {a0 b0 : Int} {σ : ab_SG} (h : R (some (1, 0, b0)) σ) : G 123 [some (0, 0, a0)] [(1, 0, b0)] σ := fw_on hG [93, 107, 123, 138, 152, 166, 180, 192, 205, 218, 230, 244, 258, 273, 287, 300, 315] 200 h
theorem fs_m_wordOf_138 {G : fw_K} {R : fw_KR} (hG : fw_cls st_m_wordOf R G) {a0 b0 : Int} {σ : ab_SG} (h : R (some (1, 0, b0)) σ) : G 138 [some (0, 0, a0)] [(1, 0, b0)] σ := fw_on hG [93, 107, 123, 138, 152, 166, 180, 192, 205, 218, 230, 244, 258, 273, 287, 300, 315] 200 h
theorem fs_m_wordOf_152 {G : fw_K} {R : fw_KR} (hG : fw_cls st_m_wordOf R G) {a0 b0 : Int} {σ : ab_SG} (h : R (some (1, 0, b0)) σ) : G 152 [some (0, 0, a0)] [(1, 0, b0)] σ := fw_on hG [93, 107, 123, 138, 152, 166, 180, 192, 205, 218, 230, 244, 258, 273, 287, 300, 315] 200 h
theorem fs_m_wordOf_166 {G : fw_K} {R : fw_KR} (hG : fw_cls st_m_wordOf R G) {a0 b0 : Int} {σ : ab_SG} (h : R (some (1, 0, b0)) σ) : G 166 [some (0, 0, a0)] [(1, 0, b0)] σ := fw_on hG [93, 107, 123, 138, 152, 166, 180, 192, 205, 218, 230, 244, 258, 273, 287, 300, 315] 200 h
theorem fs_m_wordOf_180 {G : fw_K} {R : fw_KR} (hG : fw_cls st_m_wordOf R G) {a0 b0 : Int} {σ : ab_SG} (h : R (some (1, 0, b0)) σ) : G 180 [some (0, 0, a0)] [(1, 0, b0)] σ := fw_on hG [93, 107, 123, 138, 152, 166, 180, 192, 205, 218, 230, 244, 258, 273, 287, 300, 315] 200 h
theorem fs_m_wordOf_192 {G : fw_K} {R : fw_KR} (hG : fw_cls st_m_wordOf R G) {a0 b0 : Int} {σ : ab_SG} (h : R (some (1, 0, b0)) σ) : G 192 [some (0, 0, a0)] [(1, 0, b0)] σ := fw_on hG [93, 107, 123, 138, 152, 166, 180, 192, 205, 218, 230, 244, 258, 273, 287, 300, 315] 200 h
theorem fs_m_wordOf_205 {G : fw_K} {R : fw_KR} (hG : fw_cls st_m_wordOf R G) {a0 b0 : Int} {σ : ab_SG} (h : R (some (1, 0, b0)) σ) : G 205 [some (0, 0, a0)] [(1, 0, b0)] σ := fw_on hG [93, 107, 123, 138, 152, 166, 180, 192, 205, 218, 230, 244, 258, 273, 287, 300, 315] 200 h
theorem fs_m_wordOf_218 {G : fw_K} {R : fw_KR} (hG : fw_cls st_m_wordOf R G) {a0 b0 : Int} {σ : ab_SG} (h : R (some (1, 0, b0)) σ) : G 218 [some (0, 0, a0)] [(1, 0, b0)] σ := fw_on hG [93, 107, 123, 138, 152, 166, 180, 192, 205, 218, 230, 244, 258, 273, 287, 300, 315] 200 h
theorem fs_m_wordOf_230 {G : fw_K} {R : fw_KR} (hG : fw_cls st_m_wordOf R G) {a0 b0 : Int} {σ : ab_SG} (h : R (some (1, 0, b0)) σ) : G 230 [some (0, 0, a0)] [(1, 0, b0)] σ := fw_on hG [93, 107, 123, 138, 152, 166, 180, 192, 205, 218, 230, 244, 258, 273, 287, 300, 315] 200 h
theorem fs_m_wordOf_244 {G : fw_K} {R : fw_KR} (hG : fw_cls st_m_wordOf R G) {a0 b0 : Int} {σ : ab_SG} (h : R (some (1, 0, b0)) σ) : G 244 [some (0, 0, a0)] [(1, 0, b0)] σ := fw_on hG [93, 107, 123, 138, 152, 166, 180, 192, 205, 218, 230, 244, 258, 273, 287, 300, 315] 200 h
theorem fs_m_wordOf_258 {G : fw_K} {R : fw_KR} (hG : fw_cls st_m_wordOf R G) {a0 b0 : Int} {σ : ab_SG} (h : R (some (1, 0, b0)) σ) : G 258 [some (0, 0, a0)] [(1, 0, b0)] σ := fw_on hG [93, 107, 123, 138, 152, 166, 180, 192, 205, 218, 230, 244, 258, 273, 287, 300, 315] 200 h
theorem fs_m_wordOf_273 {G : fw_K} {R : fw_KR} (hG : fw_cls st_m_wordOf R G) {a0 b0 : Int} {σ : ab_SG} (h : R (some (1, 0, b0)) σ) : G 273 [some (0, 0, a0)] [(1, 0, b0)] σ := fw_on hG [93, 107, 123, 138, 152, 166, 180, 192, 205, 218, 230, 244, 258, 273, 287, 300, 315] 200 h
theorem fs_m_wordOf_287 {G : fw_K} {R : fw_KR} (hG : fw_cls st_m_wordOf R G) {a0 b0 : Int} {σ : ab_SG} (h : R (some (1, 0, b0)) σ) : G 287 [some (0, 0, a0)] [(1, 0, b0)] σ := fw_on hG [93, 107, 123, 138, 152, 166, 180, 192, 205, 218, 230, 244, 258, 273, 287, 300, 315] 200 h
theorem fs_m_wordOf_300 {G : fw_K} {R : fw_KR} (hG : fw_cls st_m_wordOf R G) {a0 b0 : Int} {σ : ab_SG} (h : R (some (1, 0, b0)) σ) : G 300 [some (0, 0, a0)] [(1, 0, b0)] σ := fw_on hG [93, 107, 123, 138, 152, 166, 180, 192, 205, 218, 230, 244, 258, 273, 287, 300, 315] 200 h
abbrev fk_m_isIn : List fw_CR := []
abbrev st_m_isIn : fw_K → fw_KR → fw_K := fw_st vwCl nn_sh nn_kd fw_kv fw_wc (nn_KI20.map (fun x => x.1)) (nn_KJ20.map (fun x => x.1)) (nn_PF20.map (fun x => x.1)) (nn_PS20.map (fun x => x.1)) fk_m_isIn 0 nn_dt226 3 1
theorem fs_m_isIn_0 {G : fw_K} {R : fw_KR} (hG : fw_cls st_m_isIn R G) {x y z : Int} {σ : ab_SG} (h : (fw_c x < fw_c y → (0 ≤ fw_c 0 ∧ fw_c 0 ≤ 1) ∧ R (some (0, 0, 0)) σ) ∧ (fw_c y ≤ fw_c x → (fw_c z < fw_c x → (0 ≤ fw_c 0 ∧ fw_c 0 ≤ 1) ∧ R (some (0, 0, 0)) σ) ∧ (fw_c x ≤ fw_c z → (0 ≤ fw_c 1 ∧ fw_c 1 ≤ 1) ∧ R (some (0, 0, 1)) σ))) : G 0 [some (0, 0, x), some (0, 0, y), some (0, 0, z)] [] σ := fw_on hG [] 200 h
abbrev fk_m_bad : List fw_CR := []
abbrev st_m_bad : fw_K → fw_KR → fw_K := fw_st vwCl nn_sh nn_kd fw_kv fw_wc (nn_KI20.map (fun x => x.1)) (nn_KJ20.map (fun x => x.1)) (nn_PF20.map (fun x => x.1)) (nn_PS20.map (fun x => x.1)) fk_m_bad 0 nn_dt221 2 1
theorem fs_m_bad_0 {G : fw_K} {R : fw_KR} (hG : fw_cls st_m_bad R G) {x : Int} {σ : ab_SG} (h : (fw_c (σ 93 7) ≠ fw_c 1 → G 14 [some (2, 93, 0), some (0, 0, x)] [(0, 0, x), (2, 93, 0)] σ) ∧ (fw_c (σ 93 7) = fw_c 1 → G 14 [some (2, 93, 0), some (0, 0, x)] [(0, 0, 1), (2, 93, 0)] σ)) : G 0 [some (2, 93, 0), some (0, 0, x)] [] σ := fw_on hG [14] 200 h
theorem fs_m_bad_14 {G : fw_K} {R : fw_KR} (hG : fw_cls st_m_bad R G) {a1 b0 : Int} {σ : ab_SG} (h : (0 ≤ fw_c 0 ∧ fw_c 0 ≤ 1) ∧ R (some (0, 0, 0)) (ab_ups (ab_ups σ 93 10 (fw_c b0)) 93 11 (fw_c (σ 93 6)))) : G 14 [some (2, 93, 0), some (0, 0, a1)] [(0, 0, b0), (2, 93, 0)] σ := fw_on hG [14] 200 h
abbrev fk_m_isWord : List fw_CR := [(158, 1, false, 0, 1, sp_m_wordOf)]
abbrev st_m_isWord : fw_K → fw_KR → fw_K := fw_st vwCl nn_sh nn_kd fw_kv fw_wc (nn_KI20.map (fun x => x.1)) (nn_KJ20.map (fun x => x.1)) (nn_PF20.map (fun x => x.1)) (nn_PS20.map (fun x => x.1)) fk_m_isWord 2 nn_dt217 2 1
theorem fs_m_isWord_0 {G : fw_K} {R : fw_KR} (hG : fw_cls st_m_isWord R G) {x : Int} {σ : ab_SG} (h : (fw_c (σ 93 7) ≠ fw_c 2 → (0 ≤ fw_c 0 ∧ fw_c 0 ≤ 1) ∧ R (some (0, 0, 0)) σ) ∧ (fw_c (σ 93 7) = fw_c 2 → sp_m_wordOf [(0, 0, x)] σ (fun rv σ2 => G 16 [some (2, 93, 0), some (0, 0, x)] (rv.toList ++ [(1, 0, σ 93 12)]) σ2))) : G 0 [some (2, 93, 0), some (0, 0, x)] [] σ := fw_on hG [16] 200 h
theorem fs_m_isWord_16 {G : fw_K} {R : fw_KR} (hG : fw_cls st_m_isWord R G) {a1 b0 b1 : Int} {σ : ab_SG} (h : (fw_d b1 ≠ fw_d b0 → (0 ≤ fw_c 0 ∧ fw_c 0 ≤ 1) ∧ R (some (0, 0, 0)) σ) ∧ (fw_d b1 = fw_d b0 → (0 ≤ fw_c 1 ∧ fw_c 1 ≤ 1) ∧ R (some (0, 0, 1)) σ)) : G 16 [some (2, 93, 0), some (0, 0, a1)] [(1, 0, b0), (1, 0, b1)] σ := fw_on hG [16] 200 h
abbrev fk_m_isName : List fw_CR := [(158, 1, false, 0, 1, sp_m_wordOf)]
abbrev st_m_isName : fw_K → fw_KR → fw_K := fw_st vwCl nn_sh nn_kd fw_kv fw_wc (nn_KI20.map (fun x => x.1)) (nn_KJ20.map (fun x => x.1)) (nn_PF20.map (fun x => x.1)) (nn_PS20.map (fun x => x.1)) fk_m_isName 2 nn_dt223 2 1
theorem fs_m_isName_0 {G : fw_K} {R : fw_KR} (hG : fw_cls st_m_isName R G) {σ : ab_SG} (h : (fw_c (σ 93 7) = fw_c 2 → G 12 [some (2, 93, 0), some (0, 0, 0)] [] σ) ∧ (fw_c (σ 93 7) ≠ fw_c 2 → (0 ≤ fw_c 0 ∧ fw_c 0 ≤ 1) ∧ R (some (0, 0, 0)) σ)) : G 0 [some (2, 93, 0), none] [] σ := fw_on hG [12, 26] 200 h
theorem fs_m_isName_12 {G : fw_K} {R : fw_KR} (hG : fw_cls st_m_isName R G) {a1 : Int} {σ : ab_SG} (h : (fw_c 16 < fw_c a1 → (0 ≤ fw_c 1 ∧ fw_c 1 ≤ 1) ∧ R (some (0, 0, 1)) σ) ∧ (fw_c a1 ≤ fw_c 16 → sp_m_wordOf [(0, 0, a1)] σ (fun rv σ2 => G 26 [some (2, 93, 0), some (0, 0, a1)] (rv.toList ++ [(1, 0, σ 93 12)]) σ2))) : G 12 [some (2, 93, 0), some (0, 0, a1)] [] σ := fw_on hG [12, 26] 200 h
theorem fs_m_isName_26 {G : fw_K} {R : fw_KR} (hG : fw_cls st_m_isName R G) {a1 b0 b1 : Int} {σ : ab_SG} (h : (fw_d b1 ≠ fw_d b0 → G 12 [some (2, 93, 0), some (0, 0, a1 + 1)] [] σ) ∧ (fw_d b1 = fw_d b0 → (0 ≤ fw_c 0 ∧ fw_c 0 ≤ 1) ∧ R (some (0, 0, 0)) σ)) : G 26 [some (2, 93, 0), some (0, 0, a1)] [(1, 0, b0), (1, 0, b1)] σ := fw_on hG [12, 26] 200 h
abbrev fk_m_isSign : List fw_CR := []
abbrev st_m_isSign : fw_K → fw_KR → fw_K := fw_st vwCl nn_sh nn_kd fw_kv fw_wc (nn_KI20.map (fun x => x.1)) (nn_KJ20.map (fun x => x.1)) (nn_PF20.map (fun x => x.1)) (nn_PS20.map (fun x => x.1)) fk_m_isSign 0 nn_dt236 2 1
theorem fs_m_isSign_0 {G : fw_K} {R : fw_KR} (hG : fw_cls st_m_isSign R G) {x : Int} {σ : ab_SG} (h : (fw_c (σ 93 7) ≠ fw_c 4 → (0 ≤ fw_c 0 ∧ fw_c 0 ≤ 1) ∧ R (some (0, 0, 0)) σ) ∧ (fw_c (σ 93 7) = fw_c 4 → (fw_c (σ 93 9) ≠ fw_c x → (0 ≤ fw_c 0 ∧ fw_c 0 ≤ 1) ∧ R (some (0, 0, 0)) σ) ∧ (fw_c (σ 93 9) = fw_c x → (0 ≤ fw_c 1 ∧ fw_c 1 ≤ 1) ∧ R (some (0, 0, 1)) σ))) : G 0 [some (2, 93, 0), some (0, 0, x)] [] σ := fw_on hG [] 200 h
abbrev fk_m_isNumber : List fw_CR := [(168, 1, true, 11, 0, sp_m_bad), (171, 3, false, 0, 0, sp_m_isIn)]
abbrev st_m_isNumber : fw_K → fw_KR → fw_K := fw_st vwCl nn_sh nn_kd fw_kv fw_wc (nn_KI20.map (fun x => x.1)) (nn_KJ20.map (fun x => x.1)) (nn_PF20.map (fun x => x.1)) (nn_PS20.map (fun x => x.1)) fk_m_isNumber 1 nn_dt225 3 1
theorem fs_m_isNumber_0 {G : fw_K} {R : fw_KR} (hG : fw_cls st_m_isNumber R G) {x y : Int} {σ : ab_SG} (h : (fw_c (σ 93 7) = fw_c 3 → sp_m_isIn [(0, 0, σ 93 8), (0, 0, x), (0, 0, y)] σ (fun rv σ2 => G 23 [some (2, 93, 0), some (0, 0, x), some (0, 0, y)] (rv.toList ++ []) σ2)) ∧ (fw_c (σ 93 7) ≠ fw_c 3 → sp_m_bad [(2, 93, 0), (0, 0, 1)] σ (fun rv σ2 => G 13 [some (2, 93, 0), some (0, 0, x), some (0, 0, y)] (rv.toList ++ []) σ2))) : G 0 [some (2, 93, 0), some (0, 0, x), some (0, 0, y)] [] σ := fw_on hG [13, 23, 31] 200 h
theorem fs_m_isNumber_23 {G : fw_K} {R : fw_KR} (hG : fw_cls st_m_isNumber R G) {a1 a2 b0 : Int} {σ : ab_SG} (h : (fw_c b0 ≠ 0 → (0 ≤ fw_c 1 ∧ fw_c 1 ≤ 1) ∧ R (some (0, 0, 1)) (ab_ups σ 93 13 (fw_c (σ 93 8)))) ∧ (fw_c b0 = 0 → sp_m_bad [(2, 93, 0), (0, 0, 2)] σ (fun rv σ2 => G 31 [some (2, 93, 0), some (0, 0, a1), some (0, 0, a2)] (rv.toList ++ []) σ2))) : G 23 [some (2, 93, 0), some (0, 0, a1), some (0, 0, a2)] [(0, 0, b0)] σ := fw_on hG [13, 23, 31] 200 h
theorem fs_m_isNumber_13 {G : fw_K} {R : fw_KR} (hG : fw_cls st_m_isNumber R G) {a1 a2 b0 : Int} {σ : ab_SG} (h : (0 ≤ fw_c b0 ∧ fw_c b0 ≤ 1) ∧ R (some (0, 0, b0)) σ) : G 13 [some (2, 93, 0), some (0, 0, a1), some (0, 0, a2)] [(0, 0, b0)] σ := fw_on hG [13, 23, 31] 200 h
theorem fs_m_isNumber_31 {G : fw_K} {R : fw_KR} (hG : fw_cls st_m_isNumber R G) {a1 a2 b0 : Int} {σ : ab_SG} (h : (0 ≤ fw_c b0 ∧ fw_c b0 ≤ 1) ∧ R (some (0, 0, b0)) σ) : G 31 [some (2, 93, 0), some (0, 0, a1), some (0, 0, a2)] [(0, 0, b0)] σ := fw_on hG [13, 23, 31] 200 h
section
variable {l : Launch} {cy : Nat → ClassId} {ad wr cr : Nat → Nat} {D : va_G}
theorem fm_m_spelt (hinj : nn_inj ad) : fw_H l cy ad wr cr D 219 0 sp_m_spelt := fw_mk hinj (⟨"NameNotesModel", "spelt", "(IIIIII)J"⟩, prog_14_method_18_code, 8, (Option.some Jvm.ClassFile.FieldType.long), 6, false, 2) rfl rfl nn_KI20_ok nn_KJ20_ok nn_PF20_ok nn_PS20_ok (by decide +kernel) rfl rfl (fun _ h => absurd h List.not_mem_nil) (fun as σ K h => by
  obtain ⟨a, b, c, d, e, f, rfl, ⟨ha, hb, hc, hd, he, hf⟩, h⟩ := h
  have ea : fw_c a = a := fw_c_id (by omega) (by omega)
  have eb : fw_c b = b := fw_c_id (by omega) (by omega)
  have ec : fw_c c = c := fw_c_id (by omega) (by omega)
  have ed : fw_c d = d := fw_c_id (by omega) (by omega)
  have ee : fw_c e = e := fw_c_id (by omega) (by omega)
  have ef : fw_c f = f := fw_c_id (by omega) (by omega)
  refine ⟨rfl, fun G hG => ?_⟩
  have at78 : ∀ v : Int, K (some (1, 0, if 0 < f then 27 * v + f - 96 else v)) σ → G 78 [some (0, 0, a), some (0, 0, b), some (0, 0, c), some (0, 0, d), some (0, 0, e), some (0, 0, f), some (1, 0, v), none] [] σ := fun v k => by
    refine fs_m_spelt_78 hG ?_
    rw [ef]
    refine ⟨fun q => ?_, fun q => ?_⟩
    · rw [if_neg (by omega)] at k; exact k
    · rw [if_pos q] at k; exact k
  have at57 : ∀ v : Int, K (some (1, 0, if 0 < f then 27 * (if 0 < e then 27 * v + e - 96 else v) + f - 96 else (if 0 < e then 27 * v + e - 96 else v))) σ → G 57 [some (0, 0, a), some (0, 0, b), some (0, 0, c), some (0, 0, d), some (0, 0, e), some (0, 0, f), some (1, 0, v), none] [] σ := fun v k => by
    refine fs_m_spelt_57 hG ?_
    rw [ee]
    refine ⟨fun q => at78 _ ?_, fun q => at78 _ ?_⟩
    · rw [if_neg (show ¬ 0 < e by omega)] at k; exact k
    · rw [if_pos (show 0 < e from q)] at k; exact k
  have at38 : ∀ v : Int, K (some (1, 0, if 0 < f then 27 * (if 0 < e then 27 * (if 0 < d then 27 * v + d - 96 else v) + e - 96 else (if 0 < d then 27 * v + d - 96 else v)) + f - 96 else (if 0 < e then 27 * (if 0 < d then 27 * v + d - 96 else v) + e - 96 else (if 0 < d then 27 * v + d - 96 else v)))) σ → G 38 [some (0, 0, a), some (0, 0, b), some (0, 0, c), some (0, 0, d), some (0, 0, e), some (0, 0, f), some (1, 0, v), none] [] σ := fun v k => by
    refine fs_m_spelt_38 hG ?_
    rw [ed]
    refine ⟨fun q => at57 _ ?_, fun q => at57 _ ?_⟩
    · rw [if_neg (show ¬ 0 < d by omega)] at k; exact k
    · rw [if_pos (show 0 < d from q)] at k; exact k
  refine fs_m_spelt_0 hG ?_
  rw [ea, eb, ec]
  unfold spv at h
  dsimp only at h
  refine ⟨fun q => at38 _ ?_, fun q => at38 _ ?_⟩
  · rw [if_neg (show ¬ 0 < c by omega)] at h; exact h
  · rw [if_pos (show 0 < c from q)] at h; exact h)
theorem fm_m_wordOf (hinj : nn_inj ad) : fw_H l cy ad wr cr D 218 1 sp_m_wordOf := fw_mk hinj (⟨"NameNotesModel", "wordOf", "(I)J"⟩, prog_14_method_19_code, 1, (Option.some Jvm.ClassFile.FieldType.long), 1, false, 2) rfl rfl nn_KI20_ok nn_KJ20_ok nn_PF20_ok nn_PS20_ok (by decide +kernel) rfl rfl (List.forall_mem_cons.mpr ⟨fw_row nn_PM20_ok (x := 154) (k := 0) (mn := 219) (np := 6) (ob := false) (ci := 0) (⟨"NameNotesModel", "spelt", "(IIIIII)J"⟩, prog_14_method_18_code, 8, (Option.some Jvm.ClassFile.FieldType.long), 6, false, 2) rfl (by decide +kernel) rfl rfl (by decide) (fun q => by cases q) (fm_m_spelt hinj), (fun _ h => absurd h List.not_mem_nil)⟩) (fun as σ K h => by
  obtain ⟨x, rfl, hx, h⟩ := h
  have ex : fw_c (x : Int) = x := fw_c_id (by omega) (by omega)
  refine ⟨rfl, fun G hG => fs_m_wordOf_0 hG ?_⟩
  rw [ex]
  have go : ∀ k : Nat, x = k → ∀ v : Int, v = rf_w 7 (fw_wc k) → K (some (1, 0, v)) σ := fun k hk v hv => by
    rw [hv, ← hk]; exact h
  exact ⟨⟨fun q => absurd q (by omega), fun q => ⟨98, 101, 97, 116, 115, 0, rfl, by decide, fs_m_wordOf_315 hG (go 16 (by omega) _ (by decide +kernel))⟩⟩, fun q => ⟨116, 117, 110, 101, 0, 0, rfl, by decide, fs_m_wordOf_93 hG (go 0 (by omega) _ (by decide +kernel))⟩, fun q => ⟨99, 108, 117, 101, 0, 0, rfl, by decide, fs_m_wordOf_107 hG (go 1 (by omega) _ (by decide +kernel))⟩, fun q => ⟨112, 101, 114, 115, 111, 110, rfl, by decide, fs_m_wordOf_123 hG (go 2 (by omega) _ (by decide +kernel))⟩, fun q => ⟨107, 110, 111, 119, 115, 0, rfl, by decide, fs_m_wordOf_138 hG (go 3 (by omega) _ (by decide +kernel))⟩, fun q => ⟨100, 97, 114, 101, 0, 0, rfl, by decide, fs_m_wordOf_152 hG (go 4 (by omega) _ (by decide +kernel))⟩, fun q => ⟨102, 114, 111, 109, 0, 0, rfl, by decide, fs_m_wordOf_166 hG (go 5 (by omega) _ (by decide +kernel))⟩, fun q => ⟨110, 97, 109, 101, 0, 0, rfl, by decide, fs_m_wordOf_180 hG (go 6 (by omega) _ (by decide +kernel))⟩, fun q => ⟨111, 114, 0, 0, 0, 0, rfl, by decide, fs_m_wordOf_192 hG (go 7 (by omega) _ (by decide +kernel))⟩, fun q => ⟨97, 110, 100, 0, 0, 0, rfl, by decide, fs_m_wordOf_205 hG (go 8 (by omega) _ (by decide +kernel))⟩, fun q => ⟨110, 111, 116, 0, 0, 0, rfl, by decide, fs_m_wordOf_218 hG (go 9 (by omega) _ (by decide +kernel))⟩, fun q => ⟨105, 110, 0, 0, 0, 0, rfl, by decide, fs_m_wordOf_230 hG (go 10 (by omega) _ (by decide +kernel))⟩, fun q => ⟨115, 117, 114, 101, 0, 0, rfl, by decide, fs_m_wordOf_244 hG (go 11 (by omega) _ (by decide +kernel))⟩, fun q => ⟨108, 105, 107, 101, 0, 0, rfl, by decide, fs_m_wordOf_258 hG (go 12 (by omega) _ (by decide +kernel))⟩, fun q => ⟨110, 111, 116, 101, 115, 0, rfl, by decide, fs_m_wordOf_273 hG (go 13 (by omega) _ (by decide +kernel))⟩, fun q => ⟨104, 105, 103, 104, 0, 0, rfl, by decide, fs_m_wordOf_287 hG (go 14 (by omega) _ (by decide +kernel))⟩, fun q => ⟨108, 111, 119, 0, 0, 0, rfl, by decide, fs_m_wordOf_300 hG (go 15 (by omega) _ (by decide +kernel))⟩, trivial⟩)
theorem fm_m_isIn (hinj : nn_inj ad) : fw_H l cy ad wr cr D 226 0 sp_m_isIn := fw_mk hinj (⟨"NameNotesModel", "isIn", "(III)Z"⟩, prog_14_method_8_code, 3, (Option.some Jvm.ClassFile.FieldType.boolean), 3, false, 1) rfl rfl nn_KI20_ok nn_KJ20_ok nn_PF20_ok nn_PS20_ok (by decide +kernel) rfl rfl (fun _ h => absurd h List.not_mem_nil) (fun as σ K h => by
  obtain ⟨x, y, z, rfl, h⟩ := h
  refine ⟨rfl, fun G hG => fs_m_isIn_0 hG ⟨fun q => ⟨fw_01, ?_⟩, fun q => ⟨fun q2 => ⟨fw_01, ?_⟩, fun q2 => ⟨fw_11, ?_⟩⟩⟩⟩
  · rw [fw_bo_f (fun y => absurd q (by omega))] at h; exact h
  · rw [fw_bo_f (fun y => absurd q2 (by omega))] at h; exact h
  · rw [fw_bo_t ⟨q, q2⟩] at h; exact h)
theorem fm_m_bad (hinj : nn_inj ad) : fw_H l cy ad wr cr D 221 0 sp_m_bad := fw_mk hinj (⟨"NameNotesModel", "bad", "(I)Z"⟩, prog_14_method_23_code, 2, (Option.some Jvm.ClassFile.FieldType.boolean), 1, true, 1) rfl rfl nn_KI20_ok nn_KJ20_ok nn_PF20_ok nn_PS20_ok (by decide +kernel) rfl rfl (fun _ h => absurd h List.not_mem_nil) (fun as σ K h => by
  obtain ⟨x, rfl, hx, hk, h⟩ := h
  have ek : fw_c (σ 93 7) = σ 93 7 := fw_c_id (by omega) (by omega)
  have ex : fw_c x = x := fw_c_id (by omega) (by omega)
  refine ⟨rfl, fun G hG => fs_m_bad_0 hG ?_⟩
  have at14 : ∀ v : Int, fw_c v = v → v = (if σ 93 7 = 1 then 1 else x) → G 14 [some (2, 93, 0), some (0, 0, x)] [(0, 0, v), (2, 93, 0)] σ := fun v hv hw => by
    refine fs_m_bad_14 hG ⟨fw_01, ?_⟩
    rw [hv]
    exact h _ (fw_okM_ups (fw_okM_ups (fw_okM_refl _ _) (by decide)) (by decide)) (((ab_ups_ne (by decide)).trans ab_ups_eq).trans hw) ab_ups_eq
  refine ⟨fun q => at14 x ex (if_neg (fun z => q (by rw [ek, z, fw_c1]))).symm, fun q => at14 1 fw_c1 (if_pos (ek.symm.trans (q.trans fw_c1))).symm⟩)
theorem fm_m_isWord (hinj : nn_inj ad) : fw_H l cy ad wr cr D 217 2 sp_m_isWord := fw_mk hinj (⟨"NameNotesModel", "isWord", "(I)Z"⟩, prog_14_method_20_code, 2, (Option.some Jvm.ClassFile.FieldType.boolean), 1, true, 1) rfl rfl nn_KI20_ok nn_KJ20_ok nn_PF20_ok nn_PS20_ok (by decide +kernel) rfl rfl (List.forall_mem_cons.mpr ⟨fw_row nn_PM20_ok (x := 158) (k := 0) (mn := 218) (np := 1) (ob := false) (ci := 0) (⟨"NameNotesModel", "wordOf", "(I)J"⟩, prog_14_method_19_code, 1, (Option.some Jvm.ClassFile.FieldType.long), 1, false, 2) rfl (by decide +kernel) rfl rfl (by decide) (fun q => by cases q) (fm_m_wordOf hinj), (fun _ h => absurd h List.not_mem_nil)⟩) (fun as σ K h => by
  obtain ⟨x, e, p, rfl, hx, hm, h⟩ := h
  have mk := mg_kind hm
  have ek : fw_c (σ 93 7) = σ 93 7 := fw_c_id (by omega) (by omega)
  have e2 : fw_c 2 = 2 := fw_c_id (by decide) (by decide)
  have hw := tw_iff (e := e) (p := p) (k := x) (by omega)
  refine ⟨rfl, fun G hG => fs_m_isWord_0 hG ?_⟩
  rw [ek, e2]
  refine ⟨fun q => ⟨fw_01, ?_⟩, fun q => ⟨x, rfl, hx, fs_m_isWord_16 hG ?_⟩⟩
  · rw [fw_bo_f (fun y => q (mk.1.mpr (hw.mp y).1))] at h; exact h
  · have k2 := mk.1.mp q
    obtain ⟨-, ok, e12⟩ := hm.2.2.2.2.1 k2
    have b1 := rf_w_in 7 (tk e p).2.2.2.1
    have b2 := rf_w_in 7 (fw_wc x)
    have hB := rf_B7
    have d1 : fw_d (rf_w 7 (tk e p).2.2.2.1) = rf_w 7 (tk e p).2.2.2.1 := fw_d_id (by omega) (by omega)
    have d2 : fw_d (rf_w 7 (fw_wc x)) = rf_w 7 (fw_wc x) := fw_d_id (by omega) (by omega)
    rw [e12, d1, d2]
    refine ⟨fun y => ⟨fw_01, ?_⟩, fun y => ⟨fw_11, ?_⟩⟩
    · rw [fw_bo_f (fun v => y (by rw [(hw.mp v).2]; rfl))] at h; exact h
    · have := rf_inj 7 _ _ ok (wc_ok x (by omega)) y
      rw [fw_bo_t (hw.mpr ⟨k2, this.symm⟩)] at h; exact h)
theorem fm_m_isName (hinj : nn_inj ad) : fw_H l cy ad wr cr D 223 2 sp_m_isName := fw_mk hinj (⟨"NameNotesModel", "isName", "()Z"⟩, prog_14_method_22_code, 2, (Option.some Jvm.ClassFile.FieldType.boolean), 0, true, 1) rfl rfl nn_KI20_ok nn_KJ20_ok nn_PF20_ok nn_PS20_ok (by decide +kernel) rfl rfl (List.forall_mem_cons.mpr ⟨fw_row nn_PM20_ok (x := 158) (k := 0) (mn := 218) (np := 1) (ob := false) (ci := 0) (⟨"NameNotesModel", "wordOf", "(I)J"⟩, prog_14_method_19_code, 1, (Option.some Jvm.ClassFile.FieldType.long), 1, false, 2) rfl (by decide +kernel) rfl rfl (by decide) (fun q => by cases q) (fm_m_wordOf hinj), (fun _ h => absurd h List.not_mem_nil)⟩) (fun as σ K h => by
  obtain ⟨e, p, rfl, hm, h⟩ := h
  have mk := mg_kind hm
  have ek : fw_c (σ 93 7) = σ 93 7 := fw_c_id (by omega) (by omega)
  have e2 : fw_c 2 = 2 := fw_c_id (by decide) (by decide)
  have e16 : fw_c 16 = 16 := fw_c_id (by decide) (by decide)
  have hw := tw_neg (e := e) (p := p)
  refine ⟨rfl, fun G hG => fs_m_isName_0 hG ?_⟩
  rw [ek, e2]
  refine ⟨fun q => ?_, fun q => ⟨fw_01, ?_⟩⟩
  · have k2 := mk.1.mp q
    obtain ⟨-, ok, e12⟩ := hm.2.2.2.2.1 k2
    have b1 := rf_w_in 7 (tk e p).2.2.2.1
    have hB := rf_B7
    have d1 : fw_d (rf_w 7 (tk e p).2.2.2.1) = rf_w 7 (tk e p).2.2.2.1 := fw_d_id (by omega) (by omega)
    have key : ∀ (f i : Nat), i + f = 17 → (∀ k : Nat, k < i → fw_wc k ≠ pr_wd e p) → G 12 [some (2, 93, 0), some (0, 0, (i : Int))] [] σ := by
      intro f
      induction f with
      | zero =>
        intro i hi hn
        have ei : fw_c (i : Int) = i := fw_c_id (by omega) (by omega)
        refine fs_m_isName_12 hG ?_
        rw [e16, ei]
        refine ⟨fun _ => ⟨fw_11, ?_⟩, fun z => absurd z (by omega)⟩
        rw [fw_bo_t (hw.mpr ⟨k2, fun k hk => hn k (by omega)⟩)] at h; exact h
      | succ f ih =>
        intro i hi hn
        have ei : fw_c (i : Int) = i := fw_c_id (by omega) (by omega)
        have b2 := rf_w_in 7 (fw_wc i)
        have d2 : fw_d (rf_w 7 (fw_wc i)) = rf_w 7 (fw_wc i) := fw_d_id (by omega) (by omega)
        refine fs_m_isName_12 hG ?_
        rw [e16, ei]
        refine ⟨fun z => absurd z (by omega), fun _ => ⟨i, rfl, by omega, fs_m_isName_26 hG ?_⟩⟩
        rw [e12, d1, d2]
        refine ⟨fun y => ih (i + 1) (by omega) (fun k hk => ?_), fun y => ⟨fw_01, ?_⟩⟩
        · by_cases c : k = i
          · rw [c]; exact fun v => y (by rw [v]; rfl)
          · exact hn k (by omega)
        · have := rf_inj 7 _ _ ok (wc_ok i (by omega)) y
          rw [fw_bo_f (fun v => (hw.mp v).2 i (by omega) this.symm)] at h; exact h
    exact key 17 0 rfl (fun k hk => absurd hk (Nat.not_lt_zero k))
  · rw [fw_bo_f (fun y => q (mk.1.mpr y.1))] at h; exact h)
theorem fm_m_isSign (hinj : nn_inj ad) : fw_H l cy ad wr cr D 236 0 sp_m_isSign := fw_mk hinj (⟨"NameNotesModel", "isSign", "(I)Z"⟩, prog_14_method_21_code, 2, (Option.some Jvm.ClassFile.FieldType.boolean), 1, true, 1) rfl rfl nn_KI20_ok nn_KJ20_ok nn_PF20_ok nn_PS20_ok (by decide +kernel) rfl rfl (fun _ h => absurd h List.not_mem_nil) (fun as σ K h => by
  obtain ⟨x, e, p, rfl, hx, hm, h⟩ := h
  have mk := mg_kind hm
  have ek : fw_c (σ 93 7) = σ 93 7 := fw_c_id (by omega) (by omega)
  have e4 : fw_c 4 = 4 := fw_c_id (by decide) (by decide)
  have ex : fw_c x = x := fw_c_id (by omega) (by omega)
  obtain ⟨-, -, h0, h1, h2, h3, h4⟩ := hm
  refine ⟨rfl, fun G hG => fs_m_isSign_0 hG ?_⟩
  rw [ek, e4, ex]
  have kd := tk_kind e p
  unfold tk_kd at kd
  refine ⟨fun q => ⟨fw_01, ?_⟩, fun q => ?_⟩
  · rw [fw_bo_f (fun y => q (h4 (by omega)).1)] at h; exact h
  · have hs : (tk e p).1 = 59 ∨ (60 ≤ (tk e p).1 ∧ (tk e p).1 ≤ 62) ∨ (tk e p).1 = 40 ∨ (tk e p).1 = 41 := by omega
    have e9 := (h4 hs).2
    have ec : fw_c (tk e p).1 = (tk e p).1 := fw_c_id (by omega) (by omega)
    rw [e9, ec]
    refine ⟨fun y => ⟨fw_01, ?_⟩, fun y => ⟨fw_11, ?_⟩⟩
    · rw [fw_bo_f y] at h; exact h
    · rw [fw_bo_t y] at h; exact h)
theorem fm_m_isNumber (hinj : nn_inj ad) : fw_H l cy ad wr cr D 225 1 sp_m_isNumber := fw_mk hinj (⟨"NameNotesModel", "isNumber", "(II)Z"⟩, prog_14_method_24_code, 3, (Option.some Jvm.ClassFile.FieldType.boolean), 2, true, 1) rfl rfl nn_KI20_ok nn_KJ20_ok nn_PF20_ok nn_PS20_ok (by decide +kernel) rfl rfl (List.forall_mem_cons.mpr ⟨fw_row nn_PM20_ok (x := 168) (k := 0) (mn := 221) (np := 1) (ob := true) (ci := 11) (⟨"NameNotesModel", "bad", "(I)Z"⟩, prog_14_method_23_code, 2, (Option.some Jvm.ClassFile.FieldType.boolean), 1, true, 1) rfl (by decide +kernel) rfl rfl (by decide) (fun _ => ⟨_, _, rfl⟩) (fm_m_bad hinj), (List.forall_mem_cons.mpr ⟨fw_row nn_PM20_ok (x := 171) (k := 0) (mn := 226) (np := 3) (ob := false) (ci := 0) (⟨"NameNotesModel", "isIn", "(III)Z"⟩, prog_14_method_8_code, 3, (Option.some Jvm.ClassFile.FieldType.boolean), 3, false, 1) rfl (by decide +kernel) rfl rfl (by decide) (fun q => by cases q) (fm_m_isIn hinj), (fun _ h => absurd h List.not_mem_nil)⟩)⟩) (fun as σ K h => by
  obtain ⟨a, b, e, p, rfl, hab, hm, h0, h1⟩ := h
  have mk := mg_kind hm
  have ek : fw_c (σ 93 7) = σ 93 7 := fw_c_id (by omega) (by omega)
  have e3 : fw_c 3 = 3 := fw_c_id (by decide) (by decide)
  have ea : fw_c a = a := fw_c_id (by omega) (by omega)
  have eb : fw_c b = b := fw_c_id (by omega) (by omega)
  unfold pr_nm at h0 h1
  refine ⟨rfl, fun G hG => fs_m_isNumber_0 hG ?_⟩
  rw [ek, e3]
  refine ⟨fun q => ?_, fun q => ?_⟩
  · have k3 := mk.2.1.mp q
    obtain ⟨-, e8, n0, n1⟩ := hm.2.2.2.2.2.1 k3
    have ec : fw_c (tk e p).2.2.2.2 = (tk e p).2.2.2.2 := fw_c_id (by omega) (by omega)
    rw [if_pos k3] at h0 h1
    rw [e8]
    refine ⟨_, _, _, rfl, fs_m_isNumber_23 hG ?_⟩
    rw [e8, ec, ea, eb]
    refine ⟨fun z => ⟨fw_11, ?_⟩, fun z => ?_⟩
    · have z := fw_bo_ne z
      rw [if_pos z] at h1
      exact h1 rfl z.1 z.2
    · have z := fw_bo_eq z
      rw [if_neg z] at h0
      refine ⟨2, rfl, by decide, by omega, fun σ' hM h10 _ => fs_m_isNumber_31 hG ⟨fw_01, h0 (by decide) σ' (fw_okM_tr (fw_okM_refl _ _) hM (by decide)) ?_⟩⟩
      rw [h10, if_neg (by omega)]
  · have k3 : ¬ (tk e p).1 = 3 := fun y => q (mk.2.1.mpr y)
    rw [if_neg k3] at h0
    refine ⟨1, rfl, by decide, by omega, fun σ' hM h10 _ => fs_m_isNumber_13 hG ⟨fw_01, h0 (by decide) σ' (fw_okM_tr (fw_okM_refl _ _) hM (by decide)) ?_⟩⟩
    rw [h10]
    split <;> rfl)
end
end
section
/-! the reference at a token: steps, numbers, a line's end, names sought -/
/-- the reference stands at token p -/
def mt_is (σ : ab_SG) (e : tk_E) (p : Nat) : Prop := mg_is σ (tk e p) ∧ mg_tp σ e.1 ∧ σ 93 3 = (e.2.1 : Int) ∧ σ 93 4 = e.2.2 ∧ p ≤ e.2.1 ∧ σ 93 10 = 0 ∧ (σ 93 3 ≤ 940 ∧ 0 ≤ σ 93 4 ∧ σ 93 4 ≤ 940)
theorem mg_tp_M {M : ab_ML} {σ σ' : ab_SG} {t : Nat → Int} (h : mg_tp σ t) (hM : ab_okM M σ σ') (hm : M.all (fun q => !(q.1.beq 94)) = true) (h3 : σ' 93 3 = σ 93 3) : mg_tp σ' t := by
  intro j hj
  rw [h3] at hj
  rw [fw_okM_c hM (a := 94) hm]
  exact h j hj
theorem mt_go {σ : ab_SG} {e : tk_E} {p : Nat} {K : fw_KR} (h : mt_is σ e p) (k : ∀ σ' : ab_SG, ab_okM go_M σ σ' → mt_is σ' e (tn e p) → K none σ') : sp_m_go [(2, 93, 0)] σ K := by
  obtain ⟨hm, ht, h3, h4, hp, h10, hb⟩ := h
  have h5 : σ 93 5 = ((tn e p : Nat) : Int) := hm.2.1
  have hn := tn_le hp
  refine ⟨e.1, rfl, ⟨by omega, by omega, hb.1, hb.2.1, hb.2.2⟩, ht, fun σ' hM hs => k σ' hM ⟨?_, mg_tp_M ht hM (by decide) (hM 93 3 (by decide)), (hM 93 3 (by decide)).trans h3, (hM 93 4 (by decide)).trans h4, hn.2, (hM 93 10 (by decide)).trans h10, ?_⟩⟩
  · have e3 : (σ 93 3).toNat = e.2.1 := by omega
    rw [e3, h4, h5, Int.toNat_natCast] at hs
    exact hs
  · rw [hM 93 3 (by decide), hM 93 4 (by decide)]
    exact hb
/-- a number set that no token's field is -/
theorem mt_ups {σ : ab_SG} {e : tk_E} {p k j : Nat} {v : Int} (h : mt_is σ e p) (hk : (k ≠ 93 ∧ k ≠ 94) ∨ (k = 93 ∧ 13 ≤ j)) : mt_is (ab_ups σ k j v) e p := by
  obtain ⟨hm, ht, h3, h4, hp, h10, hb⟩ := h
  have n93 : ∀ b : Nat, b < 13 → ab_ups σ k j v 93 b = σ 93 b := fun b hb => ab_ups_ne (fun z => by rcases hk with q | q; exact q.1 z.1.symm; omega)
  have n94 : ab_ups σ k j v 94 = σ 94 := ab_ups_row (fun z => by rcases hk with q | q; exact q.2 z.symm; omega)
  refine ⟨?_, ?_, (n93 3 (by decide)).trans h3, (n93 4 (by decide)).trans h4, hp, (n93 10 (by decide)).trans h10, ?_⟩
  · unfold mg_is
    rw [n93 6 (by decide), n93 5 (by decide), n93 7 (by decide), n93 12 (by decide), n93 8 (by decide), n93 9 (by decide)]
    exact hm
  · unfold mg_tp
    rw [n93 3 (by decide), n94]
    exact ht
  · rw [n93 3 (by decide), n93 4 (by decide)]
    exact hb
def sp_m_readNumber : fw_SP := fun as σ K => ∃ (a b : Int) (e : tk_E) (p : Nat), as = [(2, 93, 0), (0, 0, a), (0, 0, b)] ∧ (0 ≤ a ∧ a ≤ 24 ∧ 0 ≤ b ∧ b ≤ 24) ∧ mt_is σ e p ∧ (pr_nm e p a b ≠ 0 → md_no σ (pr_nm e p a b) K) ∧
  (pr_nm e p a b = 0 → a ≤ (tk e p).2.2.2.2 → (tk e p).2.2.2.2 ≤ b → ∀ σ' : ab_SG, ab_okM ((93, 13) :: go_M) σ σ' → σ' 93 13 = (tk e p).2.2.2.2 → mt_is σ' e (tn e p) → K (some (0, 0, 1)) σ')
def sp_m_readEnd : fw_SP := fun as σ K => ∃ (e : tk_E) (p : Nat), as = [(2, 93, 0)] ∧ mt_is σ e p ∧ ((tk e p).1 ≠ 59 → md_no σ 1 K) ∧ ((tk e p).1 = 59 → ∀ σ' : ab_SG, ab_okM go_M σ σ' → mt_is σ' e (tn e p) → K (some (0, 0, 1)) σ')
def sp_m_has : fw_SP := fun as σ K => ∃ s x : Int, as = [(0, 0, s), (0, 0, x)] ∧ K (some (0, 0, fw_bo (pr_hs s x = true))) σ
def sp_m_findIn : fw_SP := fun as σ K => ∃ (b n : Nat) (w : Int), as = [(2, 100, 0), (0, 0, (b : Int)), (0, 0, (n : Int)), (1, 0, w)] ∧ b + n ≤ 20 ∧ fw_d w = w ∧ (∀ j : Nat, j < n → fw_d (σ 100 (b + j)) = σ 100 (b + j)) ∧ K (some (0, 0, rw_fd (fun j => σ 100 (b + j)) w n 0)) σ
abbrev fk_m_readNumber : List fw_CR := [(178, 2, true, 11, 1, sp_m_isNumber), (182, 0, true, 11, 1, sp_m_go)]
abbrev st_m_readNumber : fw_K → fw_KR → fw_K := fw_st vwCl nn_sh nn_kd fw_kv fw_wc (nn_KI20.map (fun x => x.1)) (nn_KJ20.map (fun x => x.1)) (nn_PF20.map (fun x => x.1)) (nn_PS20.map (fun x => x.1)) fk_m_readNumber 2 nn_dt227 3 1
theorem fs_m_readNumber_0 {G : fw_K} {R : fw_KR} (hG : fw_cls st_m_readNumber R G) {x y : Int} {σ : ab_SG} (h : sp_m_isNumber [(2, 93, 0), (0, 0, x), (0, 0, y)] σ (fun rv σ2 => G 6 [some (2, 93, 0), some (0, 0, x), some (0, 0, y)] (rv.toList ++ []) σ2)) : G 0 [some (2, 93, 0), some (0, 0, x), some (0, 0, y)] [] σ := fw_on hG [6, 15] 200 h
theorem fs_m_readNumber_6 {G : fw_K} {R : fw_KR} (hG : fw_cls st_m_readNumber R G) {a1 a2 b0 : Int} {σ : ab_SG} (h : (fw_c b0 ≠ 0 → sp_m_go [(2, 93, 0)] σ (fun rv σ2 => G 15 [some (2, 93, 0), some (0, 0, a1), some (0, 0, a2)] (rv.toList ++ []) σ2)) ∧ (fw_c b0 = 0 → (0 ≤ fw_c 0 ∧ fw_c 0 ≤ 1) ∧ R (some (0, 0, 0)) σ)) : G 6 [some (2, 93, 0), some (0, 0, a1), some (0, 0, a2)] [(0, 0, b0)] σ := fw_on hG [6, 15] 200 h
theorem fs_m_readNumber_15 {G : fw_K} {R : fw_KR} (hG : fw_cls st_m_readNumber R G) {a1 a2 : Int} {σ : ab_SG} (h : (0 ≤ fw_c 1 ∧ fw_c 1 ≤ 1) ∧ R (some (0, 0, 1)) σ) : G 15 [some (2, 93, 0), some (0, 0, a1), some (0, 0, a2)] [] σ := fw_on hG [6, 15] 200 h
abbrev fk_m_readEnd : List fw_CR := [(168, 1, true, 11, 0, sp_m_bad), (182, 0, true, 11, 1, sp_m_go), (185, 1, true, 11, 0, sp_m_isSign)]
abbrev st_m_readEnd : fw_K → fw_KR → fw_K := fw_st vwCl nn_sh nn_kd fw_kv fw_wc (nn_KI20.map (fun x => x.1)) (nn_KJ20.map (fun x => x.1)) (nn_PF20.map (fun x => x.1)) (nn_PS20.map (fun x => x.1)) fk_m_readEnd 2 nn_dt235 1 1
theorem fs_m_readEnd_0 {G : fw_K} {R : fw_KR} (hG : fw_cls st_m_readEnd R G) {σ : ab_SG} (h : sp_m_isSign [(2, 93, 0), (0, 0, 59)] σ (fun rv σ2 => G 6 [some (2, 93, 0)] (rv.toList ++ []) σ2)) : G 0 [some (2, 93, 0)] [] σ := fw_on hG [6, 14, 19] 200 h
theorem fs_m_readEnd_6 {G : fw_K} {R : fw_KR} (hG : fw_cls st_m_readEnd R G) {b0 : Int} {σ : ab_SG} (h : (fw_c b0 ≠ 0 → sp_m_go [(2, 93, 0)] σ (fun rv σ2 => G 19 [some (2, 93, 0)] (rv.toList ++ []) σ2)) ∧ (fw_c b0 = 0 → sp_m_bad [(2, 93, 0), (0, 0, 1)] σ (fun rv σ2 => G 14 [some (2, 93, 0)] (rv.toList ++ []) σ2))) : G 6 [some (2, 93, 0)] [(0, 0, b0)] σ := fw_on hG [6, 14, 19] 200 h
theorem fs_m_readEnd_19 {G : fw_K} {R : fw_KR} (hG : fw_cls st_m_readEnd R G) {σ : ab_SG} (h : (0 ≤ fw_c 1 ∧ fw_c 1 ≤ 1) ∧ R (some (0, 0, 1)) σ) : G 19 [some (2, 93, 0)] [] σ := fw_on hG [6, 14, 19] 200 h
theorem fs_m_readEnd_14 {G : fw_K} {R : fw_KR} (hG : fw_cls st_m_readEnd R G) {b0 : Int} {σ : ab_SG} (h : (0 ≤ fw_c b0 ∧ fw_c b0 ≤ 1) ∧ R (some (0, 0, b0)) σ) : G 14 [some (2, 93, 0)] [(0, 0, b0)] σ := fw_on hG [6, 14, 19] 200 h
abbrev fk_m_has : List fw_CR := []
abbrev st_m_has : fw_K → fw_KR → fw_K := fw_st vwCl nn_sh nn_kd fw_kv fw_wc (nn_KI20.map (fun x => x.1)) (nn_KJ20.map (fun x => x.1)) (nn_PF20.map (fun x => x.1)) (nn_PS20.map (fun x => x.1)) fk_m_has 0 nn_dt230 2 1
theorem fs_m_has_0 {G : fw_K} {R : fw_KR} (hG : fw_cls st_m_has R G) {s x : Int} {σ : ab_SG} (h : (fw_c (fw_op 8 (fw_op 6 s x) 1) ≠ fw_c 1 → (0 ≤ fw_c 0 ∧ fw_c 0 ≤ 1) ∧ R (some (0, 0, 0)) σ) ∧ (fw_c (fw_op 8 (fw_op 6 s x) 1) = fw_c 1 → (0 ≤ fw_c 1 ∧ fw_c 1 ≤ 1) ∧ R (some (0, 0, 1)) σ)) : G 0 [some (0, 0, s), some (0, 0, x)] [] σ := fw_on hG [] 200 h
abbrev fk_m_findIn : List fw_CR := []
abbrev st_m_findIn : fw_K → fw_KR → fw_K := fw_st vwCl nn_sh nn_kd fw_kv fw_wc (nn_KI20.map (fun x => x.1)) (nn_KJ20.map (fun x => x.1)) (nn_PF20.map (fun x => x.1)) (nn_PS20.map (fun x => x.1)) fk_m_findIn 0 nn_dt224 6 0
theorem fs_m_findIn_0 {G : fw_K} {R : fw_KR} (hG : fw_cls st_m_findIn R G) {b n w : Int} {σ : ab_SG} (h : G 3 [some (2, 100, 0), some (0, 0, b), some (0, 0, n), some (1, 0, w), none, some (0, 0, 0)] [] σ) : G 0 [some (2, 100, 0), some (0, 0, b), some (0, 0, n), some (1, 0, w), none, none] [] σ := fw_on hG [3] 200 h
theorem fs_m_findIn_3 {G : fw_K} {R : fw_KR} (hG : fw_cls st_m_findIn R G) {a1 a2 a3 a5 : Int} {σ : ab_SG} (h : (fw_c a2 ≤ fw_c a5 → R (some (0, 0, (-1))) σ) ∧ (fw_c a5 < fw_c a2 → (0 ≤ fw_c (a1 + a5) ∧ fw_c (a1 + a5) < ((20 : Nat) : Int)) ∧ ((fw_d (σ 100 (fw_c (a1 + a5)).toNat) ≠ fw_d a3 → G 3 [some (2, 100, 0), some (0, 0, a1), some (0, 0, a2), some (1, 0, a3), none, some (0, 0, a5 + 1)] [] σ) ∧ (fw_d (σ 100 (fw_c (a1 + a5)).toNat) = fw_d a3 → R (some (0, 0, a5)) σ)))) : G 3 [some (2, 100, 0), some (0, 0, a1), some (0, 0, a2), some (1, 0, a3), none, some (0, 0, a5)] [] σ := fw_on hG [3] 200 h
section
variable {l : Launch} {cy : Nat → ClassId} {ad wr cr : Nat → Nat} {D : va_G}
theorem fm_m_readNumber (hinj : nn_inj ad) : fw_H l cy ad wr cr D 227 2 sp_m_readNumber := fw_mk hinj (⟨"NameNotesModel", "readNumber", "(II)Z"⟩, prog_14_method_25_code, 3, (Option.some Jvm.ClassFile.FieldType.boolean), 2, true, 1) rfl rfl nn_KI20_ok nn_KJ20_ok nn_PF20_ok nn_PS20_ok (by decide +kernel) rfl rfl (List.forall_mem_cons.mpr ⟨fw_row nn_PM20_ok (x := 178) (k := 0) (mn := 225) (np := 2) (ob := true) (ci := 11) (⟨"NameNotesModel", "isNumber", "(II)Z"⟩, prog_14_method_24_code, 3, (Option.some Jvm.ClassFile.FieldType.boolean), 2, true, 1) rfl (by decide +kernel) rfl rfl (by decide) (fun _ => ⟨_, _, rfl⟩) (fm_m_isNumber hinj), (List.forall_mem_cons.mpr ⟨fw_row nn_PM20_ok (x := 182) (k := 0) (mn := 212) (np := 0) (ob := true) (ci := 11) (⟨"NameNotesModel", "go", "()V"⟩, prog_14_method_17_code, 5, (Option.none : Option Jvm.ClassFile.FieldType), 0, true, 4) rfl (by decide +kernel) rfl rfl (by decide) (fun _ => ⟨_, _, rfl⟩) (fm_m_go hinj), (fun _ h => absurd h List.not_mem_nil)⟩)⟩) (fun as σ K h => by
  obtain ⟨a, b, e, p, rfl, hab, hm, h0, h1⟩ := h
  refine ⟨rfl, fun G hG => fs_m_readNumber_0 hG ⟨a, b, e, p, rfl, hab, hm.1, fun q σ' hM h10 => ?_, fun q qa qb => ?_⟩⟩
  · exact fs_m_readNumber_6 hG ⟨fun z => absurd fw_c0 z, fun _ => ⟨fw_01, h0 q σ' hM h10⟩⟩
  · refine fs_m_readNumber_6 hG ⟨fun _ => mt_go (mt_ups hm (Or.inr ⟨rfl, Nat.le_refl _⟩)) (fun σ' hM hs => fs_m_readNumber_15 hG ⟨fw_11, h1 q qa qb σ' ?_ ?_ hs⟩), fun z => absurd (fw_c1.symm.trans z) (by decide)⟩
    · exact fw_okM_tr (fw_okM_ups (fw_okM_refl _ _) (by decide)) hM (by decide)
    · exact (hM 93 13 (by decide)).trans ab_ups_eq)
theorem fm_m_readEnd (hinj : nn_inj ad) : fw_H l cy ad wr cr D 235 2 sp_m_readEnd := fw_mk hinj (⟨"NameNotesModel", "readEnd", "()Z"⟩, prog_14_method_26_code, 1, (Option.some Jvm.ClassFile.FieldType.boolean), 0, true, 1) rfl rfl nn_KI20_ok nn_KJ20_ok nn_PF20_ok nn_PS20_ok (by decide +kernel) rfl rfl (List.forall_mem_cons.mpr ⟨fw_row nn_PM20_ok (x := 168) (k := 0) (mn := 221) (np := 1) (ob := true) (ci := 11) (⟨"NameNotesModel", "bad", "(I)Z"⟩, prog_14_method_23_code, 2, (Option.some Jvm.ClassFile.FieldType.boolean), 1, true, 1) rfl (by decide +kernel) rfl rfl (by decide) (fun _ => ⟨_, _, rfl⟩) (fm_m_bad hinj), (List.forall_mem_cons.mpr ⟨fw_row nn_PM20_ok (x := 182) (k := 0) (mn := 212) (np := 0) (ob := true) (ci := 11) (⟨"NameNotesModel", "go", "()V"⟩, prog_14_method_17_code, 5, (Option.none : Option Jvm.ClassFile.FieldType), 0, true, 4) rfl (by decide +kernel) rfl rfl (by decide) (fun _ => ⟨_, _, rfl⟩) (fm_m_go hinj), (List.forall_mem_cons.mpr ⟨fw_row nn_PM20_ok (x := 185) (k := 0) (mn := 236) (np := 1) (ob := true) (ci := 11) (⟨"NameNotesModel", "isSign", "(I)Z"⟩, prog_14_method_21_code, 2, (Option.some Jvm.ClassFile.FieldType.boolean), 1, true, 1) rfl (by decide +kernel) rfl rfl (by decide) (fun _ => ⟨_, _, rfl⟩) (fm_m_isSign hinj), (fun _ h => absurd h List.not_mem_nil)⟩)⟩)⟩) (fun as σ K h => by
  obtain ⟨e, p, rfl, hm, h0, h1⟩ := h
  have mk := mg_kind hm.1
  refine ⟨rfl, fun G hG => fs_m_readEnd_0 hG ⟨59, e, p, rfl, Or.inl rfl, hm.1, fs_m_readEnd_6 hG ⟨fun z => ?_, fun z => ?_⟩⟩⟩
  · exact mt_go hm (fun σ' hM hs => fs_m_readEnd_19 hG ⟨fw_11, h1 (fw_bo_ne z) σ' hM hs⟩)
  · refine ⟨1, rfl, by decide, mk.2.2.2.2, fun σ' hM h10 _ => fs_m_readEnd_14 hG ⟨fw_01, h0 (fw_bo_eq z) σ' (fw_okM_tr (fw_okM_refl _ _) hM (by decide)) ?_⟩⟩
    rw [h10]
    split <;> rfl)
theorem fm_m_has (hinj : nn_inj ad) : fw_H l cy ad wr cr D 230 0 sp_m_has := fw_mk hinj (⟨"NameNotesModel", "has", "(II)Z"⟩, prog_14_method_9_code, 2, (Option.some Jvm.ClassFile.FieldType.boolean), 2, false, 1) rfl rfl nn_KI20_ok nn_KJ20_ok nn_PF20_ok nn_PS20_ok (by decide +kernel) rfl rfl (fun _ h => absurd h List.not_mem_nil) (fun as σ K h => by
  obtain ⟨s, x, rfl, h⟩ := h
  refine ⟨rfl, fun G hG => fs_m_has_0 hG ?_⟩
  rw [fw_c1]
  unfold pr_hs at h
  refine ⟨fun q => ⟨fw_01, ?_⟩, fun q => ⟨by decide, ?_⟩⟩
  · rw [fw_bo_f (fun z => q (of_decide_eq_true z))] at h; exact h
  · rw [fw_bo_t (decide_eq_true q)] at h; exact h)
theorem fm_m_findIn (hinj : nn_inj ad) : fw_H l cy ad wr cr D 224 0 sp_m_findIn := fw_mk hinj (⟨"NameNotesModel", "findIn", "([JIIJ)I"⟩, prog_14_method_29_code, 6, (Option.some Jvm.ClassFile.FieldType.int), 4, false, 0) rfl rfl nn_KI20_ok nn_KJ20_ok nn_PF20_ok nn_PS20_ok (by decide +kernel) rfl rfl (fun _ h => absurd h List.not_mem_nil) (fun as σ K h => by
  obtain ⟨b, n, w, rfl, hbn, hw, hd, h⟩ := h
  have en : fw_c (n : Int) = n := fw_c_id (by omega) (by omega)
  refine ⟨rfl, fun G hG => fs_m_findIn_0 hG ?_⟩
  have key : ∀ (f i : Nat), i + f = n → K (some (0, 0, rw_fd (fun j => σ 100 (b + j)) w f i)) σ → G 3 [some (2, 100, 0), some (0, 0, (b : Int)), some (0, 0, (n : Int)), some (1, 0, w), none, some (0, 0, (i : Int))] [] σ := by
    intro f
    induction f with
    | zero =>
      intro i hi q
      have ei : fw_c (i : Int) = i := fw_c_id (by omega) (by omega)
      refine fs_m_findIn_3 hG ?_
      rw [en, ei]
      exact ⟨fun _ => q, fun z => absurd z (by omega)⟩
    | succ f ih =>
      intro i hi q
      have ei : fw_c (i : Int) = i := fw_c_id (by omega) (by omega)
      have ebi : fw_c ((b : Int) + i) = ((b + i : Nat) : Int) := by rw [fw_c_id (by omega) (by omega)]; omega
      replace q : K (some (0, 0, if σ 100 (b + i) = w then (i : Int) else rw_fd (fun j => σ 100 (b + j)) w f (i + 1))) σ := q
      refine fs_m_findIn_3 hG ?_
      rw [en, ei, ebi, Int.toNat_natCast, hd i (by omega), hw]
      refine ⟨fun z => absurd z (by omega), fun _ => ⟨⟨Int.natCast_nonneg _, by omega⟩, fun z => ?_, fun z => ?_⟩⟩
      · rw [if_neg z] at q
        exact ih (i + 1) (by omega) q
      · rw [if_pos z] at q
        exact q
  exact key n 0 (by omega) h)
end
end
section
/-! the reference's names: new ones, and one that is told -/
theorem rw_rf {a c : Nat → Int} {w : Int} (hw : rf_ok 7 w) : ∀ (f i : Nat), (∀ j : Nat, i ≤ j → j < i + f → rf_ok 7 (c j) ∧ a j = rf_w 7 (c j)) → rw_fd a (rf_w 7 w) f i = rw_fd c w f i := by
  intro f
  induction f with
  | zero => intro i _; rfl
  | succ f ih =>
    intro i h
    have hi := h i (Nat.le_refl _) (by omega)
    unfold rw_fd
    rw [ih (i + 1) (fun j h1 h2 => h j (by omega) (by omega)), hi.2]
    by_cases e : c i = w
    · rw [if_pos e, e, if_pos rfl]
    · rw [if_neg e, if_neg (fun z => e (rf_inj 7 _ _ hi.1 hw z))]
/-- the reference's names from b on are the row k's -/
def rn_k (σ A : ab_SG) (b k : Nat) (n : Int) : Prop := ∀ j : Nat, (j : Int) < n → rf_ok 7 (A k j) ∧ σ 100 (b + j) = rf_w 7 (A k j)
theorem rn_can {σ A : ab_SG} {b k : Nat} {n : Int} (h : rn_k σ A b k n) : ∀ j : Nat, j < n.toNat → fw_d (σ 100 (b + j)) = σ 100 (b + j) := by
  intro j hj
  have b1 := rf_w_in 7 (A k j)
  have hB := rf_B7
  rw [(h j (by omega)).2]
  exact fw_d_id (by omega) (by omega)
def sp_m_isOne : fw_SP := fun as σ K => ∃ (b k : Nat) (n : Int) (A : ab_SG) (e : tk_E) (p : Nat), as = [(2, 93, 0), (0, 0, (b : Int)), (0, 0, n)] ∧ (0 ≤ n ∧ n ≤ 9 ∧ b + n.toNat ≤ 20) ∧ mt_is σ e p ∧ rn_k σ A b k n ∧
  (pr_sk A e k n p ≠ 0 → md_no σ (pr_sk A e k n p) K) ∧ (pr_sk A e k n p = 0 → 0 ≤ pr_ix A e k n p → pr_ix A e k n p < n → K (some (0, 0, 1)) (ab_ups σ 93 13 (pr_ix A e k n p)))
def rn_is (σ A : ab_SG) : Prop := (σ 96 0 = A 49 11 ∧ 0 ≤ A 49 11 ∧ A 49 11 ≤ 9) ∧ (σ 96 1 = A 49 12 ∧ 0 ≤ A 49 12 ∧ A 49 12 ≤ 6) ∧ (σ 96 2 = A 49 13 ∧ 0 ≤ A 49 13 ∧ A 49 13 ≤ 5) ∧ rn_k σ A 0 57 (A 49 11) ∧ rn_k σ A 9 58 (A 49 12) ∧ rn_k σ A 15 59 (A 49 13)
def sp_m_readNew : fw_SP := fun as σ K => ∃ (x : Nat) (A : ab_SG) (e : tk_E) (p : Nat), as = [(2, 93, 0), (0, 0, (x : Int))] ∧ x < 20 ∧ mt_is σ e p ∧ rn_is σ A ∧
  (pr_new A e p ≠ 0 → md_no σ (pr_new A e p) K) ∧ (pr_new A e p = 0 → (tk e p).1 = 2 → rf_ok 7 (pr_wd e p) → ∀ σ' : ab_SG, ab_okM go_M (ab_ups σ 100 x (rf_w 7 (pr_wd e p))) σ' → mt_is σ' e (tn e p) → K (some (0, 0, 1)) σ')
theorem rw_fd_ge (a : Nat → Int) (w : Int) : ∀ (f i : Nat), -1 ≤ rw_fd a w f i := by
  intro f
  induction f with
  | zero => intro i; exact Int.le_refl _
  | succ f ih =>
    intro i
    unfold rw_fd
    split
    · omega
    · exact ih (i + 1)
theorem rw_fd_c (a : Nat → Int) (w : Int) (n : Nat) (hn : n ≤ 20) : fw_c (rw_fd a w n 0) = rw_fd a w n 0 ∧ -1 ≤ rw_fd a w n 0 := by
  have h := rw_fd_le a w n 0
  have g := rw_fd_ge a w n 0
  exact ⟨fw_c_id (by omega) (by omega), g⟩
abbrev fk_m_isOne : List fw_CR := [(168, 1, true, 11, 0, sp_m_bad), (199, 0, true, 11, 2, sp_m_isName), (203, 4, false, 0, 0, sp_m_findIn)]
abbrev st_m_isOne : fw_K → fw_KR → fw_K := fw_st vwCl nn_sh nn_kd fw_kv fw_wc (nn_KI20.map (fun x => x.1)) (nn_KJ20.map (fun x => x.1)) (nn_PF20.map (fun x => x.1)) (nn_PS20.map (fun x => x.1)) fk_m_isOne 3 nn_dt229 3 1
theorem fs_m_isOne_0 {G : fw_K} {R : fw_KR} (hG : fw_cls st_m_isOne R G) {b n : Int} {σ : ab_SG} (h : sp_m_isName [(2, 93, 0)] σ (fun rv σ2 => G 4 [some (2, 93, 0), some (0, 0, b), some (0, 0, n)] (rv.toList ++ []) σ2)) : G 0 [some (2, 93, 0), some (0, 0, b), some (0, 0, n)] [] σ := fw_on hG [4, 12, 27, 43] 200 h
theorem fs_m_isOne_4 {G : fw_K} {R : fw_KR} (hG : fw_cls st_m_isOne R G) {a1 a2 b0 : Int} {σ : ab_SG} (h : (fw_c b0 ≠ 0 → sp_m_findIn [(2, 100, 0), (0, 0, a1), (0, 0, a2), (1, 0, σ 93 12)] σ (fun rv σ2 => G 27 [some (2, 93, 0), some (0, 0, a1), some (0, 0, a2)] (rv.toList ++ [(2, 93, 0)]) σ2)) ∧ (fw_c b0 = 0 → sp_m_bad [(2, 93, 0), (0, 0, 1)] σ (fun rv σ2 => G 12 [some (2, 93, 0), some (0, 0, a1), some (0, 0, a2)] (rv.toList ++ []) σ2))) : G 4 [some (2, 93, 0), some (0, 0, a1), some (0, 0, a2)] [(0, 0, b0)] σ := fw_on hG [4, 12, 27, 43] 200 h
theorem fs_m_isOne_27 {G : fw_K} {R : fw_KR} (hG : fw_cls st_m_isOne R G) {a1 a2 b0 : Int} {σ : ab_SG} (h : (fw_c (fw_c b0) ≠ fw_c (-1) → (0 ≤ fw_c 1 ∧ fw_c 1 ≤ 1) ∧ R (some (0, 0, 1)) (ab_ups σ 93 13 (fw_c b0))) ∧ (fw_c (fw_c b0) = fw_c (-1) → sp_m_bad [(2, 93, 0), (0, 0, 3)] (ab_ups σ 93 13 (fw_c b0)) (fun rv σ2 => G 43 [some (2, 93, 0), some (0, 0, a1), some (0, 0, a2)] (rv.toList ++ []) σ2))) : G 27 [some (2, 93, 0), some (0, 0, a1), some (0, 0, a2)] [(0, 0, b0), (2, 93, 0)] σ := fw_on hG [4, 12, 27, 43] 200 h
theorem fs_m_isOne_12 {G : fw_K} {R : fw_KR} (hG : fw_cls st_m_isOne R G) {a1 a2 b0 : Int} {σ : ab_SG} (h : (0 ≤ fw_c b0 ∧ fw_c b0 ≤ 1) ∧ R (some (0, 0, b0)) σ) : G 12 [some (2, 93, 0), some (0, 0, a1), some (0, 0, a2)] [(0, 0, b0)] σ := fw_on hG [4, 12, 27, 43] 200 h
theorem fs_m_isOne_43 {G : fw_K} {R : fw_KR} (hG : fw_cls st_m_isOne R G) {a1 a2 b0 : Int} {σ : ab_SG} (h : (fw_c b0 = 0 → (0 ≤ fw_c 0 ∧ fw_c 0 ≤ 1) ∧ R (some (0, 0, 0)) σ) ∧ (fw_c b0 ≠ 0 → (0 ≤ fw_c 1 ∧ fw_c 1 ≤ 1) ∧ R (some (0, 0, 1)) σ)) : G 43 [some (2, 93, 0), some (0, 0, a1), some (0, 0, a2)] [(0, 0, b0)] σ := fw_on hG [4, 12, 27, 43] 200 h
abbrev fk_m_readNew : List fw_CR := [(168, 1, true, 11, 0, sp_m_bad), (182, 0, true, 11, 1, sp_m_go), (199, 0, true, 11, 2, sp_m_isName), (203, 4, false, 0, 0, sp_m_findIn)]
abbrev st_m_readNew : fw_K → fw_KR → fw_K := fw_st vwCl nn_sh nn_kd fw_kv fw_wc (nn_KI20.map (fun x => x.1)) (nn_KJ20.map (fun x => x.1)) (nn_PF20.map (fun x => x.1)) (nn_PS20.map (fun x => x.1)) fk_m_readNew 3 nn_dt222 3 1
theorem fs_m_readNew_0 {G : fw_K} {R : fw_KR} (hG : fw_cls st_m_readNew R G) {x : Int} {σ : ab_SG} (h : sp_m_isName [(2, 93, 0)] σ (fun rv σ2 => G 4 [some (2, 93, 0), some (0, 0, x), none] (rv.toList ++ []) σ2)) : G 0 [some (2, 93, 0), some (0, 0, x), none] [] σ := fw_on hG [4, 12, 31, 54, 77, 81, 86, 96, 111] 200 h
theorem fs_m_readNew_4 {G : fw_K} {R : fw_KR} (hG : fw_cls st_m_readNew R G) {a1 b0 : Int} {σ : ab_SG} (h : (fw_c b0 ≠ 0 → (0 ≤ fw_c 0 ∧ fw_c 0 < ((232 : Nat) : Int)) ∧ (sp_m_findIn [(2, 100, 0), (0, 0, 0), (0, 0, σ 96 (fw_c 0).toNat), (1, 0, σ 93 12)] σ (fun rv σ2 => G 31 [some (2, 93, 0), some (0, 0, a1), none] (rv.toList ++ []) σ2))) ∧ (fw_c b0 = 0 → sp_m_bad [(2, 93, 0), (0, 0, 1)] σ (fun rv σ2 => G 12 [some (2, 93, 0), some (0, 0, a1), none] (rv.toList ++ []) σ2))) : G 4 [some (2, 93, 0), some (0, 0, a1), none] [(0, 0, b0)] σ := fw_on hG [4, 12, 31, 54, 77, 81, 86, 96, 111] 200 h
theorem fs_m_readNew_31 {G : fw_K} {R : fw_KR} (hG : fw_cls st_m_readNew R G) {a1 b0 : Int} {σ : ab_SG} (h : (fw_c b0 ≠ fw_c (-1) → G 81 [some (2, 93, 0), some (0, 0, a1), none] [] σ) ∧ (fw_c b0 = fw_c (-1) → (0 ≤ fw_c 1 ∧ fw_c 1 < ((232 : Nat) : Int)) ∧ (sp_m_findIn [(2, 100, 0), (0, 0, 9), (0, 0, σ 96 (fw_c 1).toNat), (1, 0, σ 93 12)] σ (fun rv σ2 => G 54 [some (2, 93, 0), some (0, 0, a1), none] (rv.toList ++ []) σ2)))) : G 31 [some (2, 93, 0), some (0, 0, a1), none] [(0, 0, b0)] σ := fw_on hG [4, 12, 31, 54, 77, 81, 86, 96, 111] 200 h
theorem fs_m_readNew_12 {G : fw_K} {R : fw_KR} (hG : fw_cls st_m_readNew R G) {a1 b0 : Int} {σ : ab_SG} (h : (0 ≤ fw_c b0 ∧ fw_c b0 ≤ 1) ∧ R (some (0, 0, b0)) σ) : G 12 [some (2, 93, 0), some (0, 0, a1), none] [(0, 0, b0)] σ := fw_on hG [4, 12, 31, 54, 77, 81, 86, 96, 111] 200 h
theorem fs_m_readNew_81 {G : fw_K} {R : fw_KR} (hG : fw_cls st_m_readNew R G) {a1 : Int} {σ : ab_SG} (h : G 86 [some (2, 93, 0), some (0, 0, a1), none] [(0, 0, 1)] σ) : G 81 [some (2, 93, 0), some (0, 0, a1), none] [] σ := fw_on hG [4, 12, 31, 54, 77, 81, 86, 96, 111] 200 h
theorem fs_m_readNew_54 {G : fw_K} {R : fw_KR} (hG : fw_cls st_m_readNew R G) {a1 b0 : Int} {σ : ab_SG} (h : (fw_c b0 ≠ fw_c (-1) → G 81 [some (2, 93, 0), some (0, 0, a1), none] [] σ) ∧ (fw_c b0 = fw_c (-1) → (0 ≤ fw_c 2 ∧ fw_c 2 < ((232 : Nat) : Int)) ∧ (sp_m_findIn [(2, 100, 0), (0, 0, 15), (0, 0, σ 96 (fw_c 2).toNat), (1, 0, σ 93 12)] σ (fun rv σ2 => G 77 [some (2, 93, 0), some (0, 0, a1), none] (rv.toList ++ []) σ2)))) : G 54 [some (2, 93, 0), some (0, 0, a1), none] [(0, 0, b0)] σ := fw_on hG [4, 12, 31, 54, 77, 81, 86, 96, 111] 200 h
theorem fs_m_readNew_86 {G : fw_K} {R : fw_KR} (hG : fw_cls st_m_readNew R G) {a1 b0 : Int} {σ : ab_SG} (h : (fw_c b0 = 0 → (0 ≤ fw_c a1 ∧ fw_c a1 < ((20 : Nat) : Int)) ∧ True ∧ (sp_m_go [(2, 93, 0)] (ab_ups σ 100 (fw_c a1).toNat (fw_d (σ 93 12))) (fun rv σ2 => G 111 [some (2, 93, 0), some (0, 0, a1), some (0, 0, b0)] (rv.toList ++ []) σ2))) ∧ (fw_c b0 ≠ 0 → sp_m_bad [(2, 93, 0), (0, 0, 3)] σ (fun rv σ2 => G 96 [some (2, 93, 0), some (0, 0, a1), some (0, 0, b0)] (rv.toList ++ []) σ2))) : G 86 [some (2, 93, 0), some (0, 0, a1), none] [(0, 0, b0)] σ := fw_on hG [4, 12, 31, 54, 77, 81, 86, 96, 111] 200 h
theorem fs_m_readNew_77 {G : fw_K} {R : fw_KR} (hG : fw_cls st_m_readNew R G) {a1 b0 : Int} {σ : ab_SG} (h : (fw_c b0 = fw_c (-1) → G 86 [some (2, 93, 0), some (0, 0, a1), none] [(0, 0, 0)] σ) ∧ (fw_c b0 ≠ fw_c (-1) → G 81 [some (2, 93, 0), some (0, 0, a1), none] [] σ)) : G 77 [some (2, 93, 0), some (0, 0, a1), none] [(0, 0, b0)] σ := fw_on hG [4, 12, 31, 54, 77, 81, 86, 96, 111] 200 h
theorem fs_m_readNew_111 {G : fw_K} {R : fw_KR} (hG : fw_cls st_m_readNew R G) {a1 a2 : Int} {σ : ab_SG} (h : (0 ≤ fw_c 1 ∧ fw_c 1 ≤ 1) ∧ R (some (0, 0, 1)) σ) : G 111 [some (2, 93, 0), some (0, 0, a1), some (0, 0, a2)] [] σ := fw_on hG [4, 12, 31, 54, 77, 81, 86, 96, 111] 200 h
theorem fs_m_readNew_96 {G : fw_K} {R : fw_KR} (hG : fw_cls st_m_readNew R G) {a1 a2 b0 : Int} {σ : ab_SG} (h : (0 ≤ fw_c b0 ∧ fw_c b0 ≤ 1) ∧ R (some (0, 0, b0)) σ) : G 96 [some (2, 93, 0), some (0, 0, a1), some (0, 0, a2)] [(0, 0, b0)] σ := fw_on hG [4, 12, 31, 54, 77, 81, 86, 96, 111] 200 h
section
variable {l : Launch} {cy : Nat → ClassId} {ad wr cr : Nat → Nat} {D : va_G}
theorem fm_m_isOne (hinj : nn_inj ad) : fw_H l cy ad wr cr D 229 3 sp_m_isOne := fw_mk hinj (⟨"NameNotesModel", "isOne", "(II)Z"⟩, prog_14_method_31_code, 3, (Option.some Jvm.ClassFile.FieldType.boolean), 2, true, 1) rfl rfl nn_KI20_ok nn_KJ20_ok nn_PF20_ok nn_PS20_ok (by decide +kernel) rfl rfl (List.forall_mem_cons.mpr ⟨fw_row nn_PM20_ok (x := 168) (k := 0) (mn := 221) (np := 1) (ob := true) (ci := 11) (⟨"NameNotesModel", "bad", "(I)Z"⟩, prog_14_method_23_code, 2, (Option.some Jvm.ClassFile.FieldType.boolean), 1, true, 1) rfl (by decide +kernel) rfl rfl (by decide) (fun _ => ⟨_, _, rfl⟩) (fm_m_bad hinj), (List.forall_mem_cons.mpr ⟨fw_row nn_PM20_ok (x := 199) (k := 0) (mn := 223) (np := 0) (ob := true) (ci := 11) (⟨"NameNotesModel", "isName", "()Z"⟩, prog_14_method_22_code, 2, (Option.some Jvm.ClassFile.FieldType.boolean), 0, true, 1) rfl (by decide +kernel) rfl rfl (by decide) (fun _ => ⟨_, _, rfl⟩) (fm_m_isName hinj), (List.forall_mem_cons.mpr ⟨fw_row nn_PM20_ok (x := 203) (k := 0) (mn := 224) (np := 4) (ob := false) (ci := 0) (⟨"NameNotesModel", "findIn", "([JIIJ)I"⟩, prog_14_method_29_code, 6, (Option.some Jvm.ClassFile.FieldType.int), 4, false, 0) rfl (by decide +kernel) rfl rfl (by decide) (fun q => by cases q) (fm_m_findIn hinj), (fun _ h => absurd h List.not_mem_nil)⟩)⟩)⟩) (fun as σ K h => by
  obtain ⟨b, k, n, A, e, p, rfl, hn, hm, hr, h0, h1⟩ := h
  have mk := mg_kind hm.1
  have en : ((n.toNat : Nat) : Int) = n := by omega
  have em : fw_c (-1) = -1 := fw_c_id (by decide) (by decide)
  unfold pr_sk at h0 h1
  refine ⟨rfl, fun G hG => fs_m_isOne_0 hG ⟨e, p, rfl, hm.1, fs_m_isOne_4 hG ⟨fun z => ?_, fun z => ?_⟩⟩⟩
  · have hq := fw_bo_ne z
    rw [if_pos hq] at h0 h1
    obtain ⟨-, ok, e12⟩ := hm.1.2.2.2.2.1 hq.1
    have b1 := rf_w_in 7 (tk e p).2.2.2.1
    have hB := rf_B7
    have d1 : fw_d (σ 93 12) = σ 93 12 := by rw [e12]; exact fw_d_id (by omega) (by omega)
    refine ⟨b, n.toNat, _, by rw [en], hn.2.2, d1, rn_can hr, ?_⟩
    have ef : rw_fd (fun j => σ 100 (b + j)) (σ 93 12) n.toNat 0 = pr_ix A e k n p := by
      rw [e12]
      exact rw_rf ok n.toNat 0 (fun j _ hj => hr j (by omega))
    rw [ef]
    have hl := rw_fd_le (A k) (pr_wd e p) n.toNat 0
    replace hl : pr_ix A e k n p < 0 ∨ (((0 : Nat) : Int) ≤ pr_ix A e k n p ∧ pr_ix A e k n p < ((0 : Nat) : Int) + n.toNat) := by
      rcases hl with y | y
      · exact Or.inl y
      · exact Or.inr ⟨y.1, by have := y.2; show rw_fd (A k) (pr_wd e p) n.toNat 0 < _; omega⟩
    have hge : -1 ≤ pr_ix A e k n p := rw_fd_ge _ _ _ _
    generalize pr_ix A e k n p = x at h0 h1 hl hge ⊢
    have ex : fw_c x = x := fw_c_id (by omega) (by omega)
    refine fs_m_isOne_27 hG ?_
    rw [ex, ex, em]
    refine ⟨fun y => ⟨fw_11, ?_⟩, fun y => ?_⟩
    · rw [if_neg (show ¬ x < 0 by omega)] at h1
      exact h1 rfl (by omega) (by omega)
    · rw [if_pos (show x < 0 by omega)] at h0
      have k7 : ab_ups σ 93 13 x 93 7 = σ 93 7 := ab_ups_ne (by decide)
      refine ⟨3, rfl, by decide, by rw [k7]; exact mk.2.2.2.2, fun σ' hM h10 _ => fs_m_isOne_43 hG ⟨fun _ => ⟨fw_01, h0 (by decide) σ' (fw_okM_tr (fw_okM_ups (fw_okM_refl _ _) (by decide)) hM (by decide)) ?_⟩, fun v => absurd fw_c0 v⟩⟩
      rw [h10, k7, if_neg (show ¬ σ 93 7 = 1 by have := mk.1.mpr hq.1; omega)]
  · have hq := fw_bo_eq z
    rw [if_neg hq] at h0
    refine ⟨1, rfl, by decide, mk.2.2.2.2, fun σ' hM h10 _ => fs_m_isOne_12 hG ⟨fw_01, h0 (by decide) σ' (fw_okM_tr (fw_okM_refl _ _) hM (by decide)) ?_⟩⟩
    rw [h10]
    split <;> rfl)
theorem fm_m_readNew (hinj : nn_inj ad) : fw_H l cy ad wr cr D 222 3 sp_m_readNew := fw_mk hinj (⟨"NameNotesModel", "readNew", "(I)Z"⟩, prog_14_method_30_code, 3, (Option.some Jvm.ClassFile.FieldType.boolean), 1, true, 1) rfl rfl nn_KI20_ok nn_KJ20_ok nn_PF20_ok nn_PS20_ok (by decide +kernel) rfl rfl (List.forall_mem_cons.mpr ⟨fw_row nn_PM20_ok (x := 168) (k := 0) (mn := 221) (np := 1) (ob := true) (ci := 11) (⟨"NameNotesModel", "bad", "(I)Z"⟩, prog_14_method_23_code, 2, (Option.some Jvm.ClassFile.FieldType.boolean), 1, true, 1) rfl (by decide +kernel) rfl rfl (by decide) (fun _ => ⟨_, _, rfl⟩) (fm_m_bad hinj), (List.forall_mem_cons.mpr ⟨fw_row nn_PM20_ok (x := 182) (k := 0) (mn := 212) (np := 0) (ob := true) (ci := 11) (⟨"NameNotesModel", "go", "()V"⟩, prog_14_method_17_code, 5, (Option.none : Option Jvm.ClassFile.FieldType), 0, true, 4) rfl (by decide +kernel) rfl rfl (by decide) (fun _ => ⟨_, _, rfl⟩) (fm_m_go hinj), (List.forall_mem_cons.mpr ⟨fw_row nn_PM20_ok (x := 199) (k := 0) (mn := 223) (np := 0) (ob := true) (ci := 11) (⟨"NameNotesModel", "isName", "()Z"⟩, prog_14_method_22_code, 2, (Option.some Jvm.ClassFile.FieldType.boolean), 0, true, 1) rfl (by decide +kernel) rfl rfl (by decide) (fun _ => ⟨_, _, rfl⟩) (fm_m_isName hinj), (List.forall_mem_cons.mpr ⟨fw_row nn_PM20_ok (x := 203) (k := 0) (mn := 224) (np := 4) (ob := false) (ci := 0) (⟨"NameNotesModel", "findIn", "([JIIJ)I"⟩, prog_14_method_29_code, 6, (Option.some Jvm.ClassFile.FieldType.int), 4, false, 0) rfl (by decide +kernel) rfl rfl (by decide) (fun q => by cases q) (fm_m_findIn hinj), (fun _ h => absurd h List.not_mem_nil)⟩)⟩)⟩)⟩) (fun as σ K h => by
  obtain ⟨x, A, e, p, rfl, hx, hm, ⟨⟨c0, c1, c2⟩, ⟨d0, d1, d2⟩, ⟨g0, g1, g2⟩, r1, r2, r3⟩, h0, h1⟩ := h
  have mk := mg_kind hm.1
  have em : fw_c (-1) = -1 := fw_c_id (by decide) (by decide)
  have t0 : (fw_c 0).toNat = 0 := by rw [fw_c0]; rfl
  have t1 : (fw_c 1).toNat = 1 := by rw [fw_c1]; rfl
  have t2 : (fw_c 2).toNat = 2 := by rw [fw_c_id (by decide) (by decide)]; rfl
  have u0 : 0 ≤ fw_c 0 ∧ fw_c 0 < ((232 : Nat) : Int) := by rw [fw_c0]; decide
  have u1 : 0 ≤ fw_c 1 ∧ fw_c 1 < ((232 : Nat) : Int) := by rw [fw_c1]; decide
  have u2 : 0 ≤ fw_c 2 ∧ fw_c 2 < ((232 : Nat) : Int) := by rw [fw_c_id (by decide) (by decide)]; decide
  have ex : fw_c (x : Int) = x := fw_c_id (by omega) (by omega)
  unfold pr_new at h0 h1
  refine ⟨rfl, fun G hG => fs_m_readNew_0 hG ⟨e, p, rfl, hm.1, fs_m_readNew_4 hG ⟨fun z => ⟨u0, ?_⟩, fun z => ?_⟩⟩⟩
  · have hq := fw_bo_ne z
    rw [if_pos hq] at h0 h1
    obtain ⟨-, ok, e12⟩ := hm.1.2.2.2.2.1 hq.1
    have b1 := rf_w_in 7 (tk e p).2.2.2.1
    have hB := rf_B7
    have dw : fw_d (σ 93 12) = σ 93 12 := by rw [e12]; exact fw_d_id (by omega) (by omega)
    have f1 : rw_fd (fun j => σ 100 (0 + j)) (σ 93 12) (A 49 11).toNat 0 = pr_ix A e 57 (A 49 11) p := by
      rw [e12]; exact rw_rf ok _ 0 (fun j _ hj => r1 j (by omega))
    have f2 : rw_fd (fun j => σ 100 (9 + j)) (σ 93 12) (A 49 12).toNat 0 = pr_ix A e 58 (A 49 12) p := by
      rw [e12]; exact rw_rf ok _ 0 (fun j _ hj => r2 j (by omega))
    have f3 : rw_fd (fun j => σ 100 (15 + j)) (σ 93 12) (A 49 13).toNat 0 = pr_ix A e 59 (A 49 13) p := by
      rw [e12]; exact rw_rf ok _ 0 (fun j _ hj => r3 j (by omega))
    have q1 := rw_fd_c (A 57) (pr_wd e p) (A 49 11).toNat (by omega)
    have q2 := rw_fd_c (A 58) (pr_wd e p) (A 49 12).toNat (by omega)
    have q3 := rw_fd_c (A 59) (pr_wd e p) (A 49 13).toNat (by omega)
    replace q1 : fw_c (pr_ix A e 57 (A 49 11) p) = pr_ix A e 57 (A 49 11) p ∧ -1 ≤ pr_ix A e 57 (A 49 11) p := q1
    replace q2 : fw_c (pr_ix A e 58 (A 49 12) p) = pr_ix A e 58 (A 49 12) p ∧ -1 ≤ pr_ix A e 58 (A 49 12) p := q2
    replace q3 : fw_c (pr_ix A e 59 (A 49 13) p) = pr_ix A e 59 (A 49 13) p ∧ -1 ≤ pr_ix A e 59 (A 49 13) p := q3
    have at81 : (0 ≤ pr_ix A e 57 (A 49 11) p ∨ 0 ≤ pr_ix A e 58 (A 49 12) p ∨ 0 ≤ pr_ix A e 59 (A 49 13) p) → G 81 [some (2, 93, 0), some (0, 0, (x : Int)), none] [] σ := fun y => by
      rw [if_pos y] at h0
      refine fs_m_readNew_81 hG (fs_m_readNew_86 hG ⟨fun v => absurd (fw_c1.symm.trans v) (by decide), fun _ => ⟨3, rfl, by decide, mk.2.2.2.2, fun σ' hM h10 _ => fs_m_readNew_96 hG ⟨fw_01, h0 (by decide) σ' (fw_okM_tr (fw_okM_refl _ _) hM (by decide)) ?_⟩⟩⟩)
      rw [h10, if_neg (show ¬ σ 93 7 = 1 by have := mk.1.mpr hq.1; omega)]
    rw [t0, c0]
    refine ⟨0, (A 49 11).toNat, _, by rw [Int.toNat_of_nonneg c1]; rfl, by omega, dw, rn_can r1, ?_⟩
    rw [f1]
    refine fs_m_readNew_31 hG ?_
    rw [q1.1, em]
    refine ⟨fun y => at81 (Or.inl (by omega)), fun y1 => ⟨u1, ?_⟩⟩
    rw [t1, d0]
    refine ⟨9, (A 49 12).toNat, _, by rw [Int.toNat_of_nonneg d1]; rfl, by omega, dw, rn_can r2, ?_⟩
    rw [f2]
    refine fs_m_readNew_54 hG ?_
    rw [q2.1, em]
    refine ⟨fun y => at81 (Or.inr (Or.inl (by omega))), fun y2 => ⟨u2, ?_⟩⟩
    rw [t2, g0]
    refine ⟨15, (A 49 13).toNat, _, by rw [Int.toNat_of_nonneg g1]; rfl, by omega, dw, rn_can r3, ?_⟩
    rw [f3]
    refine fs_m_readNew_77 hG ?_
    rw [q3.1, em]
    refine ⟨fun y3 => ?_, fun y => at81 (Or.inr (Or.inr (by omega)))⟩
    rw [if_neg (show ¬ (0 ≤ pr_ix A e 57 (A 49 11) p ∨ 0 ≤ pr_ix A e 58 (A 49 12) p ∨ 0 ≤ pr_ix A e 59 (A 49 13) p) by omega)] at h1
    refine fs_m_readNew_86 hG ⟨fun _ => ?_, fun v => absurd fw_c0 v⟩
    rw [ex, dw, Int.toNat_natCast]
    refine ⟨⟨Int.natCast_nonneg x, by omega⟩, trivial, mt_go (mt_ups hm (Or.inl ⟨by decide, by decide⟩)) (fun σ' hM hs => fs_m_readNew_111 hG ⟨fw_11, h1 rfl hq.1 ok σ' ?_ hs⟩)⟩
    rw [e12] at hM
    exact hM
  · have hq := fw_bo_eq z
    rw [if_neg hq] at h0
    refine ⟨1, rfl, by decide, mk.2.2.2.2, fun σ' hM h10 _ => fs_m_readNew_12 hG ⟨fw_01, h0 (by decide) σ' (fw_okM_tr (fw_okM_refl _ _) hM (by decide)) ?_⟩⟩
    rw [h10]
    split <;> rfl)
end
end
section
/-! the reference's state tells A; its lines -/
/-- the numbers told (a dare not yet told is 5 in A) -/
def rs_is (σ A : ab_SG) : Prop := σ 96 3 = A 49 14 ∧ (∀ x : Nat, (x : Int) < A 49 11 → σ 96 (5 + 19 * x) = A 52 x ∧ ∀ i : Nat, (i : Int) < A 52 x → σ 96 (6 + 19 * x + 2 * i) = A 50 (x * 9 + i) ∧ σ 96 (7 + 19 * x + 2 * i) = A 51 (x * 9 + i)) ∧
  (∀ c : Nat, (c : Int) < A 49 12 → σ 96 (176 + c) = A 54 c) ∧ (∀ j : Nat, j < 45 → σ 96 (182 + j) = A 55 j) ∧ (∀ j : Nat, (j : Int) < A 49 13 → σ 96 (227 + j) = A 56 j) ∧ (∀ j : Nat, j < 5 → A 49 13 ≤ (j : Int) → A 56 j = 5) ∧
  (∀ j : Nat, j < 5 → σ 103 j = A 64 j) ∧ σ 93 25 = A 48 3 ∧ σ 93 26 = A 48 4
def RM (σ A : ab_SG) (e : tk_E) (p : Nat) : Prop := mt_is σ e p ∧ RI A ∧ rn_is σ A ∧ rs_is σ A
theorem rn_k_M {σ σ' A : ab_SG} {b k : Nat} {n : Int} (h : rn_k σ A b k n) (h1 : σ' 100 = σ 100) : rn_k σ' A b k n := by
  unfold rn_k
  rw [h1]
  exact h
theorem rs_M {σ σ' A : ab_SG} (h : rn_is σ A ∧ rs_is σ A) (hM : ab_okM ((93, 13) :: (93, 10) :: (93, 11) :: go_M) σ σ') : rn_is σ' A ∧ rs_is σ' A := by
  obtain ⟨h1, h2⟩ := h
  have e96 : σ' 96 = σ 96 := fw_okM_c hM (by decide)
  have e100 : σ' 100 = σ 100 := fw_okM_c hM (by decide)
  have e103 : σ' 103 = σ 103 := fw_okM_c hM (by decide)
  constructor
  · unfold rn_is rn_k
    rw [e96, e100]
    exact h1
  · unfold rs_is
    rw [e96, e103, hM 93 25 (by decide), hM 93 26 (by decide)]
    exact h2
def md_post (σ : ab_SG) (r : pr_R) (e : tk_E) (K : fw_KR) : Prop := (r.1 ≠ 0 → md_no σ r.1 K) ∧ (r.1 = 0 → ∀ σ' : ab_SG, ab_okM md_M σ σ' → RM σ' r.2.1 e r.2.2 → K (some (0, 0, 1)) σ')
def sp_m_readFrom : fw_SP := fun as σ K => ∃ (A : ab_SG) (e : tk_E) (p : Nat), as = [(2, 93, 0)] ∧ RM σ A e p ∧ (tk e p).1 = 2 ∧ md_post σ (pr_from A e p) e K
abbrev fk_m_readFrom : List fw_CR := [(168, 1, true, 11, 0, sp_m_bad), (182, 0, true, 11, 1, sp_m_go), (210, 2, true, 11, 2, sp_m_readNumber)]
abbrev st_m_readFrom : fw_K → fw_KR → fw_K := fw_st vwCl nn_sh nn_kd fw_kv fw_wc (nn_KI20.map (fun x => x.1)) (nn_KJ20.map (fun x => x.1)) (nn_PF20.map (fun x => x.1)) (nn_PS20.map (fun x => x.1)) fk_m_readFrom 4 nn_dt234 1 1
theorem fs_m_readFrom_0 {G : fw_K} {R : fw_KR} (hG : fw_cls st_m_readFrom R G) {σ : ab_SG} (h : (fw_c (σ 93 26) ≤ 0 → sp_m_go [(2, 93, 0)] (ab_ups σ 93 26 (fw_c 1)) (fun rv σ2 => G 22 [some (2, 93, 0)] (rv.toList ++ []) σ2)) ∧ (0 < fw_c (σ 93 26) → sp_m_bad [(2, 93, 0), (0, 0, 3)] σ (fun rv σ2 => G 12 [some (2, 93, 0)] (rv.toList ++ []) σ2))) : G 0 [some (2, 93, 0)] [] σ := fw_on hG [12, 22, 29] 200 h
theorem fs_m_readFrom_22 {G : fw_K} {R : fw_KR} (hG : fw_cls st_m_readFrom R G) {σ : ab_SG} (h : sp_m_readNumber [(2, 93, 0), (0, 0, 1), (0, 0, 9)] σ (fun rv σ2 => G 29 [some (2, 93, 0)] (rv.toList ++ []) σ2)) : G 22 [some (2, 93, 0)] [] σ := fw_on hG [12, 22, 29] 200 h
theorem fs_m_readFrom_12 {G : fw_K} {R : fw_KR} (hG : fw_cls st_m_readFrom R G) {b0 : Int} {σ : ab_SG} (h : (0 ≤ fw_c b0 ∧ fw_c b0 ≤ 1) ∧ R (some (0, 0, b0)) σ) : G 12 [some (2, 93, 0)] [(0, 0, b0)] σ := fw_on hG [12, 22, 29] 200 h
theorem fs_m_readFrom_29 {G : fw_K} {R : fw_KR} (hG : fw_cls st_m_readFrom R G) {b0 : Int} {σ : ab_SG} (h : (fw_c b0 ≠ 0 → (0 ≤ fw_c 3 ∧ fw_c 3 < ((232 : Nat) : Int)) ∧ True ∧ ((0 ≤ fw_c 1 ∧ fw_c 1 ≤ 1) ∧ R (some (0, 0, 1)) (ab_ups σ 96 (fw_c 3).toNat (fw_c (σ 93 13))))) ∧ (fw_c b0 = 0 → (0 ≤ fw_c 0 ∧ fw_c 0 ≤ 1) ∧ R (some (0, 0, 0)) σ)) : G 29 [some (2, 93, 0)] [(0, 0, b0)] σ := fw_on hG [12, 22, 29] 200 h
section
variable {l : Launch} {cy : Nat → ClassId} {ad wr cr : Nat → Nat} {D : va_G}
theorem fm_m_readFrom (hinj : nn_inj ad) : fw_H l cy ad wr cr D 234 4 sp_m_readFrom := fw_mk hinj (⟨"NameNotesModel", "readFrom", "()Z"⟩, prog_14_method_37_code, 1, (Option.some Jvm.ClassFile.FieldType.boolean), 0, true, 1) rfl rfl nn_KI20_ok nn_KJ20_ok nn_PF20_ok nn_PS20_ok (by decide +kernel) rfl rfl (List.forall_mem_cons.mpr ⟨fw_row nn_PM20_ok (x := 168) (k := 0) (mn := 221) (np := 1) (ob := true) (ci := 11) (⟨"NameNotesModel", "bad", "(I)Z"⟩, prog_14_method_23_code, 2, (Option.some Jvm.ClassFile.FieldType.boolean), 1, true, 1) rfl (by decide +kernel) rfl rfl (by decide) (fun _ => ⟨_, _, rfl⟩) (fm_m_bad hinj), (List.forall_mem_cons.mpr ⟨fw_row nn_PM20_ok (x := 182) (k := 0) (mn := 212) (np := 0) (ob := true) (ci := 11) (⟨"NameNotesModel", "go", "()V"⟩, prog_14_method_17_code, 5, (Option.none : Option Jvm.ClassFile.FieldType), 0, true, 4) rfl (by decide +kernel) rfl rfl (by decide) (fun _ => ⟨_, _, rfl⟩) (fm_m_go hinj), (List.forall_mem_cons.mpr ⟨fw_row nn_PM20_ok (x := 210) (k := 0) (mn := 227) (np := 2) (ob := true) (ci := 11) (⟨"NameNotesModel", "readNumber", "(II)Z"⟩, prog_14_method_25_code, 3, (Option.some Jvm.ClassFile.FieldType.boolean), 2, true, 1) rfl (by decide +kernel) rfl rfl (by decide) (fun _ => ⟨_, _, rfl⟩) (fm_m_readNumber hinj), (fun _ h => absurd h List.not_mem_nil)⟩)⟩)⟩) (fun as σ K h => by
  obtain ⟨A, e, p, rfl, ⟨hm, hi, hr⟩, hk, h0, h1⟩ := h
  have mk := mg_kind hm.1
  have b26 : σ 93 26 = A 48 4 := hr.2.2.2.2.2.2.2.2.2
  have hi4 := hi.2.2.2.2.2.2.2
  have c26 : fw_c (σ 93 26) = A 48 4 := by rw [b26]; exact fw_c_id (by omega) (by omega)
  have e3 : (fw_c 3).toNat = 3 := by rw [fw_c_id (by decide) (by decide)]; rfl
  have u3 : 0 ≤ fw_c 3 ∧ fw_c 3 < ((232 : Nat) : Int) := by rw [fw_c_id (by decide) (by decide)]; decide
  unfold pr_from at h0 h1
  refine ⟨rfl, fun G hG => fs_m_readFrom_0 hG ?_⟩
  rw [c26]
  refine ⟨fun q => ?_, fun q => ?_⟩
  · rw [if_neg (show ¬ A 48 4 ≠ 0 by omega)] at h0 h1
    rw [fw_c1]
    refine mt_go (mt_ups hm (Or.inr ⟨rfl, by decide⟩)) (fun σ1 M1 S1 => fs_m_readFrom_22 hG ⟨1, 9, e, tn e p, rfl, by decide, S1, fun n0 σ' M2 h10 => ?_, fun n0 na nb σ' M2 h13 S2 => ?_⟩)
    · rw [if_pos n0] at h0
      refine fs_m_readFrom_29 hG ⟨fun z => absurd fw_c0 z, fun _ => ⟨fw_01, h0 n0 σ' ?_ h10⟩⟩
      exact fw_okM_tr (fw_okM_tr (fw_okM_ups (fw_okM_refl _ _) (by decide)) M1 (by decide)) M2 (by decide)
    · rw [if_neg (fun y => y n0)] at h1
      have h1 := h1 rfl
      dsimp only at h1
      have ev : fw_c (tk e (tn e p)).2.2.2.2 = (tk e (tn e p)).2.2.2.2 := fw_c_id (by omega) (by omega)
      refine fs_m_readFrom_29 hG ⟨fun _ => ⟨u3, trivial, fw_11, ?_⟩, fun z => absurd (fw_c1.symm.trans z) (by decide)⟩
      rw [e3, h13, ev]
      have M3 : ab_okM ((93, 26) :: (93, 13) :: go_M) σ σ' := fw_okM_tr (fw_okM_tr (fw_okM_ups (fw_okM_refl _ _) (by decide)) M1 (by decide)) M2 (by decide)
      have v26 : σ' 93 26 = 1 := (M2 93 26 (by decide)).trans ((M1 93 26 (by decide)).trans ab_ups_eq)
      have e96 : σ' 96 = σ 96 := fw_okM_c M3 (by decide)
      have e100 : σ' 100 = σ 100 := fw_okM_c M3 (by decide)
      have e103 : σ' 103 = σ 103 := fw_okM_c M3 (by decide)
      have e25 : σ' 93 25 = σ 93 25 := M3 93 25 (by decide)
      refine h1 _ (fw_okM_upa (fw_okM_tr (fw_okM_refl _ _) M3 (by decide)) (by decide)) ⟨mt_ups S2 (Or.inl ⟨by decide, by decide⟩), ⟨hi.1, hi.2.1, hi.2.2.1, hi.2.2.2.1, hi.2.2.2.2.1, hi.2.2.2.2.2.1, hi.2.2.2.2.2.2.1, ?_⟩, ?_, ?_⟩
      · rw [ab_ups_ne (by decide), ab_ups_eq]; decide
      · obtain ⟨⟨c0, c1⟩, ⟨d0, d1⟩, ⟨g0, g1⟩, r1, r2, r3⟩ := hr.1
        refine ⟨⟨?_, c1⟩, ⟨?_, d1⟩, ⟨?_, g1⟩, rn_k_M r1 ?_, rn_k_M r2 ?_, rn_k_M r3 ?_⟩
        · rw [ab_ups_ne (by decide), e96]; exact c0
        · rw [ab_ups_ne (by decide), e96]; exact d0
        · rw [ab_ups_ne (by decide), e96]; exact g0
        · rw [ab_ups_row (by decide), e100]
        · rw [ab_ups_row (by decide), e100]
        · rw [ab_ups_row (by decide), e100]
      · obtain ⟨r1, r2, r3, r4, r5, r6, r7, r8, r9⟩ := hr.2
        refine ⟨?_, fun x hx => ⟨?_, fun i hx2 => ⟨?_, ?_⟩⟩, fun c hc => ?_, fun j hj => ?_, fun j hj => ?_, fun j hj hj2 => ?_, fun j hj => ?_, ?_, ?_⟩
        · rw [ab_ups_eq, ab_ups_eq]
        · rw [ab_ups_ne (fun z => by omega), e96]; exact (r2 x hx).1
        · rw [ab_ups_ne (fun z => by omega), e96]; exact ((r2 x hx).2 i hx2).1
        · rw [ab_ups_ne (fun z => by omega), e96]; exact ((r2 x hx).2 i hx2).2
        · rw [ab_ups_ne (fun z => by omega), e96]; exact r3 c hc
        · rw [ab_ups_ne (fun z => by omega), e96]; exact r4 j hj
        · rw [ab_ups_ne (fun z => by omega), e96]; exact r5 j hj
        · exact r6 j hj hj2
        · rw [ab_ups_ne (fun z => absurd z.1 (by decide)), e103]; exact r7 j hj
        · rw [ab_ups_ne (by decide), e25]; exact r8
        · rw [ab_ups_ne (by decide), v26, ab_ups_ne (by decide), ab_ups_eq]
  · rw [if_pos (show A 48 4 ≠ 0 by omega)] at h0
    refine ⟨3, rfl, by decide, mk.2.2.2.2, fun σ' hM h10 _ => fs_m_readFrom_12 hG ⟨fw_01, h0 (by show (3 : Int) ≠ 0; decide) σ' (fw_okM_tr (fw_okM_refl _ _) hM (by decide)) ?_⟩⟩
    rw [h10, if_neg (show ¬ σ 93 7 = 1 by have := mk.1.mpr hk; omega)])
end
end
section
/-! the reference's lines: a dare -/
def sp_m_readDare : fw_SP := fun as σ K => ∃ (A : ab_SG) (e : tk_E) (p : Nat), as = [(2, 93, 0)] ∧ RM σ A e p ∧ md_post σ (pr_dare A e p) e K
theorem pr_sk_k {A : ab_SG} {e : tk_E} {k : Nat} {n : Int} {p : Nat} (q : pr_sk A e k n p = 0) : (tk e p).1 = 2 := by
  unfold pr_sk at q
  by_cases y : (tk e p).1 = 2 ∧ tw e p < 0
  · exact y.1
  · rw [if_neg y] at q
    exact absurd q (by decide)
theorem bl_f {b : Bool} (h : ¬ b = true) : b = false := by
  cases b
  · rfl
  · exact absurd rfl h
abbrev fk_m_readDare : List fw_CR := [(168, 1, true, 11, 0, sp_m_bad), (182, 0, true, 11, 1, sp_m_go), (210, 2, true, 11, 2, sp_m_readNumber), (213, 2, true, 11, 3, sp_m_isOne), (216, 2, false, 0, 0, sp_m_has)]
abbrev st_m_readDare : fw_K → fw_KR → fw_K := fw_st vwCl nn_sh nn_kd fw_kv fw_wc (nn_KI20.map (fun x => x.1)) (nn_KJ20.map (fun x => x.1)) (nn_PF20.map (fun x => x.1)) (nn_PS20.map (fun x => x.1)) fk_m_readDare 4 nn_dt233 2 1
theorem fs_m_readDare_0 {G : fw_K} {R : fw_KR} (hG : fw_cls st_m_readDare R G) {σ : ab_SG} (h : sp_m_go [(2, 93, 0)] σ (fun rv σ2 => G 4 [some (2, 93, 0), none] (rv.toList ++ []) σ2)) : G 0 [some (2, 93, 0), none] [] σ := fw_on hG [4, 16, 34, 42, 59, 66] 200 h
theorem fs_m_readDare_4 {G : fw_K} {R : fw_KR} (hG : fw_cls st_m_readDare R G) {σ : ab_SG} (h : (0 ≤ fw_c 2 ∧ fw_c 2 < ((232 : Nat) : Int)) ∧ (sp_m_isOne [(2, 93, 0), (0, 0, 15), (0, 0, σ 96 (fw_c 2).toNat)] σ (fun rv σ2 => G 16 [some (2, 93, 0), none] (rv.toList ++ []) σ2))) : G 4 [some (2, 93, 0), none] [] σ := fw_on hG [4, 16, 34, 42, 59, 66] 200 h
theorem fs_m_readDare_16 {G : fw_K} {R : fw_KR} (hG : fw_cls st_m_readDare R G) {b0 : Int} {σ : ab_SG} (h : (fw_c b0 ≠ 0 → sp_m_has [(0, 0, σ 93 25), (0, 0, σ 93 13)] σ (fun rv σ2 => G 34 [some (2, 93, 0), some (0, 0, σ 93 13)] (rv.toList ++ []) σ2)) ∧ (fw_c b0 = 0 → (0 ≤ fw_c 0 ∧ fw_c 0 ≤ 1) ∧ R (some (0, 0, 0)) σ)) : G 16 [some (2, 93, 0), none] [(0, 0, b0)] σ := fw_on hG [4, 16, 34, 42, 59, 66] 200 h
theorem fs_m_readDare_34 {G : fw_K} {R : fw_KR} (hG : fw_cls st_m_readDare R G) {a1 b0 : Int} {σ : ab_SG} (h : (fw_c b0 = 0 → sp_m_go [(2, 93, 0)] (ab_ups σ 93 25 (fw_c (fw_op 9 (σ 93 25) (fw_op 5 1 a1)))) (fun rv σ2 => G 59 [some (2, 93, 0), some (0, 0, a1)] (rv.toList ++ []) σ2)) ∧ (fw_c b0 ≠ 0 → sp_m_bad [(2, 93, 0), (0, 0, 3)] σ (fun rv σ2 => G 42 [some (2, 93, 0), some (0, 0, a1)] (rv.toList ++ []) σ2))) : G 34 [some (2, 93, 0), some (0, 0, a1)] [(0, 0, b0)] σ := fw_on hG [4, 16, 34, 42, 59, 66] 200 h
theorem fs_m_readDare_59 {G : fw_K} {R : fw_KR} (hG : fw_cls st_m_readDare R G) {a1 : Int} {σ : ab_SG} (h : sp_m_readNumber [(2, 93, 0), (0, 0, 0), (0, 0, 9)] σ (fun rv σ2 => G 66 [some (2, 93, 0), some (0, 0, a1)] (rv.toList ++ []) σ2)) : G 59 [some (2, 93, 0), some (0, 0, a1)] [] σ := fw_on hG [4, 16, 34, 42, 59, 66] 200 h
theorem fs_m_readDare_42 {G : fw_K} {R : fw_KR} (hG : fw_cls st_m_readDare R G) {a1 b0 : Int} {σ : ab_SG} (h : (0 ≤ fw_c b0 ∧ fw_c b0 ≤ 1) ∧ R (some (0, 0, b0)) σ) : G 42 [some (2, 93, 0), some (0, 0, a1)] [(0, 0, b0)] σ := fw_on hG [4, 16, 34, 42, 59, 66] 200 h
theorem fs_m_readDare_66 {G : fw_K} {R : fw_KR} (hG : fw_cls st_m_readDare R G) {a1 b0 : Int} {σ : ab_SG} (h : (fw_c b0 ≠ 0 → (0 ≤ fw_c (227 + a1) ∧ fw_c (227 + a1) < ((232 : Nat) : Int)) ∧ True ∧ ((0 ≤ fw_c 1 ∧ fw_c 1 ≤ 1) ∧ R (some (0, 0, 1)) (ab_ups σ 96 (fw_c (227 + a1)).toNat (fw_c (σ 93 13))))) ∧ (fw_c b0 = 0 → (0 ≤ fw_c 0 ∧ fw_c 0 ≤ 1) ∧ R (some (0, 0, 0)) σ)) : G 66 [some (2, 93, 0), some (0, 0, a1)] [(0, 0, b0)] σ := fw_on hG [4, 16, 34, 42, 59, 66] 200 h
section
variable {l : Launch} {cy : Nat → ClassId} {ad wr cr : Nat → Nat} {D : va_G}
theorem fm_m_readDare (hinj : nn_inj ad) : fw_H l cy ad wr cr D 233 4 sp_m_readDare := fw_mk hinj (⟨"NameNotesModel", "readDare", "()Z"⟩, prog_14_method_36_code, 2, (Option.some Jvm.ClassFile.FieldType.boolean), 0, true, 1) rfl rfl nn_KI20_ok nn_KJ20_ok nn_PF20_ok nn_PS20_ok (by decide +kernel) rfl rfl (List.forall_mem_cons.mpr ⟨fw_row nn_PM20_ok (x := 168) (k := 0) (mn := 221) (np := 1) (ob := true) (ci := 11) (⟨"NameNotesModel", "bad", "(I)Z"⟩, prog_14_method_23_code, 2, (Option.some Jvm.ClassFile.FieldType.boolean), 1, true, 1) rfl (by decide +kernel) rfl rfl (by decide) (fun _ => ⟨_, _, rfl⟩) (fm_m_bad hinj), (List.forall_mem_cons.mpr ⟨fw_row nn_PM20_ok (x := 182) (k := 0) (mn := 212) (np := 0) (ob := true) (ci := 11) (⟨"NameNotesModel", "go", "()V"⟩, prog_14_method_17_code, 5, (Option.none : Option Jvm.ClassFile.FieldType), 0, true, 4) rfl (by decide +kernel) rfl rfl (by decide) (fun _ => ⟨_, _, rfl⟩) (fm_m_go hinj), (List.forall_mem_cons.mpr ⟨fw_row nn_PM20_ok (x := 210) (k := 0) (mn := 227) (np := 2) (ob := true) (ci := 11) (⟨"NameNotesModel", "readNumber", "(II)Z"⟩, prog_14_method_25_code, 3, (Option.some Jvm.ClassFile.FieldType.boolean), 2, true, 1) rfl (by decide +kernel) rfl rfl (by decide) (fun _ => ⟨_, _, rfl⟩) (fm_m_readNumber hinj), (List.forall_mem_cons.mpr ⟨fw_row nn_PM20_ok (x := 213) (k := 0) (mn := 229) (np := 2) (ob := true) (ci := 11) (⟨"NameNotesModel", "isOne", "(II)Z"⟩, prog_14_method_31_code, 3, (Option.some Jvm.ClassFile.FieldType.boolean), 2, true, 1) rfl (by decide +kernel) rfl rfl (by decide) (fun _ => ⟨_, _, rfl⟩) (fm_m_isOne hinj), (List.forall_mem_cons.mpr ⟨fw_row nn_PM20_ok (x := 216) (k := 0) (mn := 230) (np := 2) (ob := false) (ci := 0) (⟨"NameNotesModel", "has", "(II)Z"⟩, prog_14_method_9_code, 2, (Option.some Jvm.ClassFile.FieldType.boolean), 2, false, 1) rfl (by decide +kernel) rfl rfl (by decide) (fun q => by cases q) (fm_m_has hinj), (fun _ h => absurd h List.not_mem_nil)⟩)⟩)⟩)⟩)⟩) (fun as σ K h => by
  obtain ⟨A, e, p, rfl, ⟨hm, hi, hr⟩, h0, h1⟩ := h
  have t2 : (fw_c 2).toNat = 2 := by rw [fw_c_id (by decide) (by decide)]; rfl
  have u2 : 0 ≤ fw_c 2 ∧ fw_c 2 < ((232 : Nat) : Int) := by rw [fw_c_id (by decide) (by decide)]; decide
  have h13 := hr.1.2.2.1
  unfold pr_dare at h0 h1
  refine ⟨rfl, fun G hG => fs_m_readDare_0 hG (mt_go hm (fun σ1 M1 S1 => fs_m_readDare_4 hG ⟨u2, ?_⟩))⟩
  have hr1 := rs_M hr (fw_okM_tr (fw_okM_refl _ _) M1 (by decide))
  have mk := mg_kind S1.1
  have c2 : σ1 96 2 = A 49 13 := hr1.1.2.2.1.1
  rw [t2, c2]
  refine ⟨15, 59, A 49 13, A, e, tn e p, rfl, ⟨h13.2.1, by omega, by omega⟩, S1, hr1.1.2.2.2.2.2, fun q σ' M2 h10 => ?_, fun q q0 q1 => ?_⟩
  · rw [if_pos q] at h0
    exact fs_m_readDare_16 hG ⟨fun z => absurd fw_c0 z, fun _ => ⟨fw_01, h0 q σ' (fw_okM_tr (fw_okM_tr (fw_okM_refl _ _) M1 (by decide)) M2 (by decide)) h10⟩⟩
  · rw [if_neg (fun y => y q)] at h0 h1
    have kq := pr_sk_k q
    generalize pr_ix A e 59 (A 49 13) (tn e p) = u at h0 h1 q0 q1 ⊢
    have v25 : ab_ups σ1 93 13 u 93 25 = A 48 3 := (ab_ups_ne (by decide)).trans hr1.2.2.2.2.2.2.2.2.1
    have w13 : ab_ups σ1 93 13 u 93 13 = u := ab_ups_eq
    have k7 : ab_ups σ1 93 13 u 93 7 = σ1 93 7 := ab_ups_ne (by decide)
    refine fs_m_readDare_16 hG ⟨fun _ => ?_, fun z => absurd (fw_c1.symm.trans z) (by decide)⟩
    rw [v25, w13]
    refine ⟨A 48 3, u, rfl, fs_m_readDare_34 hG ⟨fun z => ?_, fun z => ?_⟩⟩
    · have hf : pr_hs (A 48 3) u = false := bl_f (fw_bo_eq z)
      rw [hf, if_neg (show ¬ (false = true) by decide)] at h0 h1
      rw [v25]
      show sp_m_go [(2, 93, 0)] (ab_ups (ab_ups σ1 93 13 u) 93 25 (pr_or (A 48 3) u)) _
      refine mt_go (mt_ups (mt_ups S1 (Or.inr ⟨rfl, by decide⟩)) (Or.inr ⟨rfl, by decide⟩)) (fun σ2 M2 S2 => fs_m_readDare_59 hG ⟨0, 9, e, _, rfl, by decide, S2, fun n0 σ' M3 h10 => ?_, fun n0 na nb σ' M3 r13 S3 => ?_⟩)
      · rw [if_pos n0] at h0
        refine fs_m_readDare_66 hG ⟨fun y => absurd fw_c0 y, fun _ => ⟨fw_01, h0 n0 σ' ?_ h10⟩⟩
        exact fw_okM_tr (fw_okM_tr (fw_okM_ups (fw_okM_ups (fw_okM_tr (fw_okM_refl _ _) M1 (by decide)) (by decide)) (by decide)) M2 (by decide)) M3 (by decide)
      · rw [if_neg (fun y => y n0)] at h1
        have h1 := h1 rfl
        dsimp only at h1
        have ev : fw_c (tk e (tn e (tn e p))).2.2.2.2 = (tk e (tn e (tn e p))).2.2.2.2 := fw_c_id (by omega) (by omega)
        have ei : fw_c (227 + u) = ((227 + u.toNat : Nat) : Int) := by rw [fw_c_id (by omega) (by omega)]; omega
        refine fs_m_readDare_66 hG ⟨fun _ => ⟨by rw [ei]; exact ⟨Int.natCast_nonneg _, by omega⟩, trivial, fw_11, ?_⟩, fun y => absurd (fw_c1.symm.trans y) (by decide)⟩
        rw [ei, Int.toNat_natCast, r13, ev]
        have M4 : ab_okM ((93, 25) :: (93, 13) :: go_M) σ σ' := fw_okM_tr (fw_okM_tr (fw_okM_ups (fw_okM_ups (fw_okM_tr (fw_okM_refl _ _) M1 (by decide)) (by decide)) (by decide)) M2 (by decide)) M3 (by decide)
        have w25 : σ' 93 25 = pr_or (A 48 3) u := (M3 93 25 (by decide)).trans ((M2 93 25 (by decide)).trans ab_ups_eq)
        have e96 : σ' 96 = σ 96 := fw_okM_c M4 (by decide)
        have e100 : σ' 100 = σ 100 := fw_okM_c M4 (by decide)
        have e103 : σ' 103 = σ 103 := fw_okM_c M4 (by decide)
        have e26 : σ' 93 26 = σ 93 26 := M4 93 26 (by decide)
        refine h1 _ (fw_okM_upa (fw_okM_tr (fw_okM_refl _ _) M4 (by decide)) (by decide)) ⟨mt_ups S3 (Or.inl ⟨by decide, by decide⟩), hi, ?_, ?_⟩
        · obtain ⟨⟨c0, c1⟩, ⟨d0, d1⟩, ⟨g0, g1⟩, r1, r2, r3⟩ := hr.1
          refine ⟨⟨?_, c1⟩, ⟨?_, d1⟩, ⟨?_, g1⟩, rn_k_M r1 ?_, rn_k_M r2 ?_, rn_k_M r3 ?_⟩
          · rw [ab_ups_ne (fun z => by omega), e96]; exact c0
          · rw [ab_ups_ne (fun z => by omega), e96]; exact d0
          · rw [ab_ups_ne (fun z => by omega), e96]; exact g0
          · rw [ab_ups_row (by decide), e100]
          · rw [ab_ups_row (by decide), e100]
          · rw [ab_ups_row (by decide), e100]
        · obtain ⟨r1, r2, r3, r4, r5, r6, r7, r8, r9⟩ := hr.2
          have nb3 := hr.1.1
          have nb4 := hr.1.2.1
          refine ⟨?_, fun x hx => ⟨?_, fun i hx2 => ⟨?_, ?_⟩⟩, fun c hc => ?_, fun j hj => ?_, fun j hj => ?_, fun j hj hj2 => ?_, fun j hj => ?_, ?_, ?_⟩
          · rw [ab_ups_ne (fun z => by omega), e96]; exact r1
          · replace hx : (x : Int) < A 49 11 := hx
            rw [ab_ups_ne (fun z => by omega), e96]; exact (r2 x hx).1
          · replace hx : (x : Int) < A 49 11 := hx
            replace hx2 : (i : Int) < A 52 x := hx2
            have hs := hi.2.2.2.2.2.2.1 x (by omega)
            rw [ab_ups_ne (fun z => by omega), e96]; exact ((r2 x hx).2 i hx2).1
          · replace hx : (x : Int) < A 49 11 := hx
            replace hx2 : (i : Int) < A 52 x := hx2
            have hs := hi.2.2.2.2.2.2.1 x (by omega)
            rw [ab_ups_ne (fun z => by omega), e96]; exact ((r2 x hx).2 i hx2).2
          · replace hc : (c : Int) < A 49 12 := hc
            rw [ab_ups_ne (fun z => by omega), e96]; exact r3 c hc
          · rw [ab_ups_ne (fun z => by omega), e96]; exact r4 j hj
          · replace hj : (j : Int) < A 49 13 := hj
            by_cases c : j = u.toNat
            · rw [c, ab_ups_eq, ab_ups_eq]
            · rw [ab_ups_ne (fun z => by omega), ab_ups_ne (fun z => c z.2), e96]; exact r5 j hj
          · replace hj2 : A 49 13 ≤ (j : Int) := hj2
            rw [ab_ups_ne (fun z => by omega)]; exact r6 j hj hj2
          · rw [ab_ups_ne (fun z => absurd z.1 (by decide)), e103]; exact r7 j hj
          · rw [ab_ups_ne (fun z => absurd z.1 (by decide)), w25, ab_ups_ne (fun z => absurd z.1 (by decide)), ab_ups_eq]
          · rw [ab_ups_ne (fun z => absurd z.1 (by decide)), e26]; exact r9
    · have hp : pr_hs (A 48 3) u = true := fw_bo_ne z
      rw [hp, if_pos rfl] at h0
      refine ⟨3, rfl, by decide, by rw [k7]; exact mk.2.2.2.2, fun σ' hM h10 _ => fs_m_readDare_42 hG ⟨fw_01, h0 (by show (3 : Int) ≠ 0; decide) σ' (fw_okM_tr (fw_okM_ups (fw_okM_tr (fw_okM_refl _ _) M1 (by decide)) (by decide)) hM (by decide)) ?_⟩⟩
      rw [h10, k7, if_neg (show ¬ σ1 93 7 = 1 by have := mk.1.mpr kq; omega)])
end
end
section
/-! the reference's lines: a person -/
def sp_m_readPerson : fw_SP := fun as σ K => ∃ (A : ab_SG) (e : tk_E) (p : Nat), as = [(2, 93, 0)] ∧ RM σ A e p ∧ (tk e p).1 = 2 ∧ md_post σ (pr_person A e p) e K
abbrev fk_m_readPerson : List fw_CR := [(168, 1, true, 11, 0, sp_m_bad), (182, 0, true, 11, 1, sp_m_go), (207, 1, true, 11, 3, sp_m_readNew)]
abbrev st_m_readPerson : fw_K → fw_KR → fw_K := fw_st vwCl nn_sh nn_kd fw_kv fw_wc (nn_KI20.map (fun x => x.1)) (nn_KJ20.map (fun x => x.1)) (nn_PF20.map (fun x => x.1)) (nn_PS20.map (fun x => x.1)) fk_m_readPerson 4 nn_dt231 2 1
theorem fs_m_readPerson_0 {G : fw_K} {R : fw_KR} (hG : fw_cls st_m_readPerson R G) {σ : ab_SG} (h : (0 ≤ fw_c 2 ∧ fw_c 2 < ((232 : Nat) : Int)) ∧ ((fw_c (σ 96 (fw_c 2).toNat) ≠ fw_c 5 → sp_m_go [(2, 93, 0)] σ (fun rv σ2 => G 22 [some (2, 93, 0), some (0, 0, σ 96 (fw_c 2).toNat)] (rv.toList ++ []) σ2)) ∧ (fw_c (σ 96 (fw_c 2).toNat) = fw_c 5 → sp_m_bad [(2, 93, 0), (0, 0, 4)] σ (fun rv σ2 => G 17 [some (2, 93, 0), some (0, 0, σ 96 (fw_c 2).toNat)] (rv.toList ++ []) σ2)))) : G 0 [some (2, 93, 0), none] [] σ := fw_on hG [17, 22, 30] 200 h
theorem fs_m_readPerson_22 {G : fw_K} {R : fw_KR} (hG : fw_cls st_m_readPerson R G) {a1 : Int} {σ : ab_SG} (h : sp_m_readNew [(2, 93, 0), (0, 0, 15 + a1)] σ (fun rv σ2 => G 30 [some (2, 93, 0), some (0, 0, a1)] (rv.toList ++ []) σ2)) : G 22 [some (2, 93, 0), some (0, 0, a1)] [] σ := fw_on hG [17, 22, 30] 200 h
theorem fs_m_readPerson_17 {G : fw_K} {R : fw_KR} (hG : fw_cls st_m_readPerson R G) {a1 b0 : Int} {σ : ab_SG} (h : (0 ≤ fw_c b0 ∧ fw_c b0 ≤ 1) ∧ R (some (0, 0, b0)) σ) : G 17 [some (2, 93, 0), some (0, 0, a1)] [(0, 0, b0)] σ := fw_on hG [17, 22, 30] 200 h
theorem fs_m_readPerson_30 {G : fw_K} {R : fw_KR} (hG : fw_cls st_m_readPerson R G) {a1 b0 : Int} {σ : ab_SG} (h : (fw_c b0 ≠ 0 → (0 ≤ fw_c (227 + a1) ∧ fw_c (227 + a1) < ((232 : Nat) : Int)) ∧ True ∧ ((0 ≤ fw_c 2 ∧ fw_c 2 < ((232 : Nat) : Int)) ∧ ((0 ≤ fw_c 2 ∧ fw_c 2 < ((232 : Nat) : Int)) ∧ True ∧ ((0 ≤ fw_c 1 ∧ fw_c 1 ≤ 1) ∧ R (some (0, 0, 1)) (ab_ups (ab_ups σ 96 (fw_c (227 + a1)).toNat (fw_c 5)) 96 (fw_c 2).toNat (fw_c (((ab_ups σ 96 (fw_c (227 + a1)).toNat (fw_c 5)) 96 (fw_c 2).toNat) + 1))))))) ∧ (fw_c b0 = 0 → (0 ≤ fw_c 0 ∧ fw_c 0 ≤ 1) ∧ R (some (0, 0, 0)) σ)) : G 30 [some (2, 93, 0), some (0, 0, a1)] [(0, 0, b0)] σ := fw_on hG [17, 22, 30] 200 h
section
variable {l : Launch} {cy : Nat → ClassId} {ad wr cr : Nat → Nat} {D : va_G}
theorem fm_m_readPerson (hinj : nn_inj ad) : fw_H l cy ad wr cr D 231 4 sp_m_readPerson := fw_mk hinj (⟨"NameNotesModel", "readPerson", "()Z"⟩, prog_14_method_34_code, 2, (Option.some Jvm.ClassFile.FieldType.boolean), 0, true, 1) rfl rfl nn_KI20_ok nn_KJ20_ok nn_PF20_ok nn_PS20_ok (by decide +kernel) rfl rfl (List.forall_mem_cons.mpr ⟨fw_row nn_PM20_ok (x := 168) (k := 0) (mn := 221) (np := 1) (ob := true) (ci := 11) (⟨"NameNotesModel", "bad", "(I)Z"⟩, prog_14_method_23_code, 2, (Option.some Jvm.ClassFile.FieldType.boolean), 1, true, 1) rfl (by decide +kernel) rfl rfl (by decide) (fun _ => ⟨_, _, rfl⟩) (fm_m_bad hinj), (List.forall_mem_cons.mpr ⟨fw_row nn_PM20_ok (x := 182) (k := 0) (mn := 212) (np := 0) (ob := true) (ci := 11) (⟨"NameNotesModel", "go", "()V"⟩, prog_14_method_17_code, 5, (Option.none : Option Jvm.ClassFile.FieldType), 0, true, 4) rfl (by decide +kernel) rfl rfl (by decide) (fun _ => ⟨_, _, rfl⟩) (fm_m_go hinj), (List.forall_mem_cons.mpr ⟨fw_row nn_PM20_ok (x := 207) (k := 0) (mn := 222) (np := 1) (ob := true) (ci := 11) (⟨"NameNotesModel", "readNew", "(I)Z"⟩, prog_14_method_30_code, 3, (Option.some Jvm.ClassFile.FieldType.boolean), 1, true, 1) rfl (by decide +kernel) rfl rfl (by decide) (fun _ => ⟨_, _, rfl⟩) (fm_m_readNew hinj), (fun _ h => absurd h List.not_mem_nil)⟩)⟩)⟩) (fun as σ K h => by
  obtain ⟨A, e, p, rfl, ⟨hm, hi, hr⟩, hk, h0, h1⟩ := h
  have mk := mg_kind hm.1
  have t2 : (fw_c 2).toNat = 2 := by rw [fw_c_id (by decide) (by decide)]; rfl
  have u2 : 0 ≤ fw_c 2 ∧ fw_c 2 < ((232 : Nat) : Int) := by rw [fw_c_id (by decide) (by decide)]; decide
  have z5 : fw_c 5 = 5 := fw_c_id (by decide) (by decide)
  have h13 := hr.1.2.2.1
  have c13 : fw_c (A 49 13) = A 49 13 := fw_c_id (by omega) (by omega)
  unfold pr_person at h0 h1
  refine ⟨rfl, fun G hG => fs_m_readPerson_0 hG ⟨u2, ?_⟩⟩
  rw [t2, h13.1, c13, z5]
  refine ⟨fun q => ?_, fun q => ?_⟩
  · rw [if_neg (show ¬ 5 ≤ A 49 13 by omega)] at h0 h1
    refine mt_go hm (fun σ1 M1 S1 => fs_m_readPerson_22 hG ?_)
    have hr1 := rs_M hr (fw_okM_tr (fw_okM_refl _ _) M1 (by decide))
    generalize hx : A 49 13 = x at h0 h1 q h13 c13 ⊢
    refine ⟨15 + x.toNat, A, e, tn e p, by rw [show (((15 + x.toNat : Nat) : Int)) = 15 + x by omega], by omega, S1, hr1.1, fun n0 σ' M2 h10 => ?_, fun n0 k2 ok σ2 M2 S2 => ?_⟩
    · rw [if_pos n0] at h0
      exact fs_m_readPerson_30 hG ⟨fun z => absurd fw_c0 z, fun _ => ⟨fw_01, h0 n0 σ' (fw_okM_tr (fw_okM_tr (fw_okM_refl _ _) M1 (by decide)) M2 (by decide)) h10⟩⟩
    · rw [if_neg (fun y => y n0)] at h1
      have h1 := h1 rfl
      dsimp only at h1
      have bw := rf_ok_in 7 _ ok
      rw [rf_C7] at bw
      have dw : fw_d (pr_wd e (tn e p)) = pr_wd e (tn e p) := fw_d_id (by omega) (by omega)
      generalize pr_wd e (tn e p) = w at h1 ok dw M2
      have ei : fw_c (227 + x) = ((227 + x.toNat : Nat) : Int) := by rw [fw_c_id (by omega) (by omega)]; omega
      have N2 : ab_okM ((100, 1000000) :: go_M) σ σ2 := fw_okM_tr (fw_okM_upa (fw_okM_tr (fw_okM_refl _ _) M1 (by decide)) (by decide)) M2 (by decide)
      have e96 : σ2 96 = σ 96 := fw_okM_c N2 (by decide)
      have e103 : σ2 103 = σ 103 := fw_okM_c N2 (by decide)
      have e25 : σ2 93 25 = σ 93 25 := N2 93 25 (by decide)
      have e26 : σ2 93 26 = σ 93 26 := N2 93 26 (by decide)
      have e100 : σ2 100 = ab_ups σ1 100 (15 + x.toNat) (rf_w 7 w) 100 := fw_okM_c M2 (by decide)
      have o100 : σ1 100 = σ 100 := fw_okM_c M1 (by decide)
      refine fs_m_readPerson_30 hG ⟨fun _ => ⟨by rw [ei]; exact ⟨Int.natCast_nonneg _, by omega⟩, trivial, u2, u2, trivial, fw_11, ?_⟩, fun y => absurd (fw_c1.symm.trans y) (by decide)⟩
      rw [ei, Int.toNat_natCast, z5, t2]
      have v2 : ab_ups σ2 96 (227 + x.toNat) 5 96 2 = x := by rw [ab_ups_ne (fun z => by omega), e96]; exact h13.1
      have c1 : fw_c (x + 1) = x + 1 := fw_c_id (by omega) (by omega)
      rw [v2, c1]
      have B13 : ab_ups (ab_ups A 59 x.toNat w) 49 13 (x + 1) 49 13 = x + 1 := ab_ups_eq
      have B49 : ∀ j : Nat, j ≠ 13 → ab_ups (ab_ups A 59 x.toNat w) 49 13 (x + 1) 49 j = A 49 j := fun j hj => by rw [ab_ups_ne (fun z => hj z.2), ab_ups_ne (fun z => absurd z.1 (by decide))]
      have Bk : ∀ k j : Nat, k ≠ 49 → k ≠ 59 → ab_ups (ab_ups A 59 x.toNat w) 49 13 (x + 1) k j = A k j := fun k j q1 q2 => by rw [ab_ups_ne (fun z => q1 z.1), ab_ups_ne (fun z => q2 z.1)]
      have B59 : ∀ j : Nat, ab_ups (ab_ups A 59 x.toNat w) 49 13 (x + 1) 59 j = ab_ups A 59 x.toNat w 59 j := fun j => ab_ups_ne (fun z => absurd z.1 (by decide))
      have s100 : ∀ j : Nat, ab_ups (ab_ups σ2 96 (227 + x.toNat) 5) 96 2 (x + 1) 100 j = ab_ups σ1 100 (15 + x.toNat) (rf_w 7 w) 100 j := fun j => by rw [ab_ups_ne (fun z => absurd z.1 (by decide)), ab_ups_ne (fun z => absurd z.1 (by decide)), e100]
      have s96 : ∀ j : Nat, j ≠ 2 → j ≠ 227 + x.toNat → ab_ups (ab_ups σ2 96 (227 + x.toNat) 5) 96 2 (x + 1) 96 j = σ 96 j := fun j q1 q2 => by rw [ab_ups_ne (fun z => q1 z.2), ab_ups_ne (fun z => q2 z.2), e96]
      refine h1 _ (fw_okM_upa (fw_okM_upa (fw_okM_tr (fw_okM_refl _ _) N2 (by decide)) (by decide)) (by decide)) ⟨mt_ups (mt_ups S2 (Or.inl ⟨by decide, by decide⟩)) (Or.inl ⟨by decide, by decide⟩), ?_, ?_, ?_⟩
      · refine ⟨by rw [B49 11 (by decide)]; exact hi.1, by rw [B49 12 (by decide)]; exact hi.2.1, by rw [B13]; omega, fun j hj => by rw [Bk 57 j (by decide) (by decide)]; exact hi.2.2.2.1 j hj, fun j hj => by rw [Bk 58 j (by decide) (by decide)]; exact hi.2.2.2.2.1 j hj, fun j hj => ?_, fun j hj => by rw [Bk 52 j (by decide) (by decide)]; exact hi.2.2.2.2.2.2.1 j hj, by rw [Bk 48 4 (by decide) (by decide)]; exact hi.2.2.2.2.2.2.2⟩
        rw [B59]
        by_cases c : j = x.toNat
        · rw [c, ab_ups_eq]; exact dw
        · rw [ab_ups_ne (fun z => c z.2)]; exact hi.2.2.2.2.2.1 j hj
      · obtain ⟨⟨c0, c1⟩, ⟨d0, d1⟩, -, r1, r2, r3⟩ := hr.1
        refine ⟨⟨?_, ?_⟩, ⟨?_, ?_⟩, ⟨?_, ?_⟩, fun j hj => ?_, fun j hj => ?_, fun j hj => ?_⟩
        · rw [s96 0 (by decide) (by omega), B49 11 (by decide)]; exact c0
        · rw [B49 11 (by decide)]; exact c1
        · rw [s96 1 (by decide) (by omega), B49 12 (by decide)]; exact d0
        · rw [B49 12 (by decide)]; exact d1
        · rw [ab_ups_eq, B13]
        · rw [B13]; omega
        · rw [B49 11 (by decide)] at hj
          rw [Bk 57 j (by decide) (by decide), s100, ab_ups_ne (fun z => by omega), o100]; exact r1 j hj
        · rw [B49 12 (by decide)] at hj
          rw [Bk 58 j (by decide) (by decide), s100, ab_ups_ne (fun z => by omega), o100]; exact r2 j hj
        · rw [B13] at hj
          rw [B59, s100]
          by_cases c : j = x.toNat
          · rw [c, ab_ups_eq, ab_ups_eq]; exact ⟨ok, rfl⟩
          · rw [ab_ups_ne (fun z => c z.2), ab_ups_ne (fun z => by omega), o100]; exact r3 j (by omega)
      · obtain ⟨r1, r2, r3, r4, r5, r6, r7, r8, r9⟩ := hr.2
        have nb3 := hr.1.1
        have nb4 := hr.1.2.1
        refine ⟨?_, fun y hy => ⟨?_, fun i hy2 => ?_⟩, fun c hc => ?_, fun j hj => ?_, fun j hj => ?_, fun j hj hj2 => ?_, fun j hj => ?_, ?_, ?_⟩
        · rw [s96 3 (by decide) (by omega), B49 14 (by decide)]; exact r1
        · rw [B49 11 (by decide)] at hy
          rw [s96 _ (by omega) (by omega), Bk 52 y (by decide) (by decide)]; exact (r2 y hy).1
        · rw [B49 11 (by decide)] at hy
          rw [Bk 52 y (by decide) (by decide)] at hy2
          have hs := hi.2.2.2.2.2.2.1 y (by omega)
          rw [s96 _ (by omega) (by omega), s96 _ (by omega) (by omega), Bk 50 _ (by decide) (by decide), Bk 51 _ (by decide) (by decide)]; exact (r2 y hy).2 i hy2
        · rw [B49 12 (by decide)] at hc
          rw [s96 _ (by omega) (by omega), Bk 54 c (by decide) (by decide)]; exact r3 c hc
        · rw [s96 _ (by omega) (by omega), Bk 55 j (by decide) (by decide)]; exact r4 j hj
        · rw [B13] at hj
          rw [Bk 56 j (by decide) (by decide)]
          by_cases c : j = x.toNat
          · rw [c, ab_ups_ne (fun z => by omega), ab_ups_eq]
            exact (r6 _ (by omega) (by omega)).symm
          · rw [s96 _ (by omega) (by omega)]; exact r5 j (by omega)
        · rw [B13] at hj2
          rw [Bk 56 j (by decide) (by decide)]; exact r6 j hj (by omega)
        · rw [Bk 64 j (by decide) (by decide), ab_ups_ne (fun z => absurd z.1 (by decide)), ab_ups_ne (fun z => absurd z.1 (by decide)), e103]; exact r7 j hj
        · rw [Bk 48 3 (by decide) (by decide), ab_ups_ne (fun z => absurd z.1 (by decide)), ab_ups_ne (fun z => absurd z.1 (by decide)), e25]; exact r8
        · rw [Bk 48 4 (by decide) (by decide), ab_ups_ne (fun z => absurd z.1 (by decide)), ab_ups_ne (fun z => absurd z.1 (by decide)), e26]; exact r9
  · rw [if_pos (show 5 ≤ A 49 13 by omega)] at h0
    refine ⟨4, rfl, by decide, mk.2.2.2.2, fun σ' hM h10 _ => fs_m_readPerson_17 hG ⟨fw_01, h0 (by show (4 : Int) ≠ 0; decide) σ' (fw_okM_tr (fw_okM_refl _ _) hM (by decide)) ?_⟩⟩
    rw [h10, if_neg (show ¬ σ 93 7 = 1 by have := mk.1.mpr hk; omega)])
end
end
section
/-! the reference's lines: what a person knows -/
def sp_m_readKnows : fw_SP := fun as σ K => ∃ (A : ab_SG) (e : tk_E) (p : Nat), as = [(2, 93, 0)] ∧ RM σ A e p ∧ md_post σ (pr_knows A e p) e K
abbrev fk_m_readKnows : List fw_CR := [(168, 1, true, 11, 0, sp_m_bad), (182, 0, true, 11, 1, sp_m_go), (210, 2, true, 11, 2, sp_m_readNumber), (213, 2, true, 11, 3, sp_m_isOne), (216, 2, false, 0, 0, sp_m_has)]
abbrev st_m_readKnows : fw_K → fw_KR → fw_K := fw_st vwCl nn_sh nn_kd fw_kv fw_wc (nn_KI20.map (fun x => x.1)) (nn_KJ20.map (fun x => x.1)) (nn_PF20.map (fun x => x.1)) (nn_PS20.map (fun x => x.1)) fk_m_readKnows 4 nn_dt232 3 1
theorem fs_m_readKnows_0 {G : fw_K} {R : fw_KR} (hG : fw_cls st_m_readKnows R G) {σ : ab_SG} (h : sp_m_go [(2, 93, 0)] σ (fun rv σ2 => G 4 [some (2, 93, 0), none, none] (rv.toList ++ []) σ2)) : G 0 [some (2, 93, 0), none, none] [] σ := fw_on hG [4, 16, 30, 41, 61, 69, 86, 93] 200 h
theorem fs_m_readKnows_4 {G : fw_K} {R : fw_KR} (hG : fw_cls st_m_readKnows R G) {σ : ab_SG} (h : (0 ≤ fw_c 2 ∧ fw_c 2 < ((232 : Nat) : Int)) ∧ (sp_m_isOne [(2, 93, 0), (0, 0, 15), (0, 0, σ 96 (fw_c 2).toNat)] σ (fun rv σ2 => G 16 [some (2, 93, 0), none, none] (rv.toList ++ []) σ2))) : G 4 [some (2, 93, 0), none, none] [] σ := fw_on hG [4, 16, 30, 41, 61, 69, 86, 93] 200 h
theorem fs_m_readKnows_16 {G : fw_K} {R : fw_KR} (hG : fw_cls st_m_readKnows R G) {b0 : Int} {σ : ab_SG} (h : (fw_c b0 ≠ 0 → sp_m_go [(2, 93, 0)] σ (fun rv σ2 => G 30 [some (2, 93, 0), some (0, 0, σ 93 13), none] (rv.toList ++ []) σ2)) ∧ (fw_c b0 = 0 → (0 ≤ fw_c 0 ∧ fw_c 0 ≤ 1) ∧ R (some (0, 0, 0)) σ)) : G 16 [some (2, 93, 0), none, none] [(0, 0, b0)] σ := fw_on hG [4, 16, 30, 41, 61, 69, 86, 93] 200 h
theorem fs_m_readKnows_30 {G : fw_K} {R : fw_KR} (hG : fw_cls st_m_readKnows R G) {a1 : Int} {σ : ab_SG} (h : (0 ≤ fw_c 0 ∧ fw_c 0 < ((232 : Nat) : Int)) ∧ (sp_m_isOne [(2, 93, 0), (0, 0, 0), (0, 0, σ 96 (fw_c 0).toNat)] σ (fun rv σ2 => G 41 [some (2, 93, 0), some (0, 0, a1), none] (rv.toList ++ []) σ2))) : G 30 [some (2, 93, 0), some (0, 0, a1), none] [] σ := fw_on hG [4, 16, 30, 41, 61, 69, 86, 93] 200 h
theorem fs_m_readKnows_41 {G : fw_K} {R : fw_KR} (hG : fw_cls st_m_readKnows R G) {a1 b0 : Int} {σ : ab_SG} (h : (fw_c b0 ≠ 0 → (0 ≤ fw_c a1 ∧ fw_c a1 < ((5 : Nat) : Int)) ∧ (sp_m_has [(0, 0, σ 103 (fw_c a1).toNat), (0, 0, σ 93 13)] σ (fun rv σ2 => G 61 [some (2, 93, 0), some (0, 0, a1), some (0, 0, σ 93 13)] (rv.toList ++ []) σ2))) ∧ (fw_c b0 = 0 → (0 ≤ fw_c 0 ∧ fw_c 0 ≤ 1) ∧ R (some (0, 0, 0)) σ)) : G 41 [some (2, 93, 0), some (0, 0, a1), none] [(0, 0, b0)] σ := fw_on hG [4, 16, 30, 41, 61, 69, 86, 93] 200 h
theorem fs_m_readKnows_61 {G : fw_K} {R : fw_KR} (hG : fw_cls st_m_readKnows R G) {a1 a2 b0 : Int} {σ : ab_SG} (h : (fw_c b0 = 0 → (0 ≤ fw_c a1 ∧ fw_c a1 < ((5 : Nat) : Int)) ∧ ((0 ≤ fw_c a1 ∧ fw_c a1 < ((5 : Nat) : Int)) ∧ True ∧ (sp_m_go [(2, 93, 0)] (ab_ups σ 103 (fw_c a1).toNat (fw_c (fw_op 9 (σ 103 (fw_c a1).toNat) (fw_op 5 1 a2)))) (fun rv σ2 => G 86 [some (2, 93, 0), some (0, 0, a1), some (0, 0, a2)] (rv.toList ++ []) σ2)))) ∧ (fw_c b0 ≠ 0 → sp_m_bad [(2, 93, 0), (0, 0, 3)] σ (fun rv σ2 => G 69 [some (2, 93, 0), some (0, 0, a1), some (0, 0, a2)] (rv.toList ++ []) σ2))) : G 61 [some (2, 93, 0), some (0, 0, a1), some (0, 0, a2)] [(0, 0, b0)] σ := fw_on hG [4, 16, 30, 41, 61, 69, 86, 93] 200 h
theorem fs_m_readKnows_86 {G : fw_K} {R : fw_KR} (hG : fw_cls st_m_readKnows R G) {a1 a2 : Int} {σ : ab_SG} (h : sp_m_readNumber [(2, 93, 0), (0, 0, 0), (0, 0, 9)] σ (fun rv σ2 => G 93 [some (2, 93, 0), some (0, 0, a1), some (0, 0, a2)] (rv.toList ++ []) σ2)) : G 86 [some (2, 93, 0), some (0, 0, a1), some (0, 0, a2)] [] σ := fw_on hG [4, 16, 30, 41, 61, 69, 86, 93] 200 h
theorem fs_m_readKnows_69 {G : fw_K} {R : fw_KR} (hG : fw_cls st_m_readKnows R G) {a1 a2 b0 : Int} {σ : ab_SG} (h : (0 ≤ fw_c b0 ∧ fw_c b0 ≤ 1) ∧ R (some (0, 0, b0)) σ) : G 69 [some (2, 93, 0), some (0, 0, a1), some (0, 0, a2)] [(0, 0, b0)] σ := fw_on hG [4, 16, 30, 41, 61, 69, 86, 93] 200 h
theorem fs_m_readKnows_93 {G : fw_K} {R : fw_KR} (hG : fw_cls st_m_readKnows R G) {a1 a2 b0 : Int} {σ : ab_SG} (h : (fw_c b0 ≠ 0 → (0 ≤ fw_c ((182 + (9 * a1)) + a2) ∧ fw_c ((182 + (9 * a1)) + a2) < ((232 : Nat) : Int)) ∧ True ∧ ((0 ≤ fw_c 1 ∧ fw_c 1 ≤ 1) ∧ R (some (0, 0, 1)) (ab_ups σ 96 (fw_c ((182 + (9 * a1)) + a2)).toNat (fw_c (σ 93 13))))) ∧ (fw_c b0 = 0 → (0 ≤ fw_c 0 ∧ fw_c 0 ≤ 1) ∧ R (some (0, 0, 0)) σ)) : G 93 [some (2, 93, 0), some (0, 0, a1), some (0, 0, a2)] [(0, 0, b0)] σ := fw_on hG [4, 16, 30, 41, 61, 69, 86, 93] 200 h
section
variable {l : Launch} {cy : Nat → ClassId} {ad wr cr : Nat → Nat} {D : va_G}
theorem fm_m_readKnows (hinj : nn_inj ad) : fw_H l cy ad wr cr D 232 4 sp_m_readKnows := fw_mk hinj (⟨"NameNotesModel", "readKnows", "()Z"⟩, prog_14_method_35_code, 3, (Option.some Jvm.ClassFile.FieldType.boolean), 0, true, 1) rfl rfl nn_KI20_ok nn_KJ20_ok nn_PF20_ok nn_PS20_ok (by decide +kernel) rfl rfl (List.forall_mem_cons.mpr ⟨fw_row nn_PM20_ok (x := 168) (k := 0) (mn := 221) (np := 1) (ob := true) (ci := 11) (⟨"NameNotesModel", "bad", "(I)Z"⟩, prog_14_method_23_code, 2, (Option.some Jvm.ClassFile.FieldType.boolean), 1, true, 1) rfl (by decide +kernel) rfl rfl (by decide) (fun _ => ⟨_, _, rfl⟩) (fm_m_bad hinj), (List.forall_mem_cons.mpr ⟨fw_row nn_PM20_ok (x := 182) (k := 0) (mn := 212) (np := 0) (ob := true) (ci := 11) (⟨"NameNotesModel", "go", "()V"⟩, prog_14_method_17_code, 5, (Option.none : Option Jvm.ClassFile.FieldType), 0, true, 4) rfl (by decide +kernel) rfl rfl (by decide) (fun _ => ⟨_, _, rfl⟩) (fm_m_go hinj), (List.forall_mem_cons.mpr ⟨fw_row nn_PM20_ok (x := 210) (k := 0) (mn := 227) (np := 2) (ob := true) (ci := 11) (⟨"NameNotesModel", "readNumber", "(II)Z"⟩, prog_14_method_25_code, 3, (Option.some Jvm.ClassFile.FieldType.boolean), 2, true, 1) rfl (by decide +kernel) rfl rfl (by decide) (fun _ => ⟨_, _, rfl⟩) (fm_m_readNumber hinj), (List.forall_mem_cons.mpr ⟨fw_row nn_PM20_ok (x := 213) (k := 0) (mn := 229) (np := 2) (ob := true) (ci := 11) (⟨"NameNotesModel", "isOne", "(II)Z"⟩, prog_14_method_31_code, 3, (Option.some Jvm.ClassFile.FieldType.boolean), 2, true, 1) rfl (by decide +kernel) rfl rfl (by decide) (fun _ => ⟨_, _, rfl⟩) (fm_m_isOne hinj), (List.forall_mem_cons.mpr ⟨fw_row nn_PM20_ok (x := 216) (k := 0) (mn := 230) (np := 2) (ob := false) (ci := 0) (⟨"NameNotesModel", "has", "(II)Z"⟩, prog_14_method_9_code, 2, (Option.some Jvm.ClassFile.FieldType.boolean), 2, false, 1) rfl (by decide +kernel) rfl rfl (by decide) (fun q => by cases q) (fm_m_has hinj), (fun _ h => absurd h List.not_mem_nil)⟩)⟩)⟩)⟩)⟩) (fun as σ K h => by
  obtain ⟨A, e, p, rfl, ⟨hm, hi, hr⟩, h0, h1⟩ := h
  have t0 : (fw_c 0).toNat = 0 := by rw [fw_c0]; rfl
  have u0 : 0 ≤ fw_c 0 ∧ fw_c 0 < ((232 : Nat) : Int) := by rw [fw_c0]; decide
  have t2 : (fw_c 2).toNat = 2 := by rw [fw_c_id (by decide) (by decide)]; rfl
  have u2 : 0 ≤ fw_c 2 ∧ fw_c 2 < ((232 : Nat) : Int) := by rw [fw_c_id (by decide) (by decide)]; decide
  have h11 := hr.1.1
  have h13 := hr.1.2.2.1
  unfold pr_knows at h0 h1
  refine ⟨rfl, fun G hG => fs_m_readKnows_0 hG (mt_go hm (fun σ1 M1 S1 => fs_m_readKnows_4 hG ⟨u2, ?_⟩))⟩
  have N1 : ab_okM ((93, 13) :: go_M) σ σ1 := fw_okM_tr (fw_okM_refl _ _) M1 (by decide)
  have hr1 := rs_M hr (fw_okM_tr (fw_okM_refl _ _) M1 (by decide))
  rw [t2, hr1.1.2.2.1.1]
  refine ⟨15, 59, A 49 13, A, e, tn e p, rfl, ⟨h13.2.1, by omega, by omega⟩, S1, hr1.1.2.2.2.2.2, fun q σ' M2 h10 => ?_, fun q q0 q1 => ?_⟩
  · rw [if_pos q] at h0
    exact fs_m_readKnows_16 hG ⟨fun z => absurd fw_c0 z, fun _ => ⟨fw_01, h0 q σ' (fw_okM_tr (fw_okM_tr (fw_okM_refl _ _) M1 (by decide)) M2 (by decide)) h10⟩⟩
  rw [if_neg (fun y => y q)] at h0 h1
  generalize pr_ix A e 59 (A 49 13) (tn e p) = u at h0 h1 q0 q1 ⊢
  have w13 : ab_ups σ1 93 13 u 93 13 = u := ab_ups_eq
  have cu : fw_c u = u := fw_c_id (by omega) (by omega)
  refine fs_m_readKnows_16 hG ⟨fun _ => ?_, fun z => absurd (fw_c1.symm.trans z) (by decide)⟩
  rw [w13]
  refine mt_go (mt_ups S1 (Or.inr ⟨rfl, by decide⟩)) (fun σ2 M2 S2 => fs_m_readKnows_30 hG ⟨u0, ?_⟩)
  have N2 : ab_okM ((93, 13) :: go_M) σ σ2 := fw_okM_tr (fw_okM_ups N1 (by decide)) M2 (by decide)
  have hr2 := rs_M hr (fw_okM_tr (fw_okM_refl _ _) N2 (by decide))
  have mk := mg_kind S2.1
  rw [t0, hr2.1.1.1]
  refine ⟨0, 57, A 49 11, A, e, _, rfl, ⟨h11.2.1, by omega, by omega⟩, S2, hr2.1.2.2.2.1, fun q σ' M3 h10 => ?_, fun q p0 p1 => ?_⟩
  · rw [if_pos q] at h0
    exact fs_m_readKnows_41 hG ⟨fun z => absurd fw_c0 z, fun _ => ⟨fw_01, h0 q σ' (fw_okM_tr (fw_okM_tr (fw_okM_refl _ _) N2 (by decide)) M3 (by decide)) h10⟩⟩
  rw [if_neg (fun y => y q)] at h0 h1
  have kq := pr_sk_k q
  generalize pr_ix A e 57 (A 49 11) (tn e (tn e p)) = x at h0 h1 p0 p1 ⊢
  have cx : fw_c x = x := fw_c_id (by omega) (by omega)
  have v13 : ab_ups σ2 93 13 x 93 13 = x := ab_ups_eq
  have k7 : ab_ups σ2 93 13 x 93 7 = σ2 93 7 := ab_ups_ne (by decide)
  have v103 : ab_ups σ2 93 13 x 103 u.toNat = A 64 u.toNat := (ab_ups_ne (fun z => absurd z.1 (by decide))).trans (hr2.2.2.2.2.2.2.2.1 u.toNat (by omega))
  refine fs_m_readKnows_41 hG ⟨fun _ => ?_, fun z => absurd (fw_c1.symm.trans z) (by decide)⟩
  rw [cu, v103, v13]
  refine ⟨⟨q0, by show u < 5; omega⟩, A 64 u.toNat, x, rfl, fs_m_readKnows_61 hG ⟨fun z => ?_, fun z => ?_⟩⟩
  · have hf : pr_hs (A 64 u.toNat) x = false := bl_f (fw_bo_eq z)
    rw [hf, if_neg (show ¬ (false = true) by decide)] at h0 h1
    rw [cu, v103]
    refine ⟨⟨q0, by show u < 5; omega⟩, ⟨q0, by show u < 5; omega⟩, trivial, ?_⟩
    show sp_m_go [(2, 93, 0)] (ab_ups (ab_ups σ2 93 13 x) 103 u.toNat (pr_or (A 64 u.toNat) x)) _
    refine mt_go (mt_ups (mt_ups S2 (Or.inr ⟨rfl, by decide⟩)) (Or.inl ⟨by decide, by decide⟩)) (fun σ3 M3 S3 => fs_m_readKnows_86 hG ⟨0, 9, e, _, rfl, by decide, S3, fun n0 σ' M4 h10 => ?_, fun n0 na nb σ' M4 r13 S4 => ?_⟩)
    · rw [if_pos n0] at h0
      refine fs_m_readKnows_93 hG ⟨fun y => absurd fw_c0 y, fun _ => ⟨fw_01, h0 n0 σ' ?_ h10⟩⟩
      exact fw_okM_tr (fw_okM_tr (fw_okM_upa (fw_okM_ups (fw_okM_tr (fw_okM_refl _ _) N2 (by decide)) (by decide)) (by decide)) M3 (by decide)) M4 (by decide)
    · rw [if_neg (fun y => y n0)] at h1
      have h1 := h1 rfl
      dsimp only at h1
      generalize (tk e (tn e (tn e (tn e p)))).2.2.2.2 = v at h1 na nb r13
      have ev : fw_c v = v := fw_c_id (by omega) (by omega)
      have eq : (u * 9 + x).toNat = u.toNat * 9 + x.toNat := by omega
      rw [eq] at h1
      have ei : fw_c (182 + 9 * u + x) = ((182 + (u.toNat * 9 + x.toNat) : Nat) : Int) := by rw [fw_c_id (by omega) (by omega)]; omega
      refine fs_m_readKnows_93 hG ⟨fun _ => ⟨by rw [ei]; exact ⟨Int.natCast_nonneg _, by omega⟩, trivial, fw_11, ?_⟩, fun y => absurd (fw_c1.symm.trans y) (by decide)⟩
      rw [ei, Int.toNat_natCast, r13, ev]
      have N4 : ab_okM ((103, 1000000) :: (93, 13) :: go_M) σ σ' := fw_okM_tr (fw_okM_tr (fw_okM_upa (fw_okM_ups (fw_okM_tr (fw_okM_refl _ _) N2 (by decide)) (by decide)) (by decide)) M3 (by decide)) M4 (by decide)
      have e96 : σ' 96 = σ 96 := fw_okM_c N4 (by decide)
      have e100 : σ' 100 = σ 100 := fw_okM_c N4 (by decide)
      have e25 : σ' 93 25 = σ 93 25 := N4 93 25 (by decide)
      have e26 : σ' 93 26 = σ 93 26 := N4 93 26 (by decide)
      have e103 : σ' 103 = ab_ups (ab_ups σ2 93 13 x) 103 u.toNat (pr_or (A 64 u.toNat) x) 103 := (fw_okM_c M4 (by decide)).trans (fw_okM_c M3 (by decide))
      have o103 : σ2 103 = σ 103 := fw_okM_c N2 (by decide)
      have Bk : ∀ k j : Nat, k ≠ 64 → k ≠ 55 → ab_ups (ab_ups A 64 u.toNat (pr_or (A 64 u.toNat) x)) 55 (u.toNat * 9 + x.toNat) v k j = A k j := fun k j q1 q2 => by rw [ab_ups_ne (fun z => q2 z.1), ab_ups_ne (fun z => q1 z.1)]
      have s96 : ∀ j : Nat, j ≠ 182 + (u.toNat * 9 + x.toNat) → ab_ups σ' 96 (182 + (u.toNat * 9 + x.toNat)) v 96 j = σ 96 j := fun j q1 => by rw [ab_ups_ne (fun z => q1 z.2), e96]
      have s100 : ab_ups σ' 96 (182 + (u.toNat * 9 + x.toNat)) v 100 = σ 100 := by rw [ab_ups_row (by decide), e100]
      refine h1 _ (fw_okM_upa (fw_okM_tr (fw_okM_refl _ _) N4 (by decide)) (by decide)) ⟨mt_ups S4 (Or.inl ⟨by decide, by decide⟩), hi, ?_, ?_⟩
      · obtain ⟨⟨c0, c1⟩, ⟨d0, d1⟩, ⟨g0, g1⟩, r1, r2, r3⟩ := hr.1
        exact ⟨⟨(s96 0 (by omega)).trans c0, c1⟩, ⟨(s96 1 (by omega)).trans d0, d1⟩, ⟨(s96 2 (by omega)).trans g0, g1⟩, rn_k_M r1 s100, rn_k_M r2 s100, rn_k_M r3 s100⟩
      · obtain ⟨r1, r2, r3, r4, r5, r6, r7, r8, r9⟩ := hr.2
        refine ⟨(s96 3 (by omega)).trans r1, fun y hy => ?_, fun c hc => ?_, fun j hj => ?_, fun j hj => ?_, r6, fun j hj => ?_, ?_, ?_⟩
        · replace hy : (y : Int) < A 49 11 := hy
          have hs := hi.2.2.2.2.2.2.1 y (by omega)
          refine ⟨(s96 _ (by omega)).trans (r2 y hy).1, fun i hy2 => ?_⟩
          replace hy2 : (i : Int) < A 52 y := hy2
          exact ⟨(s96 _ (by omega)).trans ((r2 y hy).2 i hy2).1, (s96 _ (by omega)).trans ((r2 y hy).2 i hy2).2⟩
        · replace hc : (c : Int) < A 49 12 := hc
          have := hr.1.2.1
          exact (s96 _ (by omega)).trans (r3 c hc)
        · by_cases c : j = u.toNat * 9 + x.toNat
          · rw [c, ab_ups_eq, ab_ups_eq]
          · rw [s96 _ (by omega), ab_ups_ne (fun z => c z.2), ab_ups_ne (fun z => absurd z.1 (by decide))]; exact r4 j hj
        · replace hj : (j : Int) < A 49 13 := hj
          exact (s96 _ (by omega)).trans (r5 j hj)
        · have rr : ab_ups (ab_ups A 64 u.toNat (pr_or (A 64 u.toNat) x)) 55 (u.toNat * 9 + x.toNat) v 64 j = ab_ups A 64 u.toNat (pr_or (A 64 u.toNat) x) 64 j := ab_ups_ne (fun z => absurd z.1 (by decide))
          rw [ab_ups_ne (fun z => absurd z.1 (by decide)), e103]
          refine Eq.trans ?_ rr.symm
          by_cases c : j = u.toNat
          · rw [c, ab_ups_eq, ab_ups_eq]
          · rw [ab_ups_ne (fun z => c z.2), ab_ups_ne (fun z => absurd z.1 (by decide)), ab_ups_ne (fun z => c z.2), o103]; exact r7 j hj
        · exact ((ab_ups_ne (fun z => absurd z.1 (by decide))).trans e25).trans r8
        · exact ((ab_ups_ne (fun z => absurd z.1 (by decide))).trans e26).trans r9
  · have hp : pr_hs (A 64 u.toNat) x = true := fw_bo_ne z
    rw [hp, if_pos rfl] at h0
    refine ⟨3, rfl, by decide, by rw [k7]; exact mk.2.2.2.2, fun σ' hM h10 _ => fs_m_readKnows_69 hG ⟨fw_01, h0 (by show (3 : Int) ≠ 0; decide) σ' (fw_okM_tr (fw_okM_ups (fw_okM_tr (fw_okM_refl _ _) N2 (by decide)) (by decide)) hM (by decide)) ?_⟩⟩
    rw [h10, k7, if_neg (show ¬ σ2 93 7 = 1 by have := mk.1.mpr kq; omega)])
end
end
