/-! the class's reader: how many first notes two tunes share; all lines -/
def sp_pair : fw_SP := fun as σ K => ∃ x y w : Int, as = [(0, 0, x), (0, 0, y), (0, 0, w)] ∧ K (some (0, 0, (w * 9 + x) * 9 + y)) σ
def sm_ok (σ : ab_SG) : Prop := (0 ≤ σ 49 11 ∧ σ 49 11 ≤ 9) ∧ ∀ j : Nat, j < 9 → 0 ≤ σ 52 j ∧ σ 52 j ≤ 9
def sp_isTune49 : fw_SP := fun as σ K => ∃ x : Int, as = [(2, 49, 0), (0, 0, x)] ∧ K (some (0, 0, fw_bo (0 ≤ fw_c x ∧ fw_c x < fw_c (σ 49 11)))) σ
def sp_hasNote49 : fw_SP := fun as σ K => ∃ x i : Int, as = [(2, 49, 0), (0, 0, x), (0, 0, i)] ∧ sm_ok σ ∧ (0 ≤ x ∧ x < 9 ∧ 0 ≤ i ∧ i < 9) ∧ K (some (0, 0, fw_bo (x < σ 49 11 ∧ i < σ 52 x.toNat))) σ
def sp_pitch49 : fw_SP := fun as σ K => ∃ x i : Int, as = [(2, 49, 0), (0, 0, x), (0, 0, i)] ∧ (0 ≤ x ∧ x < 9 ∧ 0 ≤ i ∧ i < 9) ∧ K (some (0, 0, σ 50 (x * 9 + i).toNat)) σ
def sp_beat49 : fw_SP := fun as σ K => ∃ x i : Int, as = [(2, 49, 0), (0, 0, x), (0, 0, i)] ∧ (0 ≤ x ∧ x < 9 ∧ 0 ≤ i ∧ i < 9) ∧ K (some (0, 0, σ 51 (x * 9 + i).toNat)) σ
/-- note i of tunes x and y is the same, in way w -/
abbrev pr_sn (A : ab_SG) (x y i w : Int) : Prop :=
  if (x < A 49 11 ∧ i < A 52 x.toNat) ∧ (y < A 49 11 ∧ i < A 52 y.toNat) then
    (if w = 3 then fw_c (A 50 (x * 9 + i).toNat - A 50 (x * 9 + 0).toNat) = fw_c (A 50 (y * 9 + i).toNat - A 50 (y * 9 + 0).toNat)
    else (w = 2 ∨ fw_c (A 50 (x * 9 + i).toNat) = fw_c (A 50 (y * 9 + i).toNat)) ∧ (w = 1 ∨ fw_c (A 51 (x * 9 + i).toNat) = fw_c (A 51 (y * 9 + i).toNat)))
  else ((x < A 49 11 ∧ i < A 52 x.toNat) ↔ (y < A 49 11 ∧ i < A 52 y.toNat))
def pr_cs (A : ab_SG) (x y w : Int) : Nat → Nat → Int
  | 0, i => i
  | f + 1, i => if pr_sn A x y i w then pr_cs A x y w f (i + 1) else i
theorem pr_cs_in {A : ab_SG} {x y w : Int} : ∀ f i : Nat, (i : Int) ≤ pr_cs A x y w f i ∧ pr_cs A x y w f i ≤ i + f := by
  intro f
  induction f with
  | zero => intro i; exact ⟨Int.le_refl _, by show (i : Int) ≤ i + ((0 : Nat) : Int); omega⟩
  | succ f ih =>
    intro i
    have := ih (i + 1)
    unfold pr_cs
    split <;> omega
theorem pr_cs_cong {A B : ab_SG} (h : ∀ a b : Nat, a ≠ 53 → A a b = B a b) {x y w : Int} : ∀ f i : Nat, pr_cs A x y w f i = pr_cs B x y w f i := by
  intro f
  induction f with
  | zero => intro i; rfl
  | succ f ih =>
    intro i
    unfold pr_cs
    have e : pr_sn A x y i w ↔ pr_sn B x y i w := by
      unfold pr_sn
      simp only [h 49 _ (by decide), h 50 _ (by decide), h 51 _ (by decide), h 52 _ (by decide)]
    by_cases q : pr_sn A x y i w
    · rw [if_pos q, if_pos (e.mp q), ih]
    · rw [if_neg q, if_neg (fun z => q (e.mpr z))]
def sp_sameNote49 : fw_SP := fun as σ K => ∃ x y i w : Int, as = [(2, 49, 0), (0, 0, x), (0, 0, y), (0, 0, i), (0, 0, w)] ∧ sm_ok σ ∧ (0 ≤ x ∧ x < 9 ∧ 0 ≤ y ∧ y < 9 ∧ 0 ≤ i ∧ i < 9 ∧ 0 ≤ w ∧ w < 4) ∧ K (some (0, 0, fw_bo (pr_sn σ x y i w))) σ
def sp_countShared49 : fw_SP := fun as σ K => ∃ x y w : Int, as = [(2, 49, 0), (0, 0, x), (0, 0, y), (0, 0, w)] ∧ sm_ok σ ∧ (0 ≤ x ∧ x < 9 ∧ 0 ≤ y ∧ y < 9 ∧ 0 ≤ w ∧ w < 4) ∧ K (some (0, 0, pr_cs σ x y w 9 0)) σ
def sp_compareAll : fw_SP := fun as σ K => as = [(2, 49, 0)] ∧ sm_ok σ ∧ ∀ σ' : ab_SG, (∀ a b : Nat, a ≠ 53 → σ' a b = σ a b) → (∀ w x y : Nat, w < 4 → (x : Int) < σ 49 11 → (y : Int) < σ 49 11 → σ' 53 ((w * 9 + x) * 9 + y) = pr_cs σ x y w 9 0) → K none σ'
def ca_is (σ σ1 : ab_SG) (w x y : Nat) : Prop := (∀ a b : Nat, a ≠ 53 → σ1 a b = σ a b) ∧ ∀ w' x' y' : Nat, w' < 4 → (x' : Int) < σ 49 11 → (y' : Int) < σ 49 11 → (w' < w ∨ (w' = w ∧ (x' < x ∨ (x' = x ∧ y' < y)))) → σ1 53 ((w' * 9 + x') * 9 + y') = pr_cs σ x' y' w' 9 0
def sp_sclear : fw_SP := fun as σ K => as = [(2, 60, 0)] ∧ K none (ab_ups (ab_ups σ 60 3 0) 60 4 0)
/-- nothing told -/
def cl_is (A : ab_SG) : Prop := A 49 11 = 0 ∧ A 49 12 = 0 ∧ A 49 13 = 0 ∧ A 49 14 = 9 ∧ (∀ b : Nat, b < 45 → A 55 b = 0) ∧ (∀ b : Nat, b < 5 → A 56 b = 5) ∧ A 60 3 = 0 ∧ A 60 4 = 0
def cl_M : ab_ML := [(49, 11), (49, 12), (49, 13), (49, 14), (55, 1000000), (56, 1000000), (60, 3), (60, 4)]
def sp_clear49 : fw_SP := fun as σ K => as = [(2, 49, 0)] ∧ ∀ σ' : ab_SG, ab_okM cl_M σ σ' → cl_is σ' → K none σ'
/-- what the reader begins with -/
def rl_is (A : ab_SG) : Prop := cl_is A ∧ (∀ b : Nat, b < 5 → A 64 b = 0) ∧ A 48 3 = 0 ∧ A 48 4 = 0 ∧ A 48 5 = 0
theorem rl_nb {A : ab_SG} (h : rl_is A) : nb_is A := by
  obtain ⟨⟨a11, a12, -, a14, a55, a56, -, -⟩, -⟩ := h
  refine ⟨fun x hx => ?_, fun c hc => ?_, fun j hj => ?_, fun j hj => ?_, ?_⟩
  · rw [a11] at hx; exact absurd hx (by omega)
  · rw [a12] at hc; exact absurd hc (by omega)
  · rw [a55 j hj]; decide
  · rw [a56 j hj]; decide
  · rw [a14]; decide
def rl_M : ab_ML := (1, 2) :: (48, 5) :: (53, 1000000) :: (60, 3) :: (60, 4) :: rd_M
/-- rows that the words' numbers and the sizes lie in -/
def rl_ok (σ : ab_SG) : Prop := (∀ j : Nat, j < 9 → fw_d (σ 57 j) = σ 57 j) ∧ (∀ j : Nat, j < 6 → fw_d (σ 58 j) = σ 58 j) ∧ (∀ j : Nat, j < 5 → fw_d (σ 59 j) = σ 59 j) ∧ (∀ j : Nat, j < 9 → 0 ≤ σ 52 j ∧ σ 52 j ≤ 9)
/-- a studio's text, whole -/
def pr_read (A : ab_SG) (t : Nat → Int) (n : Nat) : pr_R × Int := pr_all (t, n, 900) 900 0 A 0
def sp_read : fw_SP := fun as σ K => as = [(2, 48, 0)] ∧ (0 ≤ σ 1 1 ∧ σ 1 1 ≤ 940) ∧ rl_ok σ ∧ ∀ (A σ' : ab_SG), rl_is A → rl_ok A → ab_okM rl_M σ σ' → eT σ' = (tp_t σ, (σ 1 1).toNat, 900) →
  ((pr_read A (tp_t σ) (σ 1 1).toNat).1.1 ≠ 0 → σ' 1 9 = (pr_read A (tp_t σ) (σ 1 1).toNat).1.1 → K (some (0, 0, 0)) σ') ∧
  ((pr_read A (tp_t σ) (σ 1 1).toNat).1.1 = 0 → σ' 1 9 = 0 → agr σ' (pr_read A (tp_t σ) (σ 1 1).toNat).1.2.1 → σ' 48 5 = (pr_read A (tp_t σ) (σ 1 1).toNat).2 → σ' 60 3 = 0 → σ' 60 4 = 0 →
    (∀ w x y : Nat, w < 4 → (x : Int) < σ' 49 11 → (y : Int) < σ' 49 11 → σ' 53 ((w * 9 + x) * 9 + y) = pr_cs σ' x y w 9 0) → RI (pr_read A (tp_t σ) (σ 1 1).toNat).1.2.1 → nb_is (pr_read A (tp_t σ) (σ 1 1).toNat).1.2.1 → K (some (0, 0, 1)) σ')
abbrev fk_pair : List fw_CR := []
abbrev st_pair : fw_K → fw_KR → fw_K := fw_st vwCl nn_sh nn_kd fw_kv fw_wc (nn_KI6.map (fun x => x.1)) (nn_KJ6.map (fun x => x.1)) (nn_PF6.map (fun x => x.1)) (nn_PS6.map (fun x => x.1)) fk_pair 0 nn_dt42 3 0
theorem fs_pair_0 {G : fw_K} {R : fw_KR} (hG : fw_cls st_pair R G) {x y w : Int} {σ : ab_SG} (h : R (some (0, 0, (((w * 9) + x) * 9) + y)) σ) : G 0 [some (0, 0, x), some (0, 0, y), some (0, 0, w)] [] σ := fw_on hG [] 200 h
abbrev fk_isTune49 : List fw_CR := []
abbrev st_isTune49 : fw_K → fw_KR → fw_K := fw_st vwCl nn_sh nn_kd fw_kv fw_wc (nn_KI6.map (fun x => x.1)) (nn_KJ6.map (fun x => x.1)) (nn_PF6.map (fun x => x.1)) (nn_PS6.map (fun x => x.1)) fk_isTune49 0 nn_dt46 2 1
theorem fs_isTune49_0 {G : fw_K} {R : fw_KR} (hG : fw_cls st_isTune49 R G) {x : Int} {σ : ab_SG} (h : (fw_c x < 0 → (0 ≤ fw_c 0 ∧ fw_c 0 ≤ 1) ∧ R (some (0, 0, 0)) σ) ∧ (0 ≤ fw_c x → (fw_c (σ 49 11) ≤ fw_c x → (0 ≤ fw_c 0 ∧ fw_c 0 ≤ 1) ∧ R (some (0, 0, 0)) σ) ∧ (fw_c x < fw_c (σ 49 11) → (0 ≤ fw_c 1 ∧ fw_c 1 ≤ 1) ∧ R (some (0, 0, 1)) σ))) : G 0 [some (2, 49, 0), some (0, 0, x)] [] σ := fw_on hG [] 200 h
abbrev fk_hasNote49 : List fw_CR := [(92, 2, false, 0, 0, sp_at), (96, 1, true, 6, 0, sp_isTune49)]
abbrev st_hasNote49 : fw_K → fw_KR → fw_K := fw_st vwCl nn_sh nn_kd fw_kv fw_wc (nn_KI6.map (fun x => x.1)) (nn_KJ6.map (fun x => x.1)) (nn_PF6.map (fun x => x.1)) (nn_PS6.map (fun x => x.1)) fk_hasNote49 1 nn_dt45 3 1
theorem fs_hasNote49_0 {G : fw_K} {R : fw_KR} (hG : fw_cls st_hasNote49 R G) {x i : Int} {σ : ab_SG} (h : sp_isTune49 [(2, 49, 0), (0, 0, x)] σ (fun rv σ2 => G 5 [some (2, 49, 0), some (0, 0, x), some (0, 0, i)] (rv.toList ++ []) σ2)) : G 0 [some (2, 49, 0), some (0, 0, x), some (0, 0, i)] [] σ := fw_on hG [5, 21] 200 h
theorem fs_hasNote49_5 {G : fw_K} {R : fw_KR} (hG : fw_cls st_hasNote49 R G) {a1 a2 b0 : Int} {σ : ab_SG} (h : (fw_c b0 = 0 → (0 ≤ fw_c 0 ∧ fw_c 0 ≤ 1) ∧ R (some (0, 0, 0)) σ) ∧ (fw_c b0 ≠ 0 → (fw_c a2 < 0 → (0 ≤ fw_c 0 ∧ fw_c 0 ≤ 1) ∧ R (some (0, 0, 0)) σ) ∧ (0 ≤ fw_c a2 → sp_at [(2, 52, 0), (0, 0, a1)] σ (fun rv σ2 => G 21 [some (2, 49, 0), some (0, 0, a1), some (0, 0, a2)] (rv.toList ++ [(0, 0, a2)]) σ2)))) : G 5 [some (2, 49, 0), some (0, 0, a1), some (0, 0, a2)] [(0, 0, b0)] σ := fw_on hG [5, 21] 200 h
theorem fs_hasNote49_21 {G : fw_K} {R : fw_KR} (hG : fw_cls st_hasNote49 R G) {a1 a2 b0 b1 : Int} {σ : ab_SG} (h : (fw_c b0 ≤ fw_c b1 → (0 ≤ fw_c 0 ∧ fw_c 0 ≤ 1) ∧ R (some (0, 0, 0)) σ) ∧ (fw_c b1 < fw_c b0 → (0 ≤ fw_c 1 ∧ fw_c 1 ≤ 1) ∧ R (some (0, 0, 1)) σ)) : G 21 [some (2, 49, 0), some (0, 0, a1), some (0, 0, a2)] [(0, 0, b0), (0, 0, b1)] σ := fw_on hG [5, 21] 200 h
abbrev fk_pitch49 : List fw_CR := [(92, 2, false, 0, 0, sp_at)]
abbrev st_pitch49 : fw_K → fw_KR → fw_K := fw_st vwCl nn_sh nn_kd fw_kv fw_wc (nn_KI6.map (fun x => x.1)) (nn_KJ6.map (fun x => x.1)) (nn_PF6.map (fun x => x.1)) (nn_PS6.map (fun x => x.1)) fk_pitch49 1 nn_dt47 3 0
theorem fs_pitch49_0 {G : fw_K} {R : fw_KR} (hG : fw_cls st_pitch49 R G) {x i : Int} {σ : ab_SG} (h : sp_at [(2, 50, 0), (0, 0, (x * 9) + i)] σ (fun rv σ2 => G 13 [some (2, 49, 0), some (0, 0, x), some (0, 0, i)] (rv.toList ++ []) σ2)) : G 0 [some (2, 49, 0), some (0, 0, x), some (0, 0, i)] [] σ := fw_on hG [13] 200 h
theorem fs_pitch49_13 {G : fw_K} {R : fw_KR} (hG : fw_cls st_pitch49 R G) {a1 a2 b0 : Int} {σ : ab_SG} (h : R (some (0, 0, b0)) σ) : G 13 [some (2, 49, 0), some (0, 0, a1), some (0, 0, a2)] [(0, 0, b0)] σ := fw_on hG [13] 200 h
abbrev fk_beat49 : List fw_CR := [(92, 2, false, 0, 0, sp_at)]
abbrev st_beat49 : fw_K → fw_KR → fw_K := fw_st vwCl nn_sh nn_kd fw_kv fw_wc (nn_KI6.map (fun x => x.1)) (nn_KJ6.map (fun x => x.1)) (nn_PF6.map (fun x => x.1)) (nn_PS6.map (fun x => x.1)) fk_beat49 1 nn_dt48 3 0
theorem fs_beat49_0 {G : fw_K} {R : fw_KR} (hG : fw_cls st_beat49 R G) {x i : Int} {σ : ab_SG} (h : sp_at [(2, 51, 0), (0, 0, (x * 9) + i)] σ (fun rv σ2 => G 13 [some (2, 49, 0), some (0, 0, x), some (0, 0, i)] (rv.toList ++ []) σ2)) : G 0 [some (2, 49, 0), some (0, 0, x), some (0, 0, i)] [] σ := fw_on hG [13] 200 h
theorem fs_beat49_13 {G : fw_K} {R : fw_KR} (hG : fw_cls st_beat49 R G) {a1 a2 b0 : Int} {σ : ab_SG} (h : R (some (0, 0, b0)) σ) : G 13 [some (2, 49, 0), some (0, 0, a1), some (0, 0, a2)] [(0, 0, b0)] σ := fw_on hG [13] 200 h
abbrev fk_sameNote49 : List fw_CR := [(103, 2, true, 6, 1, sp_pitch49), (115, 2, true, 6, 1, sp_beat49), (118, 2, true, 6, 1, sp_hasNote49)]
abbrev st_sameNote49 : fw_K → fw_KR → fw_K := fw_st vwCl nn_sh nn_kd fw_kv fw_wc (nn_KI6.map (fun x => x.1)) (nn_KJ6.map (fun x => x.1)) (nn_PF6.map (fun x => x.1)) (nn_PS6.map (fun x => x.1)) fk_sameNote49 2 nn_dt44 7 1
theorem fs_sameNote49_0 {G : fw_K} {R : fw_KR} (hG : fw_cls st_sameNote49 R G) {x y i w : Int} {σ : ab_SG} (h : sp_hasNote49 [(2, 49, 0), (0, 0, x), (0, 0, i)] σ (fun rv σ2 => G 6 [some (2, 49, 0), some (0, 0, x), some (0, 0, y), some (0, 0, i), some (0, 0, w), none, none] (rv.toList ++ []) σ2)) : G 0 [some (2, 49, 0), some (0, 0, x), some (0, 0, y), some (0, 0, i), some (0, 0, w), none, none] [] σ := fw_on hG [6, 15, 18, 24, 30, 51, 57, 64, 70, 86, 92, 100, 108, 114, 122, 135] 200 h
theorem fs_sameNote49_6 {G : fw_K} {R : fw_KR} (hG : fw_cls st_sameNote49 R G) {a1 a2 a3 a4 b0 : Int} {σ : ab_SG} (h : (fw_c b0 = 0 → G 18 [some (2, 49, 0), some (0, 0, a1), some (0, 0, a2), some (0, 0, a3), some (0, 0, a4), none, none] [] σ) ∧ (fw_c b0 ≠ 0 → sp_hasNote49 [(2, 49, 0), (0, 0, a2), (0, 0, a3)] σ (fun rv σ2 => G 15 [some (2, 49, 0), some (0, 0, a1), some (0, 0, a2), some (0, 0, a3), some (0, 0, a4), none, none] (rv.toList ++ []) σ2))) : G 6 [some (2, 49, 0), some (0, 0, a1), some (0, 0, a2), some (0, 0, a3), some (0, 0, a4), none, none] [(0, 0, b0)] σ := fw_on hG [6, 15, 18, 24, 30, 51, 57, 64, 70, 86, 92, 100, 108, 114, 122, 135] 200 h
theorem fs_sameNote49_18 {G : fw_K} {R : fw_KR} (hG : fw_cls st_sameNote49 R G) {a1 a2 a3 a4 : Int} {σ : ab_SG} (h : sp_hasNote49 [(2, 49, 0), (0, 0, a1), (0, 0, a3)] σ (fun rv σ2 => G 24 [some (2, 49, 0), some (0, 0, a1), some (0, 0, a2), some (0, 0, a3), some (0, 0, a4), none, none] (rv.toList ++ []) σ2)) : G 18 [some (2, 49, 0), some (0, 0, a1), some (0, 0, a2), some (0, 0, a3), some (0, 0, a4), none, none] [] σ := fw_on hG [6, 15, 18, 24, 30, 51, 57, 64, 70, 86, 92, 100, 108, 114, 122, 135] 200 h
theorem fs_sameNote49_15 {G : fw_K} {R : fw_KR} (hG : fw_cls st_sameNote49 R G) {a1 a2 a3 a4 b0 : Int} {σ : ab_SG} (h : (fw_c b0 ≠ 0 → (fw_c a4 ≠ fw_c 3 → sp_pitch49 [(2, 49, 0), (0, 0, a1), (0, 0, a3)] σ (fun rv σ2 => G 86 [some (2, 49, 0), some (0, 0, a1), some (0, 0, a2), some (0, 0, a3), some (0, 0, a4), none, none] (rv.toList ++ []) σ2)) ∧ (fw_c a4 = fw_c 3 → sp_pitch49 [(2, 49, 0), (0, 0, a1), (0, 0, a3)] σ (fun rv σ2 => G 51 [some (2, 49, 0), some (0, 0, a1), some (0, 0, a2), some (0, 0, a3), some (0, 0, a4), none, none] (rv.toList ++ []) σ2))) ∧ (fw_c b0 = 0 → G 18 [some (2, 49, 0), some (0, 0, a1), some (0, 0, a2), some (0, 0, a3), some (0, 0, a4), none, none] [] σ)) : G 15 [some (2, 49, 0), some (0, 0, a1), some (0, 0, a2), some (0, 0, a3), some (0, 0, a4), none, none] [(0, 0, b0)] σ := fw_on hG [6, 15, 18, 24, 30, 51, 57, 64, 70, 86, 92, 100, 108, 114, 122, 135] 200 h
theorem fs_sameNote49_24 {G : fw_K} {R : fw_KR} (hG : fw_cls st_sameNote49 R G) {a1 a2 a3 a4 b0 : Int} {σ : ab_SG} (h : sp_hasNote49 [(2, 49, 0), (0, 0, a2), (0, 0, a3)] σ (fun rv σ2 => G 30 [some (2, 49, 0), some (0, 0, a1), some (0, 0, a2), some (0, 0, a3), some (0, 0, a4), none, none] (rv.toList ++ [(0, 0, b0)]) σ2)) : G 24 [some (2, 49, 0), some (0, 0, a1), some (0, 0, a2), some (0, 0, a3), some (0, 0, a4), none, none] [(0, 0, b0)] σ := fw_on hG [6, 15, 18, 24, 30, 51, 57, 64, 70, 86, 92, 100, 108, 114, 122, 135] 200 h
theorem fs_sameNote49_86 {G : fw_K} {R : fw_KR} (hG : fw_cls st_sameNote49 R G) {a1 a2 a3 a4 b0 : Int} {σ : ab_SG} (h : sp_pitch49 [(2, 49, 0), (0, 0, a2), (0, 0, a3)] σ (fun rv σ2 => G 92 [some (2, 49, 0), some (0, 0, a1), some (0, 0, a2), some (0, 0, a3), some (0, 0, a4), none, none] (rv.toList ++ [(0, 0, b0)]) σ2)) : G 86 [some (2, 49, 0), some (0, 0, a1), some (0, 0, a2), some (0, 0, a3), some (0, 0, a4), none, none] [(0, 0, b0)] σ := fw_on hG [6, 15, 18, 24, 30, 51, 57, 64, 70, 86, 92, 100, 108, 114, 122, 135] 200 h
theorem fs_sameNote49_51 {G : fw_K} {R : fw_KR} (hG : fw_cls st_sameNote49 R G) {a1 a2 a3 a4 b0 : Int} {σ : ab_SG} (h : sp_pitch49 [(2, 49, 0), (0, 0, a1), (0, 0, 0)] σ (fun rv σ2 => G 57 [some (2, 49, 0), some (0, 0, a1), some (0, 0, a2), some (0, 0, a3), some (0, 0, a4), none, none] (rv.toList ++ [(0, 0, b0)]) σ2)) : G 51 [some (2, 49, 0), some (0, 0, a1), some (0, 0, a2), some (0, 0, a3), some (0, 0, a4), none, none] [(0, 0, b0)] σ := fw_on hG [6, 15, 18, 24, 30, 51, 57, 64, 70, 86, 92, 100, 108, 114, 122, 135] 200 h
theorem fs_sameNote49_30 {G : fw_K} {R : fw_KR} (hG : fw_cls st_sameNote49 R G) {a1 a2 a3 a4 b0 b1 : Int} {σ : ab_SG} (h : (fw_c b1 ≠ fw_c b0 → (0 ≤ fw_c 0 ∧ fw_c 0 ≤ 1) ∧ R (some (0, 0, 0)) σ) ∧ (fw_c b1 = fw_c b0 → (0 ≤ fw_c 1 ∧ fw_c 1 ≤ 1) ∧ R (some (0, 0, 1)) σ)) : G 30 [some (2, 49, 0), some (0, 0, a1), some (0, 0, a2), some (0, 0, a3), some (0, 0, a4), none, none] [(0, 0, b0), (0, 0, b1)] σ := fw_on hG [6, 15, 18, 24, 30, 51, 57, 64, 70, 86, 92, 100, 108, 114, 122, 135] 200 h
theorem fs_sameNote49_92 {G : fw_K} {R : fw_KR} (hG : fw_cls st_sameNote49 R G) {a1 a2 a3 a4 b0 b1 : Int} {σ : ab_SG} (h : (fw_c b1 ≠ fw_c b0 → G 100 [some (2, 49, 0), some (0, 0, a1), some (0, 0, a2), some (0, 0, a3), some (0, 0, a4), none, none] [(0, 0, 0)] σ) ∧ (fw_c b1 = fw_c b0 → G 100 [some (2, 49, 0), some (0, 0, a1), some (0, 0, a2), some (0, 0, a3), some (0, 0, a4), none, none] [(0, 0, 1)] σ)) : G 92 [some (2, 49, 0), some (0, 0, a1), some (0, 0, a2), some (0, 0, a3), some (0, 0, a4), none, none] [(0, 0, b0), (0, 0, b1)] σ := fw_on hG [6, 15, 18, 24, 30, 51, 57, 64, 70, 86, 92, 100, 108, 114, 122, 135] 200 h
theorem fs_sameNote49_57 {G : fw_K} {R : fw_KR} (hG : fw_cls st_sameNote49 R G) {a1 a2 a3 a4 b0 b1 : Int} {σ : ab_SG} (h : sp_pitch49 [(2, 49, 0), (0, 0, a2), (0, 0, a3)] σ (fun rv σ2 => G 64 [some (2, 49, 0), some (0, 0, a1), some (0, 0, a2), some (0, 0, a3), some (0, 0, a4), none, none] (rv.toList ++ [(0, 0, b1 - b0)]) σ2)) : G 57 [some (2, 49, 0), some (0, 0, a1), some (0, 0, a2), some (0, 0, a3), some (0, 0, a4), none, none] [(0, 0, b0), (0, 0, b1)] σ := fw_on hG [6, 15, 18, 24, 30, 51, 57, 64, 70, 86, 92, 100, 108, 114, 122, 135] 200 h
theorem fs_sameNote49_100 {G : fw_K} {R : fw_KR} (hG : fw_cls st_sameNote49 R G) {a1 a2 a3 a4 b0 : Int} {σ : ab_SG} (h : sp_beat49 [(2, 49, 0), (0, 0, a1), (0, 0, a3)] σ (fun rv σ2 => G 108 [some (2, 49, 0), some (0, 0, a1), some (0, 0, a2), some (0, 0, a3), some (0, 0, a4), some (0, 0, b0), none] (rv.toList ++ []) σ2)) : G 100 [some (2, 49, 0), some (0, 0, a1), some (0, 0, a2), some (0, 0, a3), some (0, 0, a4), none, none] [(0, 0, b0)] σ := fw_on hG [6, 15, 18, 24, 30, 51, 57, 64, 70, 86, 92, 100, 108, 114, 122, 135] 200 h
theorem fs_sameNote49_64 {G : fw_K} {R : fw_KR} (hG : fw_cls st_sameNote49 R G) {a1 a2 a3 a4 b0 b1 : Int} {σ : ab_SG} (h : sp_pitch49 [(2, 49, 0), (0, 0, a2), (0, 0, 0)] σ (fun rv σ2 => G 70 [some (2, 49, 0), some (0, 0, a1), some (0, 0, a2), some (0, 0, a3), some (0, 0, a4), none, none] (rv.toList ++ [(0, 0, b0), (0, 0, b1)]) σ2)) : G 64 [some (2, 49, 0), some (0, 0, a1), some (0, 0, a2), some (0, 0, a3), some (0, 0, a4), none, none] [(0, 0, b0), (0, 0, b1)] σ := fw_on hG [6, 15, 18, 24, 30, 51, 57, 64, 70, 86, 92, 100, 108, 114, 122, 135] 200 h
theorem fs_sameNote49_108 {G : fw_K} {R : fw_KR} (hG : fw_cls st_sameNote49 R G) {a1 a2 a3 a4 a5 b0 : Int} {σ : ab_SG} (h : sp_beat49 [(2, 49, 0), (0, 0, a2), (0, 0, a3)] σ (fun rv σ2 => G 114 [some (2, 49, 0), some (0, 0, a1), some (0, 0, a2), some (0, 0, a3), some (0, 0, a4), some (0, 0, a5), none] (rv.toList ++ [(0, 0, b0)]) σ2)) : G 108 [some (2, 49, 0), some (0, 0, a1), some (0, 0, a2), some (0, 0, a3), some (0, 0, a4), some (0, 0, a5), none] [(0, 0, b0)] σ := fw_on hG [6, 15, 18, 24, 30, 51, 57, 64, 70, 86, 92, 100, 108, 114, 122, 135] 200 h
theorem fs_sameNote49_70 {G : fw_K} {R : fw_KR} (hG : fw_cls st_sameNote49 R G) {a1 a2 a3 a4 b0 b1 b2 : Int} {σ : ab_SG} (h : (fw_c b2 ≠ fw_c (b1 - b0) → (0 ≤ fw_c 0 ∧ fw_c 0 ≤ 1) ∧ R (some (0, 0, 0)) σ) ∧ (fw_c b2 = fw_c (b1 - b0) → (0 ≤ fw_c 1 ∧ fw_c 1 ≤ 1) ∧ R (some (0, 0, 1)) σ)) : G 70 [some (2, 49, 0), some (0, 0, a1), some (0, 0, a2), some (0, 0, a3), some (0, 0, a4), none, none] [(0, 0, b0), (0, 0, b1), (0, 0, b2)] σ := fw_on hG [6, 15, 18, 24, 30, 51, 57, 64, 70, 86, 92, 100, 108, 114, 122, 135] 200 h
theorem fs_sameNote49_114 {G : fw_K} {R : fw_KR} (hG : fw_cls st_sameNote49 R G) {a1 a2 a3 a4 a5 b0 b1 : Int} {σ : ab_SG} (h : (fw_c b1 ≠ fw_c b0 → G 122 [some (2, 49, 0), some (0, 0, a1), some (0, 0, a2), some (0, 0, a3), some (0, 0, a4), some (0, 0, a5), none] [(0, 0, 0)] σ) ∧ (fw_c b1 = fw_c b0 → G 122 [some (2, 49, 0), some (0, 0, a1), some (0, 0, a2), some (0, 0, a3), some (0, 0, a4), some (0, 0, a5), none] [(0, 0, 1)] σ)) : G 114 [some (2, 49, 0), some (0, 0, a1), some (0, 0, a2), some (0, 0, a3), some (0, 0, a4), some (0, 0, a5), none] [(0, 0, b0), (0, 0, b1)] σ := fw_on hG [6, 15, 18, 24, 30, 51, 57, 64, 70, 86, 92, 100, 108, 114, 122, 135] 200 h
theorem fs_sameNote49_122 {G : fw_K} {R : fw_KR} (hG : fw_cls st_sameNote49 R G) {a1 a2 a3 a4 a5 b0 : Int} {σ : ab_SG} (h : (fw_c a4 = fw_c 2 → G 135 [some (2, 49, 0), some (0, 0, a1), some (0, 0, a2), some (0, 0, a3), some (0, 0, a4), some (0, 0, a5), some (0, 0, b0)] [] σ) ∧ (fw_c a4 ≠ fw_c 2 → (fw_c a5 = 0 → (0 ≤ fw_c 0 ∧ fw_c 0 ≤ 1) ∧ R (some (0, 0, 0)) σ) ∧ (fw_c a5 ≠ 0 → G 135 [some (2, 49, 0), some (0, 0, a1), some (0, 0, a2), some (0, 0, a3), some (0, 0, a4), some (0, 0, a5), some (0, 0, b0)] [] σ))) : G 122 [some (2, 49, 0), some (0, 0, a1), some (0, 0, a2), some (0, 0, a3), some (0, 0, a4), some (0, 0, a5), none] [(0, 0, b0)] σ := fw_on hG [6, 15, 18, 24, 30, 51, 57, 64, 70, 86, 92, 100, 108, 114, 122, 135] 200 h
theorem fs_sameNote49_135 {G : fw_K} {R : fw_KR} (hG : fw_cls st_sameNote49 R G) {a1 a2 a3 a4 a5 a6 : Int} {σ : ab_SG} (h : (fw_c a4 = fw_c 1 → (0 ≤ fw_c 1 ∧ fw_c 1 ≤ 1) ∧ R (some (0, 0, 1)) σ) ∧ (fw_c a4 ≠ fw_c 1 → (fw_c a6 = 0 → (0 ≤ fw_c 0 ∧ fw_c 0 ≤ 1) ∧ R (some (0, 0, 0)) σ) ∧ (fw_c a6 ≠ 0 → (0 ≤ fw_c 1 ∧ fw_c 1 ≤ 1) ∧ R (some (0, 0, 1)) σ))) : G 135 [some (2, 49, 0), some (0, 0, a1), some (0, 0, a2), some (0, 0, a3), some (0, 0, a4), some (0, 0, a5), some (0, 0, a6)] [] σ := fw_on hG [6, 15, 18, 24, 30, 51, 57, 64, 70, 86, 92, 100, 108, 114, 122, 135] 200 h
abbrev fk_countShared49 : List fw_CR := [(129, 4, true, 6, 2, sp_sameNote49)]
abbrev st_countShared49 : fw_K → fw_KR → fw_K := fw_st vwCl nn_sh nn_kd fw_kv fw_wc (nn_KI6.map (fun x => x.1)) (nn_KJ6.map (fun x => x.1)) (nn_PF6.map (fun x => x.1)) (nn_PS6.map (fun x => x.1)) fk_countShared49 3 nn_dt43 6 0
theorem fs_countShared49_0 {G : fw_K} {R : fw_KR} (hG : fw_cls st_countShared49 R G) {x y w : Int} {σ : ab_SG} (h : G 6 [some (2, 49, 0), some (0, 0, x), some (0, 0, y), some (0, 0, w), some (0, 0, 0), some (0, 0, 0)] [] σ) : G 0 [some (2, 49, 0), some (0, 0, x), some (0, 0, y), some (0, 0, w), none, none] [] σ := fw_on hG [6, 22] 200 h
theorem fs_countShared49_6 {G : fw_K} {R : fw_KR} (hG : fw_cls st_countShared49 R G) {a1 a2 a3 a4 a5 : Int} {σ : ab_SG} (h : (fw_c 9 ≤ fw_c a5 → R (some (0, 0, a4)) σ) ∧ (fw_c a5 < fw_c 9 → sp_sameNote49 [(2, 49, 0), (0, 0, a1), (0, 0, a2), (0, 0, a5), (0, 0, a3)] σ (fun rv σ2 => G 22 [some (2, 49, 0), some (0, 0, a1), some (0, 0, a2), some (0, 0, a3), some (0, 0, a4), some (0, 0, a5)] (rv.toList ++ []) σ2))) : G 6 [some (2, 49, 0), some (0, 0, a1), some (0, 0, a2), some (0, 0, a3), some (0, 0, a4), some (0, 0, a5)] [] σ := fw_on hG [6, 22] 200 h
theorem fs_countShared49_22 {G : fw_K} {R : fw_KR} (hG : fw_cls st_countShared49 R G) {a1 a2 a3 a4 a5 b0 : Int} {σ : ab_SG} (h : (fw_c b0 = 0 → R (some (0, 0, a4)) σ) ∧ (fw_c b0 ≠ 0 → G 6 [some (2, 49, 0), some (0, 0, a1), some (0, 0, a2), some (0, 0, a3), some (0, 0, a4 + 1), some (0, 0, a5 + 1)] [] σ)) : G 22 [some (2, 49, 0), some (0, 0, a1), some (0, 0, a2), some (0, 0, a3), some (0, 0, a4), some (0, 0, a5)] [(0, 0, b0)] σ := fw_on hG [6, 22] 200 h
abbrev fk_compareAll : List fw_CR := [(99, 3, false, 0, 0, sp_put), (122, 3, false, 0, 0, sp_pair), (126, 3, true, 6, 3, sp_countShared49)]
abbrev st_compareAll : fw_K → fw_KR → fw_K := fw_st vwCl nn_sh nn_kd fw_kv fw_wc (nn_KI6.map (fun x => x.1)) (nn_KJ6.map (fun x => x.1)) (nn_PF6.map (fun x => x.1)) (nn_PS6.map (fun x => x.1)) fk_compareAll 6 nn_dt41 4 4
theorem fs_compareAll_0 {G : fw_K} {R : fw_KR} (hG : fw_cls st_compareAll R G) {σ : ab_SG} (h : G 2 [some (2, 49, 0), some (0, 0, 0), none, none] [] σ) : G 0 [some (2, 49, 0), none, none, none] [] σ := fw_on hG [2, 9, 19, 37, 44, 47] 200 h
theorem fs_compareAll_2 {G : fw_K} {R : fw_KR} (hG : fw_cls st_compareAll R G) {a1 : Int} {σ : ab_SG} (h : (fw_c 4 ≤ fw_c a1 → R none σ) ∧ (fw_c a1 < fw_c 4 → G 9 [some (2, 49, 0), some (0, 0, a1), some (0, 0, 0), none] [] σ)) : G 2 [some (2, 49, 0), some (0, 0, a1), none, none] [] σ := fw_on hG [2, 9, 19, 37, 44, 47] 200 h
theorem fs_compareAll_9 {G : fw_K} {R : fw_KR} (hG : fw_cls st_compareAll R G) {a1 a2 : Int} {σ : ab_SG} (h : (fw_c (σ 49 11) ≤ fw_c a2 → G 2 [some (2, 49, 0), some (0, 0, a1 + 1), some (0, 0, a2), none] [] σ) ∧ (fw_c a2 < fw_c (σ 49 11) → G 19 [some (2, 49, 0), some (0, 0, a1), some (0, 0, a2), some (0, 0, 0)] [] σ)) : G 9 [some (2, 49, 0), some (0, 0, a1), some (0, 0, a2), none] [] σ := fw_on hG [2, 9, 19, 37, 44, 47] 200 h
theorem fs_compareAll_2a {G : fw_K} {R : fw_KR} (hG : fw_cls st_compareAll R G) {a1 a2 : Int} {σ : ab_SG} (h : (fw_c 4 ≤ fw_c a1 → R none σ) ∧ (fw_c a1 < fw_c 4 → G 9 [some (2, 49, 0), some (0, 0, a1), some (0, 0, 0), none] [] σ)) : G 2 [some (2, 49, 0), some (0, 0, a1), some (0, 0, a2), none] [] σ := fw_on hG [2, 9, 19, 37, 44, 47] 200 h
theorem fs_compareAll_19 {G : fw_K} {R : fw_KR} (hG : fw_cls st_compareAll R G) {a1 a2 a3 : Int} {σ : ab_SG} (h : (fw_c (σ 49 11) ≤ fw_c a3 → G 9 [some (2, 49, 0), some (0, 0, a1), some (0, 0, a2 + 1), some (0, 0, a3)] [] σ) ∧ (fw_c a3 < fw_c (σ 49 11) → sp_pair [(0, 0, a2), (0, 0, a3), (0, 0, a1)] σ (fun rv σ2 => G 37 [some (2, 49, 0), some (0, 0, a1), some (0, 0, a2), some (0, 0, a3)] (rv.toList ++ [(2, 53, 0)]) σ2))) : G 19 [some (2, 49, 0), some (0, 0, a1), some (0, 0, a2), some (0, 0, a3)] [] σ := fw_on hG [2, 9, 19, 37, 44, 47] 200 h
theorem fs_compareAll_9a {G : fw_K} {R : fw_KR} (hG : fw_cls st_compareAll R G) {a1 a2 a3 : Int} {σ : ab_SG} (h : (fw_c (σ 49 11) ≤ fw_c a2 → G 2 [some (2, 49, 0), some (0, 0, a1 + 1), some (0, 0, a2), some (0, 0, a3)] [] σ) ∧ (fw_c a2 < fw_c (σ 49 11) → G 19 [some (2, 49, 0), some (0, 0, a1), some (0, 0, a2), some (0, 0, 0)] [] σ)) : G 9 [some (2, 49, 0), some (0, 0, a1), some (0, 0, a2), some (0, 0, a3)] [] σ := fw_on hG [2, 9, 19, 37, 44, 47] 200 h
theorem fs_compareAll_37 {G : fw_K} {R : fw_KR} (hG : fw_cls st_compareAll R G) {a1 a2 a3 b0 : Int} {σ : ab_SG} (h : sp_countShared49 [(2, 49, 0), (0, 0, a2), (0, 0, a3), (0, 0, a1)] σ (fun rv σ2 => G 44 [some (2, 49, 0), some (0, 0, a1), some (0, 0, a2), some (0, 0, a3)] (rv.toList ++ [(0, 0, b0), (2, 53, 0)]) σ2)) : G 37 [some (2, 49, 0), some (0, 0, a1), some (0, 0, a2), some (0, 0, a3)] [(0, 0, b0), (2, 53, 0)] σ := fw_on hG [2, 9, 19, 37, 44, 47] 200 h
theorem fs_compareAll_2b {G : fw_K} {R : fw_KR} (hG : fw_cls st_compareAll R G) {a1 a2 a3 : Int} {σ : ab_SG} (h : (fw_c 4 ≤ fw_c a1 → R none σ) ∧ (fw_c a1 < fw_c 4 → G 9 [some (2, 49, 0), some (0, 0, a1), some (0, 0, 0), some (0, 0, a3)] [] σ)) : G 2 [some (2, 49, 0), some (0, 0, a1), some (0, 0, a2), some (0, 0, a3)] [] σ := fw_on hG [2, 9, 19, 37, 44, 47] 200 h
theorem fs_compareAll_44 {G : fw_K} {R : fw_KR} (hG : fw_cls st_compareAll R G) {a1 a2 a3 b0 b1 : Int} {σ : ab_SG} (h : sp_put [(2, 53, 0), (0, 0, b1), (0, 0, b0)] σ (fun rv σ2 => G 47 [some (2, 49, 0), some (0, 0, a1), some (0, 0, a2), some (0, 0, a3)] (rv.toList ++ []) σ2)) : G 44 [some (2, 49, 0), some (0, 0, a1), some (0, 0, a2), some (0, 0, a3)] [(0, 0, b0), (0, 0, b1), (2, 53, 0)] σ := fw_on hG [2, 9, 19, 37, 44, 47] 200 h
theorem fs_compareAll_47 {G : fw_K} {R : fw_KR} (hG : fw_cls st_compareAll R G) {a1 a2 a3 : Int} {σ : ab_SG} (h : G 19 [some (2, 49, 0), some (0, 0, a1), some (0, 0, a2), some (0, 0, a3 + 1)] [] σ) : G 47 [some (2, 49, 0), some (0, 0, a1), some (0, 0, a2), some (0, 0, a3)] [] σ := fw_on hG [2, 9, 19, 37, 44, 47] 200 h
abbrev fk_sclear : List fw_CR := []
abbrev st_sclear : fw_K → fw_KR → fw_K := fw_st vwCl nn_sh nn_kd fw_kv fw_wc (nn_KI5.map (fun x => x.1)) (nn_KJ5.map (fun x => x.1)) (nn_PF5.map (fun x => x.1)) (nn_PS5.map (fun x => x.1)) fk_sclear 0 nn_dt8 1 4
theorem fs_sclear_0 {G : fw_K} {R : fw_KR} (hG : fw_cls st_sclear R G) {σ : ab_SG} (h : R none (ab_ups (ab_ups σ 60 3 (fw_c 0)) 60 4 (fw_c 0))) : G 0 [some (2, 60, 0)] [] σ := fw_on hG [] 200 h
abbrev fk_clear49 : List fw_CR := [(63, 2, false, 0, 0, sp_fill), (67, 0, true, 5, 0, sp_sclear)]
abbrev st_clear49 : fw_K → fw_KR → fw_K := fw_st vwCl nn_sh nn_kd fw_kv fw_wc (nn_KI6.map (fun x => x.1)) (nn_KJ6.map (fun x => x.1)) (nn_PF6.map (fun x => x.1)) (nn_PS6.map (fun x => x.1)) fk_clear49 1 nn_dt6 1 4
theorem fs_clear49_0 {G : fw_K} {R : fw_KR} (hG : fw_cls st_clear49 R G) {σ : ab_SG} (h : sp_fill [(2, 55, 0), (0, 0, 0)] (ab_ups (ab_ups (ab_ups (ab_ups σ 49 11 (fw_c 0)) 49 12 (fw_c 0)) 49 13 (fw_c 0)) 49 14 (fw_c 9)) (fun rv σ2 => G 29 [some (2, 49, 0)] (rv.toList ++ []) σ2)) : G 0 [some (2, 49, 0)] [] σ := fw_on hG [29, 37, 44] 200 h
theorem fs_clear49_29 {G : fw_K} {R : fw_KR} (hG : fw_cls st_clear49 R G) {σ : ab_SG} (h : sp_fill [(2, 56, 0), (0, 0, 5)] σ (fun rv σ2 => G 37 [some (2, 49, 0)] (rv.toList ++ []) σ2)) : G 29 [some (2, 49, 0)] [] σ := fw_on hG [29, 37, 44] 200 h
theorem fs_clear49_37 {G : fw_K} {R : fw_KR} (hG : fw_cls st_clear49 R G) {σ : ab_SG} (h : sp_sclear [(2, 60, 0)] σ (fun rv σ2 => G 44 [some (2, 49, 0)] (rv.toList ++ []) σ2)) : G 37 [some (2, 49, 0)] [] σ := fw_on hG [29, 37, 44] 200 h
theorem fs_clear49_44 {G : fw_K} {R : fw_KR} (hG : fw_cls st_clear49 R G) {σ : ab_SG} (h : R none σ) : G 44 [some (2, 49, 0)] [] σ := fw_on hG [29, 37, 44] 200 h
abbrev fk_read : List fw_CR := [(26, 0, true, 6, 1, sp_clear49), (29, 2, false, 0, 0, sp_fill), (44, 1, true, 8, 3, sp_opn), (53, 0, true, 7, 6, sp_readLine), (57, 1, true, 8, 3, sp_takeSign), (61, 0, true, 6, 6, sp_compareAll)]
abbrev st_read : fw_K → fw_KR → fw_K := fw_st vwCl nn_sh nn_kd fw_kv fw_wc (nn_KI3.map (fun x => x.1)) (nn_KJ3.map (fun x => x.1)) (nn_PF3.map (fun x => x.1)) (nn_PS3.map (fun x => x.1)) fk_read 7 nn_dt5 2 1
theorem fs_read_0 {G : fw_K} {R : fw_KR} (hG : fw_cls st_read R G) {σ : ab_SG} (h : sp_clear49 [(2, 49, 0)] σ (fun rv σ2 => G 7 [some (2, 48, 0), none] (rv.toList ++ []) σ2)) : G 0 [some (2, 48, 0), none] [] σ := fw_on hG [7, 15, 40, 42, 63, 75, 96, 103] 200 h
theorem fs_read_7 {G : fw_K} {R : fw_KR} (hG : fw_cls st_read R G) {σ : ab_SG} (h : sp_fill [(2, 64, 0), (0, 0, 0)] σ (fun rv σ2 => G 15 [some (2, 48, 0), none] (rv.toList ++ []) σ2)) : G 7 [some (2, 48, 0), none] [] σ := fw_on hG [7, 15, 40, 42, 63, 75, 96, 103] 200 h
theorem fs_read_15 {G : fw_K} {R : fw_KR} (hG : fw_cls st_read R G) {σ : ab_SG} (h : (0 ≤ fw_c 0 ∧ fw_c 0 ≤ 1) ∧ (sp_opn [(2, 1, 0), (0, 0, 900)] (ab_ups (ab_ups (ab_ups σ 48 3 (fw_c 0)) 48 4 (fw_c 0)) 48 5 (fw_c 0)) (fun rv σ2 => G 40 [some (2, 48, 0), none] (rv.toList ++ []) σ2))) : G 15 [some (2, 48, 0), none] [] σ := fw_on hG [7, 15, 40, 42, 63, 75, 96, 103] 200 h
theorem fs_read_40 {G : fw_K} {R : fw_KR} (hG : fw_cls st_read R G) {σ : ab_SG} (h : G 42 [some (2, 48, 0), some (0, 0, 0)] [] σ) : G 40 [some (2, 48, 0), none] [] σ := fw_on hG [7, 15, 40, 42, 63, 75, 96, 103] 200 h
theorem fs_read_42 {G : fw_K} {R : fw_KR} (hG : fw_cls st_read R G) {a1 : Int} {σ : ab_SG} (h : (fw_c 900 ≤ fw_c a1 → G 96 [some (2, 48, 0), some (0, 0, a1)] [] σ) ∧ (fw_c a1 < fw_c 900 → (fw_c (σ 1 5) = 0 → G 96 [some (2, 48, 0), some (0, 0, a1)] [] σ) ∧ (fw_c (σ 1 5) ≠ 0 → sp_readLine [(2, 48, 0)] σ (fun rv σ2 => G 63 [some (2, 48, 0), some (0, 0, a1)] (rv.toList ++ []) σ2)))) : G 42 [some (2, 48, 0), some (0, 0, a1)] [] σ := fw_on hG [7, 15, 40, 42, 63, 75, 96, 103] 200 h
theorem fs_read_96 {G : fw_K} {R : fw_KR} (hG : fw_cls st_read R G) {a1 : Int} {σ : ab_SG} (h : sp_compareAll [(2, 49, 0)] σ (fun rv σ2 => G 103 [some (2, 48, 0), some (0, 0, a1)] (rv.toList ++ []) σ2)) : G 96 [some (2, 48, 0), some (0, 0, a1)] [] σ := fw_on hG [7, 15, 40, 42, 63, 75, 96, 103] 200 h
theorem fs_read_63 {G : fw_K} {R : fw_KR} (hG : fw_cls st_read R G) {a1 b0 : Int} {σ : ab_SG} (h : (fw_c b0 = 0 → (0 ≤ fw_c 0 ∧ fw_c 0 ≤ 1) ∧ R (some (0, 0, 0)) σ) ∧ (fw_c b0 ≠ 0 → sp_takeSign [(2, 1, 0), (0, 0, 59)] σ (fun rv σ2 => G 75 [some (2, 48, 0), some (0, 0, a1)] (rv.toList ++ []) σ2))) : G 63 [some (2, 48, 0), some (0, 0, a1)] [(0, 0, b0)] σ := fw_on hG [7, 15, 40, 42, 63, 75, 96, 103] 200 h
theorem fs_read_103 {G : fw_K} {R : fw_KR} (hG : fw_cls st_read R G) {a1 : Int} {σ : ab_SG} (h : (0 ≤ fw_c 1 ∧ fw_c 1 ≤ 1) ∧ R (some (0, 0, 1)) σ) : G 103 [some (2, 48, 0), some (0, 0, a1)] [] σ := fw_on hG [7, 15, 40, 42, 63, 75, 96, 103] 200 h
theorem fs_read_75 {G : fw_K} {R : fw_KR} (hG : fw_cls st_read R G) {a1 b0 : Int} {σ : ab_SG} (h : (fw_c b0 ≠ 0 → G 42 [some (2, 48, 0), some (0, 0, a1 + 1)] [] (ab_ups σ 48 5 (fw_c ((σ 48 5) + 1)))) ∧ (fw_c b0 = 0 → (0 ≤ fw_c 0 ∧ fw_c 0 ≤ 1) ∧ R (some (0, 0, 0)) σ)) : G 75 [some (2, 48, 0), some (0, 0, a1)] [(0, 0, b0)] σ := fw_on hG [7, 15, 40, 42, 63, 75, 96, 103] 200 h
theorem fw_bo_iff {p q : Prop} [Decidable p] [Decidable q] : fw_bo p = fw_bo q ↔ (p ↔ q) := by
  by_cases hp : p
  · by_cases hq : q
    · rw [fw_bo_t hp, fw_bo_t hq]; exact ⟨fun _ => ⟨fun _ => hq, fun _ => hp⟩, fun _ => rfl⟩
    · rw [fw_bo_t hp, fw_bo_f hq]; exact ⟨fun z => absurd z (by decide), fun z => absurd (z.mp hp) hq⟩
  · by_cases hq : q
    · rw [fw_bo_f hp, fw_bo_t hq]; exact ⟨fun z => absurd z (by decide), fun z => absurd (z.mpr hq) hp⟩
    · rw [fw_bo_f hp, fw_bo_f hq]; exact ⟨fun _ => ⟨fun z => absurd z hp, fun z => absurd z hq⟩, fun _ => rfl⟩
section
variable {l : Launch} {cy : Nat → ClassId} {ad wr cr : Nat → Nat} {D : va_G}
theorem fm_pair (hinj : nn_inj ad) : fw_H l cy ad wr cr D 42 0 sp_pair := fw_mk hinj (⟨"NameNotes$Studio", "pair", "(III)I"⟩, prog_8_method_21_code, 3, (Option.some Jvm.ClassFile.FieldType.int), 3, false, 0) rfl rfl nn_KI6_ok nn_KJ6_ok nn_PF6_ok nn_PS6_ok (by decide +kernel) rfl rfl (fun _ h => absurd h List.not_mem_nil) (fun as σ K h => by
  obtain ⟨x, y, w, rfl, h⟩ := h
  exact ⟨rfl, fun G hG => fs_pair_0 hG h⟩)
theorem fm_isTune49 (hinj : nn_inj ad) : fw_H l cy ad wr cr D 46 0 sp_isTune49 := fw_mk hinj (⟨"NameNotes$Studio", "isTune", "(I)Z"⟩, prog_8_method_4_code, 2, (Option.some Jvm.ClassFile.FieldType.boolean), 1, true, 1) rfl rfl nn_KI6_ok nn_KJ6_ok nn_PF6_ok nn_PS6_ok (by decide +kernel) rfl rfl (fun _ h => absurd h List.not_mem_nil) (fun as σ K h => by
  obtain ⟨x, rfl, h⟩ := h
  refine ⟨rfl, fun G hG => fs_isTune49_0 hG ⟨fun q => ⟨fw_01, ?_⟩, fun q => ⟨fun q2 => ⟨fw_01, ?_⟩, fun q2 => ⟨fw_11, ?_⟩⟩⟩⟩
  · rw [fw_bo_f (fun y => absurd q (by omega))] at h; exact h
  · rw [fw_bo_f (fun y => absurd q2 (by omega))] at h; exact h
  · rw [fw_bo_t ⟨q, q2⟩] at h; exact h)
theorem fm_hasNote49 (hinj : nn_inj ad) : fw_H l cy ad wr cr D 45 1 sp_hasNote49 := fw_mk hinj (⟨"NameNotes$Studio", "hasNote", "(II)Z"⟩, prog_8_method_10_code, 3, (Option.some Jvm.ClassFile.FieldType.boolean), 2, true, 1) rfl rfl nn_KI6_ok nn_KJ6_ok nn_PF6_ok nn_PS6_ok (by decide +kernel) rfl rfl (List.forall_mem_cons.mpr ⟨fw_row nn_PM6_ok (x := 92) (k := 2) (mn := 29) (np := 2) (ob := false) (ci := 0) (⟨"NameNotes", "at", "([II)I"⟩, prog_1_method_84_code, 2, (Option.some Jvm.ClassFile.FieldType.int), 2, false, 0) rfl (by decide +kernel) rfl rfl (by decide) (fun q => by cases q) (fm_at hinj), (List.forall_mem_cons.mpr ⟨fw_row nn_PM6_ok (x := 96) (k := 0) (mn := 46) (np := 1) (ob := true) (ci := 6) (⟨"NameNotes$Studio", "isTune", "(I)Z"⟩, prog_8_method_4_code, 2, (Option.some Jvm.ClassFile.FieldType.boolean), 1, true, 1) rfl (by decide +kernel) rfl rfl (by decide) (fun _ => ⟨_, _, rfl⟩) (fm_isTune49 hinj), (fun _ h => absurd h List.not_mem_nil)⟩)⟩) (fun as σ K h => by
  obtain ⟨x, i, rfl, hs, hb, h⟩ := h
  obtain ⟨hT, hS⟩ := hs
  have ex : fw_c x = x := fw_c_id (by omega) (by omega)
  have ei : fw_c i = i := fw_c_id (by omega) (by omega)
  have eT : fw_c (σ 49 11) = σ 49 11 := fw_c_id (by omega) (by omega)
  have hz := hS x.toNat (by omega)
  have ez : fw_c (σ 52 x.toNat) = σ 52 x.toNat := fw_c_id (by omega) (by omega)
  refine ⟨rfl, fun G hG => fs_hasNote49_0 hG ⟨x, rfl, fs_hasNote49_5 hG ⟨fun z => ⟨fw_01, ?_⟩, fun z => ⟨fun q => absurd q (by omega), fun _ => ?_⟩⟩⟩⟩
  · have hn := fw_bo_eq z
    rw [ex, eT] at hn
    rw [fw_bo_f (fun y => hn ⟨hb.1, y.1⟩)] at h
    exact h
  · have hn := fw_bo_ne z
    rw [ex, eT] at hn
    refine ⟨(52, 9), by decide, x, rfl, fun _ => fs_hasNote49_21 hG ?_, fun y => absurd (by rw [ex]; show 0 ≤ x ∧ x < 9; omega) y⟩
    rw [ex, ez, ei]
    refine ⟨fun q => ⟨fw_01, ?_⟩, fun q => ⟨fw_11, ?_⟩⟩
    · rw [fw_bo_f (fun y => absurd y.2 (by omega))] at h; exact h
    · rw [fw_bo_t ⟨hn.2, q⟩] at h; exact h)
theorem fm_pitch49 (hinj : nn_inj ad) : fw_H l cy ad wr cr D 47 1 sp_pitch49 := fw_mk hinj (⟨"NameNotes$Studio", "pitch", "(II)I"⟩, prog_8_method_11_code, 3, (Option.some Jvm.ClassFile.FieldType.int), 2, true, 0) rfl rfl nn_KI6_ok nn_KJ6_ok nn_PF6_ok nn_PS6_ok (by decide +kernel) rfl rfl (List.forall_mem_cons.mpr ⟨fw_row nn_PM6_ok (x := 92) (k := 2) (mn := 29) (np := 2) (ob := false) (ci := 0) (⟨"NameNotes", "at", "([II)I"⟩, prog_1_method_84_code, 2, (Option.some Jvm.ClassFile.FieldType.int), 2, false, 0) rfl (by decide +kernel) rfl rfl (by decide) (fun q => by cases q) (fm_at hinj), (fun _ h => absurd h List.not_mem_nil)⟩) (fun as σ K h => by
  obtain ⟨x, i, rfl, hb, h⟩ := h
  have ei : fw_c (x * 9 + i) = x * 9 + i := fw_c_id (by omega) (by omega)
  refine ⟨rfl, fun G hG => fs_pitch49_0 hG ⟨(50, 81), by decide, _, rfl, fun _ => fs_pitch49_13 hG ?_, fun y => absurd (by rw [ei]; show 0 ≤ x * 9 + i ∧ x * 9 + i < 81; omega) y⟩⟩
  rw [ei]
  exact h)
theorem fm_beat49 (hinj : nn_inj ad) : fw_H l cy ad wr cr D 48 1 sp_beat49 := fw_mk hinj (⟨"NameNotes$Studio", "beat", "(II)I"⟩, prog_8_method_12_code, 3, (Option.some Jvm.ClassFile.FieldType.int), 2, true, 0) rfl rfl nn_KI6_ok nn_KJ6_ok nn_PF6_ok nn_PS6_ok (by decide +kernel) rfl rfl (List.forall_mem_cons.mpr ⟨fw_row nn_PM6_ok (x := 92) (k := 2) (mn := 29) (np := 2) (ob := false) (ci := 0) (⟨"NameNotes", "at", "([II)I"⟩, prog_1_method_84_code, 2, (Option.some Jvm.ClassFile.FieldType.int), 2, false, 0) rfl (by decide +kernel) rfl rfl (by decide) (fun q => by cases q) (fm_at hinj), (fun _ h => absurd h List.not_mem_nil)⟩) (fun as σ K h => by
  obtain ⟨x, i, rfl, hb, h⟩ := h
  have ei : fw_c (x * 9 + i) = x * 9 + i := fw_c_id (by omega) (by omega)
  refine ⟨rfl, fun G hG => fs_beat49_0 hG ⟨(51, 81), by decide, _, rfl, fun _ => fs_beat49_13 hG ?_, fun y => absurd (by rw [ei]; show 0 ≤ x * 9 + i ∧ x * 9 + i < 81; omega) y⟩⟩
  rw [ei]
  exact h)
theorem fm_sameNote49 (hinj : nn_inj ad) : fw_H l cy ad wr cr D 44 2 sp_sameNote49 := fw_mk hinj (⟨"NameNotes$Studio", "sameNote", "(IIII)Z"⟩, prog_8_method_17_code, 7, (Option.some Jvm.ClassFile.FieldType.boolean), 4, true, 1) rfl rfl nn_KI6_ok nn_KJ6_ok nn_PF6_ok nn_PS6_ok (by decide +kernel) rfl rfl (List.forall_mem_cons.mpr ⟨fw_row nn_PM6_ok (x := 103) (k := 0) (mn := 47) (np := 2) (ob := true) (ci := 6) (⟨"NameNotes$Studio", "pitch", "(II)I"⟩, prog_8_method_11_code, 3, (Option.some Jvm.ClassFile.FieldType.int), 2, true, 0) rfl (by decide +kernel) rfl rfl (by decide) (fun _ => ⟨_, _, rfl⟩) (fm_pitch49 hinj), (List.forall_mem_cons.mpr ⟨fw_row nn_PM6_ok (x := 115) (k := 0) (mn := 48) (np := 2) (ob := true) (ci := 6) (⟨"NameNotes$Studio", "beat", "(II)I"⟩, prog_8_method_12_code, 3, (Option.some Jvm.ClassFile.FieldType.int), 2, true, 0) rfl (by decide +kernel) rfl rfl (by decide) (fun _ => ⟨_, _, rfl⟩) (fm_beat49 hinj), (List.forall_mem_cons.mpr ⟨fw_row nn_PM6_ok (x := 118) (k := 0) (mn := 45) (np := 2) (ob := true) (ci := 6) (⟨"NameNotes$Studio", "hasNote", "(II)Z"⟩, prog_8_method_10_code, 3, (Option.some Jvm.ClassFile.FieldType.boolean), 2, true, 1) rfl (by decide +kernel) rfl rfl (by decide) (fun _ => ⟨_, _, rfl⟩) (fm_hasNote49 hinj), (fun _ h => absurd h List.not_mem_nil)⟩)⟩)⟩) (fun as σ K h => by
  obtain ⟨x, y, i, w, rfl, hs, hb, h⟩ := h
  have ew : fw_c w = w := fw_c_id (by omega) (by omega)
  have e2 : fw_c 2 = 2 := fw_c_id (by decide) (by decide)
  have e3 : fw_c 3 = 3 := fw_c_id (by decide) (by decide)
  refine ⟨rfl, fun G hG => fs_sameNote49_0 hG ⟨x, i, rfl, hs, by omega, fs_sameNote49_6 hG ?_⟩⟩
  have at18 : ¬ ((x < σ 49 11 ∧ i < σ 52 x.toNat) ∧ (y < σ 49 11 ∧ i < σ 52 y.toNat)) → G 18 [some (2, 49, 0), some (0, 0, x), some (0, 0, y), some (0, 0, i), some (0, 0, w), none, none] [] σ := fun hn => by
    refine fs_sameNote49_18 hG ⟨x, i, rfl, hs, by omega, fs_sameNote49_24 hG ⟨y, i, rfl, hs, by omega, fs_sameNote49_30 hG ?_⟩⟩
    rw [fw_bo_c, fw_bo_c]
    refine ⟨fun q => ⟨fw_01, ?_⟩, fun q => ⟨fw_11, ?_⟩⟩
    · have hh : ¬ pr_sn σ x y i w := by
        unfold pr_sn; rw [if_neg hn]; exact fun z => q (fw_bo_iff.mpr z)
      rw [fw_bo_f hh] at h; exact h
    · have hh : pr_sn σ x y i w := by
        unfold pr_sn; rw [if_neg hn]; exact fw_bo_iff.mp q
      rw [fw_bo_t hh] at h; exact h
  refine ⟨fun z => at18 (fun q => fw_bo_eq z q.1), fun z => ⟨y, i, rfl, hs, by omega, fs_sameNote49_15 hG ⟨fun z2 => ?_, fun z2 => at18 (fun q => fw_bo_eq z2 q.2)⟩⟩⟩
  have hx := fw_bo_ne z
  have hy := fw_bo_ne z2
  have yes : w ≠ 3 → (w = 2 ∨ (fw_c (σ 50 (x * 9 + i).toNat) = fw_c (σ 50 (y * 9 + i).toNat))) → (w = 1 ∨ (fw_c (σ 51 (x * 9 + i).toNat) = fw_c (σ 51 (y * 9 + i).toNat))) → K (some (0, 0, 1)) σ := fun a b c => by
    have hh : pr_sn σ x y i w := by
      unfold pr_sn; rw [if_pos ⟨hx, hy⟩, if_neg a]; exact ⟨b, c⟩
    rw [fw_bo_t hh] at h; exact h
  have no : w ≠ 3 → ¬ ((w = 2 ∨ (fw_c (σ 50 (x * 9 + i).toNat) = fw_c (σ 50 (y * 9 + i).toNat))) ∧ (w = 1 ∨ (fw_c (σ 51 (x * 9 + i).toNat) = fw_c (σ 51 (y * 9 + i).toNat)))) → K (some (0, 0, 0)) σ := fun a b => by
    have hh : ¬ pr_sn σ x y i w := by
      unfold pr_sn; rw [if_pos ⟨hx, hy⟩, if_neg a]; exact b
    rw [fw_bo_f hh] at h; exact h
  have at135 : ∀ b c : Int, c = fw_bo (fw_c (σ 51 (x * 9 + i).toNat) = fw_c (σ 51 (y * 9 + i).toNat)) → w ≠ 3 → (w = 2 ∨ (fw_c (σ 50 (x * 9 + i).toNat) = fw_c (σ 50 (y * 9 + i).toNat))) → G 135 [some (2, 49, 0), some (0, 0, x), some (0, 0, y), some (0, 0, i), some (0, 0, w), some (0, 0, b), some (0, 0, c)] [] σ := fun b c hc q3 hp => by
    subst hc
    exact fs_sameNote49_135 hG ⟨fun q => ⟨fw_11, yes q3 hp (Or.inl (ew.symm.trans (q.trans fw_c1)))⟩, fun q => ⟨fun p => ⟨fw_01, no q3 (fun k => k.2.elim (fun k => q (ew.trans (k.trans fw_c1.symm))) (fw_bo_eq p))⟩, fun p => ⟨fw_11, yes q3 hp (Or.inr (fw_bo_ne p))⟩⟩⟩
  have at122 : ∀ b c : Int, b = fw_bo (fw_c (σ 50 (x * 9 + i).toNat) = fw_c (σ 50 (y * 9 + i).toNat)) → c = fw_bo (fw_c (σ 51 (x * 9 + i).toNat) = fw_c (σ 51 (y * 9 + i).toNat)) → w ≠ 3 → G 122 [some (2, 49, 0), some (0, 0, x), some (0, 0, y), some (0, 0, i), some (0, 0, w), some (0, 0, b), none] [(0, 0, c)] σ := fun b c hb2 hc q3 => by
    subst hb2
    exact fs_sameNote49_122 hG ⟨fun q => at135 _ c hc q3 (Or.inl (ew.symm.trans (q.trans e2))), fun q => ⟨fun p => ⟨fw_01, no q3 (fun k => k.1.elim (fun k => q (ew.trans (k.trans e2.symm))) (fw_bo_eq p))⟩, fun p => at135 _ c hc q3 (Or.inr (fw_bo_ne p))⟩⟩
  have at100 : ∀ b : Int, b = fw_bo (fw_c (σ 50 (x * 9 + i).toNat) = fw_c (σ 50 (y * 9 + i).toNat)) → w ≠ 3 → G 100 [some (2, 49, 0), some (0, 0, x), some (0, 0, y), some (0, 0, i), some (0, 0, w), none, none] [(0, 0, b)] σ := fun b hb2 q3 =>
    fs_sameNote49_100 hG ⟨x, i, rfl, by omega, fs_sameNote49_108 hG ⟨y, i, rfl, by omega, fs_sameNote49_114 hG ⟨fun p => at122 b 0 hb2 (fw_bo_f p).symm q3, fun p => at122 b 1 hb2 (fw_bo_t p).symm q3⟩⟩⟩
  refine ⟨fun q => ?_, fun q => ?_⟩
  · have q3 : w ≠ 3 := fun k => q (by rw [k])
    exact ⟨x, i, rfl, by omega, fs_sameNote49_86 hG ⟨y, i, rfl, by omega, fs_sameNote49_92 hG ⟨fun p => at100 0 (fw_bo_f p).symm q3, fun p => at100 1 (fw_bo_t p).symm q3⟩⟩⟩
  · have q3 : w = 3 := ew.symm.trans (q.trans e3)
    refine ⟨x, i, rfl, by omega, fs_sameNote49_51 hG ⟨x, 0, rfl, by omega, fs_sameNote49_57 hG ⟨y, i, rfl, by omega, fs_sameNote49_64 hG ⟨y, 0, rfl, by omega, fs_sameNote49_70 hG ⟨fun p => ⟨fw_01, ?_⟩, fun p => ⟨fw_11, ?_⟩⟩⟩⟩⟩⟩
    · have hh : ¬ pr_sn σ x y i w := by
        unfold pr_sn; rw [if_pos ⟨hx, hy⟩, if_pos q3]; exact p
      rw [fw_bo_f hh] at h; exact h
    · have hh : pr_sn σ x y i w := by
        unfold pr_sn; rw [if_pos ⟨hx, hy⟩, if_pos q3]; exact p
      rw [fw_bo_t hh] at h; exact h)
theorem fm_countShared49 (hinj : nn_inj ad) : fw_H l cy ad wr cr D 43 3 sp_countShared49 := fw_mk hinj (⟨"NameNotes$Studio", "countShared", "(III)I"⟩, prog_8_method_20_code, 6, (Option.some Jvm.ClassFile.FieldType.int), 3, true, 0) rfl rfl nn_KI6_ok nn_KJ6_ok nn_PF6_ok nn_PS6_ok (by decide +kernel) rfl rfl (List.forall_mem_cons.mpr ⟨fw_row nn_PM6_ok (x := 129) (k := 0) (mn := 44) (np := 4) (ob := true) (ci := 6) (⟨"NameNotes$Studio", "sameNote", "(IIII)Z"⟩, prog_8_method_17_code, 7, (Option.some Jvm.ClassFile.FieldType.boolean), 4, true, 1) rfl (by decide +kernel) rfl rfl (by decide) (fun _ => ⟨_, _, rfl⟩) (fm_sameNote49 hinj), (fun _ h => absurd h List.not_mem_nil)⟩) (fun as σ K h => by
  obtain ⟨x, y, w, rfl, hs, hb, h⟩ := h
  have e9 : fw_c 9 = 9 := fw_c_id (by decide) (by decide)
  refine ⟨rfl, fun G hG => fs_countShared49_0 hG ?_⟩
  have key : ∀ (f i : Nat), i + f = 9 → K (some (0, 0, pr_cs σ x y w f i)) σ → G 6 [some (2, 49, 0), some (0, 0, x), some (0, 0, y), some (0, 0, w), some (0, 0, (i : Int)), some (0, 0, (i : Int))] [] σ := by
    intro f
    induction f with
    | zero =>
      intro i hi q
      have ei : fw_c (i : Int) = i := fw_c_id (by omega) (by omega)
      refine fs_countShared49_6 hG ?_
      rw [e9, ei]
      exact ⟨fun _ => q, fun z => absurd z (by omega)⟩
    | succ f ih =>
      intro i hi q
      have ei : fw_c (i : Int) = i := fw_c_id (by omega) (by omega)
      refine fs_countShared49_6 hG ?_
      rw [e9, ei]
      replace q : K (some (0, 0, if pr_sn σ x y i w then pr_cs σ x y w f (i + 1) else (i : Int))) σ := q
      refine ⟨fun z => absurd z (by omega), fun _ => ⟨x, y, i, w, rfl, hs, by omega, fs_countShared49_22 hG ⟨fun z => ?_, fun z => ?_⟩⟩⟩
      · rw [if_neg (fw_bo_eq z)] at q
        exact q
      · rw [if_pos (fw_bo_ne z)] at q
        exact ih (i + 1) (by omega) q
  exact key 9 0 rfl h)
theorem fm_compareAll (hinj : nn_inj ad) : fw_H l cy ad wr cr D 41 6 sp_compareAll := fw_mk hinj (⟨"NameNotes$Studio", "compareAll", "()V"⟩, prog_8_method_19_code, 4, (Option.none : Option Jvm.ClassFile.FieldType), 0, true, 4) rfl rfl nn_KI6_ok nn_KJ6_ok nn_PF6_ok nn_PS6_ok (by decide +kernel) rfl rfl (List.forall_mem_cons.mpr ⟨fw_row nn_PM6_ok (x := 99) (k := 2) (mn := 27) (np := 3) (ob := false) (ci := 0) (⟨"NameNotes", "put", "([III)V"⟩, prog_1_method_86_code, 3, (Option.none : Option Jvm.ClassFile.FieldType), 3, false, 4) rfl (by decide +kernel) rfl rfl (by decide) (fun q => by cases q) (fm_put hinj), (List.forall_mem_cons.mpr ⟨fw_row nn_PM6_ok (x := 122) (k := 0) (mn := 42) (np := 3) (ob := false) (ci := 0) (⟨"NameNotes$Studio", "pair", "(III)I"⟩, prog_8_method_21_code, 3, (Option.some Jvm.ClassFile.FieldType.int), 3, false, 0) rfl (by decide +kernel) rfl rfl (by decide) (fun q => by cases q) (fm_pair hinj), (List.forall_mem_cons.mpr ⟨fw_row nn_PM6_ok (x := 126) (k := 0) (mn := 43) (np := 3) (ob := true) (ci := 6) (⟨"NameNotes$Studio", "countShared", "(III)I"⟩, prog_8_method_20_code, 6, (Option.some Jvm.ClassFile.FieldType.int), 3, true, 0) rfl (by decide +kernel) rfl rfl (by decide) (fun _ => ⟨_, _, rfl⟩) (fm_countShared49 hinj), (fun _ h => absurd h List.not_mem_nil)⟩)⟩)⟩) (fun as σ K h => by
  obtain ⟨rfl, hs, h⟩ := h
  obtain ⟨hT, hS⟩ := hs
  obtain ⟨T, eT⟩ : ∃ T : Nat, σ 49 11 = T := ⟨(σ 49 11).toNat, by omega⟩
  have cT : fw_c (T : Int) = T := fw_c_id (by omega) (by omega)
  have e4 : fw_c 4 = 4 := fw_c_id (by decide) (by decide)
  refine ⟨rfl, fun G hG => fs_compareAll_0 hG ?_⟩
  have k19 : ∀ (w x : Nat), w < 4 → x < T → ∀ (f y : Nat) (σ1 : ab_SG), y + f = T → ca_is σ σ1 w x y → (∀ σ2 : ab_SG, ca_is σ σ2 w x T → G 9 [some (2, 49, 0), some (0, 0, (w : Int)), some (0, 0, (x : Int) + 1), some (0, 0, (T : Int))] [] σ2) → G 19 [some (2, 49, 0), some (0, 0, (w : Int)), some (0, 0, (x : Int)), some (0, 0, (y : Int))] [] σ1 := by
    intro w x hw hx f
    induction f with
    | zero =>
      intro y σ1 hy I c
      have e : y = T := by omega
      subst e
      refine fs_compareAll_19 hG ?_
      rw [I.1 49 11 (by decide), eT, cT]
      exact ⟨fun _ => c σ1 I, fun q => absurd q (Int.lt_irrefl _)⟩
    | succ f ih =>
      intro y σ1 hy I c
      have ey : fw_c (y : Int) = y := fw_c_id (by omega) (by omega)
      have ei : fw_c (((w : Int) * 9 + x) * 9 + y) = ((w : Int) * 9 + x) * 9 + y := fw_c_id (by omega) (by omega)
      have hc := pr_cs_in (A := σ) (x := x) (y := y) (w := w) 9 0
      have ec : fw_c (pr_cs σ x y w 9 0) = pr_cs σ x y w 9 0 := fw_c_id (by omega) (by omega)
      have sm1 : sm_ok σ1 := ⟨by rw [I.1 49 11 (by decide)]; exact hT, fun j hj => by rw [I.1 52 j (by decide)]; exact hS j hj⟩
      refine fs_compareAll_19 hG ?_
      rw [I.1 49 11 (by decide), eT, cT, ey]
      refine ⟨fun q => absurd q (by omega), fun _ => ⟨x, y, w, rfl, fs_compareAll_37 hG ⟨x, y, w, rfl, sm1, by omega, fs_compareAll_44 hG ?_⟩⟩⟩
      refine ⟨(53, 324), by decide, _, _, rfl, fun _ => fs_compareAll_47 hG (ih (y + 1) _ (by omega) ?_ c), fun q => absurd (by rw [ei]; show 0 ≤ ((w : Int) * 9 + x) * 9 + y ∧ ((w : Int) * 9 + x) * 9 + y < 324; omega) q⟩
      rw [ei, pr_cs_cong I.1, ec]
      refine ⟨fun a b hab => (ab_ups_ne (fun z => hab z.1)).trans (I.1 a b hab), fun w' x' y' hw' hx' hy' hd => ?_⟩
      by_cases e : (w' * 9 + x') * 9 + y' = (((w : Int) * 9 + x) * 9 + y).toNat
      · have e1 : w' = w := by omega
        have e2 : x' = x := by omega
        have e3 : y' = y := by omega
        rw [e, ab_ups_eq, e1, e2, e3]
      · rw [ab_ups_ne (fun z => e z.2)]
        exact I.2 w' x' y' hw' hx' hy' (by omega)
  have s9 : ∀ (L3 : Option Int) (w x : Int) (σ1 : ab_SG), ((fw_c (σ1 49 11) ≤ fw_c x → G 2 [some (2, 49, 0), some (0, 0, w + 1), some (0, 0, x), L3.map fun b => (0, 0, b)] [] σ1) ∧ (fw_c x < fw_c (σ1 49 11) → G 19 [some (2, 49, 0), some (0, 0, w), some (0, 0, x), some (0, 0, 0)] [] σ1)) → G 9 [some (2, 49, 0), some (0, 0, w), some (0, 0, x), L3.map fun b => (0, 0, b)] [] σ1 := fun L3 w x σ1 h => by
    cases L3 with
    | none => exact fs_compareAll_9 hG h
    | some b => exact fs_compareAll_9a hG h
  have s2 : ∀ (L : Option (Int × Option Int)) (w : Int) (σ1 : ab_SG), ((fw_c 4 ≤ fw_c w → K none σ1) ∧ (fw_c w < fw_c 4 → G 9 [some (2, 49, 0), some (0, 0, w), some (0, 0, 0), (L.bind fun q => q.2).map fun b => (0, 0, b)] [] σ1)) → G 2 [some (2, 49, 0), some (0, 0, w), L.map fun q => (0, 0, q.1), (L.bind fun q => q.2).map fun b => (0, 0, b)] [] σ1 := fun L w σ1 h => by
    rcases L with _ | ⟨a, _ | b⟩
    · exact fs_compareAll_2 hG h
    · exact fs_compareAll_2a hG h
    · exact fs_compareAll_2b hG h
  have k9 : ∀ (w : Nat), w < 4 → ∀ (f x : Nat) (L3 : Option Int) (σ1 : ab_SG), x + f = T → ca_is σ σ1 w x 0 → (∀ (L : Option (Int × Option Int)) (σ2 : ab_SG), ca_is σ σ2 (w + 1) 0 0 → G 2 [some (2, 49, 0), some (0, 0, (w : Int) + 1), L.map fun q => (0, 0, q.1), (L.bind fun q => q.2).map fun b => (0, 0, b)] [] σ2) → G 9 [some (2, 49, 0), some (0, 0, (w : Int)), some (0, 0, (x : Int)), L3.map fun b => (0, 0, b)] [] σ1 := by
    intro w hw f
    induction f with
    | zero =>
      intro x L3 σ1 hx I c
      have ex : fw_c (x : Int) = x := fw_c_id (by omega) (by omega)
      refine s9 L3 w x σ1 ?_
      rw [I.1 49 11 (by decide), eT, cT, ex]
      exact ⟨fun _ => c (some ((x : Int), L3)) σ1 ⟨I.1, fun w' x' y' hw' hx' hy' hd => I.2 w' x' y' hw' hx' hy' (by omega)⟩, fun q => absurd q (by omega)⟩
    | succ f ih =>
      intro x L3 σ1 hx I c
      have ex : fw_c (x : Int) = x := fw_c_id (by omega) (by omega)
      refine s9 L3 w x σ1 ?_
      rw [I.1 49 11 (by decide), eT, cT, ex]
      refine ⟨fun q => absurd q (by omega), fun _ => k19 w x hw (by omega) T 0 σ1 (by omega) I (fun σ2 I2 => ?_)⟩
      exact ih (x + 1) (some (T : Int)) σ2 (by omega) ⟨I2.1, fun w' x' y' hw' hx' hy' hd => I2.2 w' x' y' hw' hx' hy' (by omega)⟩ c
  have k2 : ∀ (f w : Nat) (L : Option (Int × Option Int)) (σ1 : ab_SG), w + f = 4 → ca_is σ σ1 w 0 0 → G 2 [some (2, 49, 0), some (0, 0, (w : Int)), L.map fun q => (0, 0, q.1), (L.bind fun q => q.2).map fun b => (0, 0, b)] [] σ1 := by
    intro f
    induction f with
    | zero =>
      intro w L σ1 hw I
      have ew : fw_c (w : Int) = w := fw_c_id (by omega) (by omega)
      refine s2 L w σ1 ?_
      rw [e4, ew]
      exact ⟨fun _ => h σ1 I.1 (fun w' x' y' hw' hx' hy' => I.2 w' x' y' hw' hx' hy' (by omega)), fun q => absurd q (by omega)⟩
    | succ f ih =>
      intro w L σ1 hw I
      have ew : fw_c (w : Int) = w := fw_c_id (by omega) (by omega)
      refine s2 L w σ1 ?_
      rw [e4, ew]
      exact ⟨fun q => absurd q (by omega), fun _ => k9 w (by omega) T 0 _ σ1 (by omega) I (fun L2 σ2 I2 => ih (w + 1) L2 σ2 (by omega) I2)⟩
  exact k2 4 0 none σ rfl ⟨fun _ _ _ => rfl, fun w' x' y' hw' hx' hy' hd => absurd hd (by omega)⟩)
theorem fm_sclear (hinj : nn_inj ad) : fw_H l cy ad wr cr D 8 0 sp_sclear := fw_mk hinj (⟨"NameNotes$Sentence", "clear", "()V"⟩, prog_7_method_2_code, 1, (Option.none : Option Jvm.ClassFile.FieldType), 0, true, 4) rfl rfl nn_KI5_ok nn_KJ5_ok nn_PF5_ok nn_PS5_ok (by decide +kernel) rfl rfl (fun _ h => absurd h List.not_mem_nil) (fun as σ K h => by
  obtain ⟨rfl, h⟩ := h
  refine ⟨rfl, fun G hG => fs_sclear_0 hG ?_⟩
  rw [fw_c0]
  exact h)
theorem fm_clear49 (hinj : nn_inj ad) : fw_H l cy ad wr cr D 6 1 sp_clear49 := fw_mk hinj (⟨"NameNotes$Studio", "clear", "()V"⟩, prog_8_method_2_code, 1, (Option.none : Option Jvm.ClassFile.FieldType), 0, true, 4) rfl rfl nn_KI6_ok nn_KJ6_ok nn_PF6_ok nn_PS6_ok (by decide +kernel) rfl rfl (List.forall_mem_cons.mpr ⟨fw_row nn_PM6_ok (x := 63) (k := 2) (mn := 7) (np := 2) (ob := false) (ci := 0) (⟨"NameNotes", "fillRow", "([II)V"⟩, prog_1_method_90_code, 3, (Option.none : Option Jvm.ClassFile.FieldType), 2, false, 4) rfl (by decide +kernel) rfl rfl (by decide) (fun q => by cases q) (fm_fill hinj), (List.forall_mem_cons.mpr ⟨fw_row nn_PM6_ok (x := 67) (k := 0) (mn := 8) (np := 0) (ob := true) (ci := 5) (⟨"NameNotes$Sentence", "clear", "()V"⟩, prog_7_method_2_code, 1, (Option.none : Option Jvm.ClassFile.FieldType), 0, true, 4) rfl (by decide +kernel) rfl rfl (by decide) (fun _ => ⟨_, _, rfl⟩) (fm_sclear hinj), (fun _ h => absurd h List.not_mem_nil)⟩)⟩) (fun as σ K h => by
  obtain ⟨rfl, h⟩ := h
  have z9 : fw_c 9 = 9 := fw_c_id (by decide) (by decide)
  have z5 : fw_c 5 = 5 := fw_c_id (by decide) (by decide)
  refine ⟨rfl, fun G hG => fs_clear49_0 hG ?_⟩
  rw [fw_c0, z9]
  have M1 : ab_okM cl_M σ (ab_ups (ab_ups (ab_ups (ab_ups σ 49 11 0) 49 12 0) 49 13 0) 49 14 9) := fw_okM_ups (fw_okM_ups (fw_okM_ups (fw_okM_ups (fw_okM_refl _ _) (by decide)) (by decide)) (by decide)) (by decide)
  have v1 : ab_ups (ab_ups (ab_ups (ab_ups σ 49 11 0) 49 12 0) 49 13 0) 49 14 9 49 11 = 0 := by rw [ab_ups_ne (by decide), ab_ups_ne (by decide), ab_ups_ne (by decide), ab_ups_eq]
  have v2 : ab_ups (ab_ups (ab_ups (ab_ups σ 49 11 0) 49 12 0) 49 13 0) 49 14 9 49 12 = 0 := by rw [ab_ups_ne (by decide), ab_ups_ne (by decide), ab_ups_eq]
  have v3 : ab_ups (ab_ups (ab_ups (ab_ups σ 49 11 0) 49 12 0) 49 13 0) 49 14 9 49 13 = 0 := by rw [ab_ups_ne (by decide), ab_ups_eq]
  have v4 : ab_ups (ab_ups (ab_ups (ab_ups σ 49 11 0) 49 12 0) 49 13 0) 49 14 9 49 14 = 9 := ab_ups_eq
  generalize ab_ups (ab_ups (ab_ups (ab_ups σ 49 11 0) 49 12 0) 49 13 0) 49 14 9 = σ1 at M1 v1 v2 v3 v4 ⊢
  refine ⟨(55, 45), by decide, 0, rfl, fun σ2 a2 b2 => fs_clear49_29 hG ⟨(56, 5), by decide, 5, rfl, fun σ3 a3 b3 => fs_clear49_37 hG ⟨rfl, fs_clear49_44 hG (h _ ?_ ?_)⟩⟩⟩
  · refine fw_okM_ups (fw_okM_ups (fun a b hab => ?_) (by decide)) (by decide)
    rw [a3 a b (fun z => hab (56, 1000000) (by decide) ⟨z.1.symm, Or.inr rfl⟩), a2 a b (fun z => hab (55, 1000000) (by decide) ⟨z.1.symm, Or.inr rfl⟩)]
    exact M1 a b hab
  · have r : ∀ b : Nat, ab_ups (ab_ups σ3 60 3 0) 60 4 0 49 b = σ1 49 b := fun b => by
      rw [ab_ups_ne (fun z => absurd z.1 (by decide)), ab_ups_ne (fun z => absurd z.1 (by decide)), a3 49 b (fun z => absurd z.1 (by decide)), a2 49 b (fun z => absurd z.1 (by decide))]
    refine ⟨(r 11).trans v1, (r 12).trans v2, (r 13).trans v3, (r 14).trans v4, fun b hb => ?_, fun b hb => ?_, ?_, ab_ups_eq⟩
    · rw [ab_ups_ne (fun z => absurd z.1 (by decide)), ab_ups_ne (fun z => absurd z.1 (by decide)), a3 55 b (fun z => absurd z.1 (by decide)), b2 b hb, fw_c0]
    · rw [ab_ups_ne (fun z => absurd z.1 (by decide)), ab_ups_ne (fun z => absurd z.1 (by decide)), b3 b hb, z5]
    · rw [ab_ups_ne (by decide), ab_ups_eq])
end
theorem RD.off {σ A : ab_SG} {e : tk_E} {p k j : Nat} {v : Int} (h : RD σ A e p) (hk : k ≠ 1 ∧ k ≠ 2) (hn : pr_in k j = false) : RD (ab_ups σ k j v) A e p := by
  obtain ⟨ha, hi, he, hs, hp, hb, h9⟩ := h
  have n1 : ∀ b : Nat, ab_ups σ k j v 1 b = σ 1 b := fun b => ab_ups_ne (fun z => hk.1 z.1.symm)
  have n2 : ab_ups σ k j v 2 = σ 2 := ab_ups_row (fun z => hk.2 z.symm)
  refine ⟨fun a b hab => (ab_ups_ne (fun z => ?_)).trans (ha a b hab), hi, ?_, ?_, hp, ?_, (n1 9).trans h9⟩
  · rw [z.1, z.2, hn] at hab
    exact absurd hab (by decide)
  · rw [← he]
    unfold eT tp_t
    rw [n1, n1, n2]
  · unfold st_is
    rw [n1, n1, n1, n1, n1, n1]
    exact hs
  · rw [n1, n1]
    exact hb
theorem eT_M {M : ab_ML} {σ σ' : ab_SG} (h : ab_okM M σ σ') (hm : M.all (fun q => !(q.1.beq 2)) = true) (h1 : σ' 1 1 = σ 1 1) (h2 : σ' 1 2 = σ 1 2) : eT σ' = eT σ := by
  unfold eT
  rw [tp_t_M h hm, h1, h2]
theorem rl_end {G : fw_K} {K : fw_KR} (hG : fw_cls st_read K G) {σ0 σ A : ab_SG} {e : tk_E} {p : Nat} {n i : Int} (hM : ab_okM rl_M σ0 σ) (h : RD σ A e p) (h5 : σ 48 5 = n) (h3 : σ 60 3 = 0) (h4 : σ 60 4 = 0)
    (h1 : ∀ σ' : ab_SG, ab_okM rl_M σ0 σ' → eT σ' = e → σ' 1 9 = 0 → agr σ' A → σ' 48 5 = n → σ' 60 3 = 0 → σ' 60 4 = 0 → (∀ w x y : Nat, w < 4 → (x : Int) < σ' 49 11 → (y : Int) < σ' 49 11 → σ' 53 ((w * 9 + x) * 9 + y) = pr_cs σ' x y w 9 0) → K (some (0, 0, 1)) σ') :
    G 96 [some (2, 48, 0), some (0, 0, i)] [] σ := by
  have hi := h.2.1
  have e11 : σ 49 11 = A 49 11 := h.pl rfl
  refine fs_read_96 hG ⟨rfl, ⟨by rw [e11]; exact hi.1, fun j hj => ?_⟩, fun σ' a b => fs_read_103 hG ⟨fw_11, h1 σ' ?_ ?_ ?_ ?_ ?_ ?_ ?_ ?_⟩⟩
  · rw [h.pl (k := 52) (j := j) rfl]
    exact hi.2.2.2.2.2.2.1 j hj
  · exact fun a' b' hab => (a a' b' (fun z => hab (53, 1000000) (by decide) ⟨z.symm, Or.inr rfl⟩)).trans (hM a' b' hab)
  · rw [← h.2.2.1]
    refine eT_M (M := [(53, 1000000)]) (fun a' b' hab => a a' b' (fun z => hab (53, 1000000) (by decide) ⟨z.symm, Or.inr rfl⟩)) (by decide) (a 1 1 (by decide)) (a 1 2 (by decide))
  · exact (a 1 9 (by decide)).trans h.2.2.2.2.2.2
  · intro k j hk
    refine (a k j (fun z => ?_)).trans (h.1 k j hk)
    rw [z] at hk
    exact absurd (show false = true from hk) (by decide)
  · exact (a 48 5 (by decide)).trans h5
  · exact (a 60 3 (by decide)).trans h3
  · exact (a 60 4 (by decide)).trans h4
  · intro w x y hw hx hy
    rw [a 49 11 (by decide)] at hx hy
    exact (b w x y hw hx hy).trans (pr_cs_cong a 9 0).symm
theorem rl_loop {G : fw_K} {K : fw_KR} (hG : fw_cls st_read K G) {σ0 : ab_SG} {e : tk_E} : ∀ (f i : Nat) (σ A : ab_SG) (p : Nat) (n : Int), i + f = 900 → (0 ≤ n ∧ n ≤ i) → ab_okM rl_M σ0 σ → RD σ A e p → nb_is A → σ 48 5 = n → σ 60 3 = 0 → σ 60 4 = 0 →
    ((pr_all e f n A p).1.1 ≠ 0 → ∀ σ' : ab_SG, ab_okM rl_M σ0 σ' → eT σ' = e → σ' 1 9 = (pr_all e f n A p).1.1 → K (some (0, 0, 0)) σ') →
    ((pr_all e f n A p).1.1 = 0 → ∀ σ' : ab_SG, ab_okM rl_M σ0 σ' → eT σ' = e → σ' 1 9 = 0 → agr σ' (pr_all e f n A p).1.2.1 → σ' 48 5 = (pr_all e f n A p).2 → σ' 60 3 = 0 → σ' 60 4 = 0 → (∀ w x y : Nat, w < 4 → (x : Int) < σ' 49 11 → (y : Int) < σ' 49 11 → σ' 53 ((w * 9 + x) * 9 + y) = pr_cs σ' x y w 9 0) → RI (pr_all e f n A p).1.2.1 → nb_is (pr_all e f n A p).1.2.1 → K (some (0, 0, 1)) σ') →
    G 42 [some (2, 48, 0), some (0, 0, (i : Int))] [] σ := by
  intro f
  have z9 : fw_c 900 = 900 := fw_c_id (by decide) (by decide)
  have z59 : fw_c 59 = 59 := fw_c_id (by decide) (by decide)
  induction f with
  | zero =>
    intro i σ A p n hi hn hM h hb h5 h3 h4 hf hk
    have ei : fw_c (i : Int) = i := fw_c_id (by omega) (by omega)
    refine fs_read_42 hG ?_
    rw [z9, ei]
    exact ⟨fun _ => rl_end hG hM h h5 h3 h4 (fun σ' a b c d e5 f3 f4 s => hk rfl σ' a b c d e5 f3 f4 s h.2.1 hb), fun q => absurd q (by omega)⟩
  | succ f ih =>
    intro i σ A p n hi hn hM h hb h5 h3 h4 hf hk
    have ei : fw_c (i : Int) = i := fw_c_id (by omega) (by omega)
    refine fs_read_42 hG ?_
    rw [z9, ei, h.kind.2]
    refine ⟨fun q => absurd q (by omega), fun _ => ⟨fun q => ?_, fun q => ?_⟩⟩
    · unfold pr_all at hk
      rw [if_pos q] at hk
      exact rl_end hG hM h h5 h3 h4 (fun σ' a b c d e5 f3 f4 s => hk rfl σ' a b c d e5 f3 f4 s h.2.1 hb)
    · unfold pr_all at hf hk
      rw [if_neg q] at hf hk
      refine ⟨A, e, p, rfl, h, fun q2 σ' a b => ?_, fun q2 σ' a b => ?_⟩
      · have e1 : pr_lns A e p = pr_line A e p := by unfold pr_lns; rw [if_pos q2]
        rw [e1, if_pos q2] at hf
        have hE : eT σ' = e := (eT_M a (by decide) (a 1 1 (by decide)) (a 1 2 (by decide))).trans h.2.2.1
        exact fs_read_63 hG ⟨fun _ => ⟨fw_01, hf q2 σ' (fw_okM_tr hM a (by decide)) hE b⟩, fun y => absurd fw_c0 y⟩
      · refine fs_read_63 hG ⟨fun y => absurd (fw_c1.symm.trans y) (by decide), fun _ => ⟨59, rfl, fun q3 => ?_, fun q3 => ?_⟩⟩
        · have k3 : (tk e (pr_line A e p).2.2).1 ≠ 59 := fun z => q3 (b.kind.2.trans (z.trans z59.symm))
          have e1 : pr_lns A e p = (1, (pr_line A e p).2.1, (pr_line A e p).2.2) := by unfold pr_lns; rw [if_neg (fun y => y q2), if_pos k3]
          rw [e1, if_pos (show (1 : Int) ≠ 0 by decide)] at hf
          have M3 : ab_okM rd_M σ' (tp_rf σ' 1) := tp_rf_M 1
          have hE : eT (tp_rf σ' 1) = e := (eT_M M3 (by decide) (M3 1 1 (by decide)) (M3 1 2 (by decide))).trans b.2.2.1
          exact fs_read_75 hG ⟨fun y => absurd fw_c0 y, fun _ => ⟨fw_01, hf (by first | decide | (dsimp only; decide)) _ (fw_okM_tr (fw_okM_tr hM a (by decide)) M3 (by decide)) hE (by rw [tp_rf_9, fw_c1])⟩⟩
        · have k3 : ¬ (tk e (pr_line A e p).2.2).1 ≠ 59 := fun z => z (b.kind.2.symm.trans (q3.trans z59))
          have e1 : pr_lns A e p = (0, (pr_line A e p).2.1, tn e (pr_line A e p).2.2) := by unfold pr_lns; rw [if_neg (fun y => y q2), if_neg k3]
          rw [e1, if_neg (show ¬ (0 : Int) ≠ 0 by decide)] at hf hk
          refine ⟨b.st.1, fun σ2 M2 S2 => fs_read_75 hG ⟨fun _ => ?_, fun y => absurd (fw_c1.symm.trans y) (by decide)⟩⟩
          have H2 := b.st.2 σ2 M2 S2
          have N2 : ab_okM rl_M σ0 σ2 := fw_okM_tr (fw_okM_tr hM a (by decide)) M2 (by decide)
          have e5 : σ2 48 5 = n := (M2 48 5 (by decide)).trans ((a 48 5 (by decide)).trans h5)
          have f3 : σ2 60 3 = 0 := (M2 60 3 (by decide)).trans ((a 60 3 (by decide)).trans h3)
          have f4 : σ2 60 4 = 0 := (M2 60 4 (by decide)).trans ((a 60 4 (by decide)).trans h4)
          have en : fw_c (n + 1) = n + 1 := fw_c_id (by omega) (by omega)
          rw [e5, en]
          exact ih (i + 1) _ _ _ (n + 1) (by omega) (by omega) (fw_okM_ups N2 (by decide)) (H2.off (by decide) rfl) (pr_line_nb h.2.1 hb q2) ab_ups_eq ((ab_ups_ne (by decide)).trans f3) ((ab_ups_ne (by decide)).trans f4) hf hk
section
variable {l : Launch} {cy : Nat → ClassId} {ad wr cr : Nat → Nat} {D : va_G}
theorem fm_read (hinj : nn_inj ad) : fw_H l cy ad wr cr D 5 7 sp_read := fw_mk hinj (⟨"NameNotes$StudioReader", "read", "()Z"⟩, prog_9_method_2_code, 2, (Option.some Jvm.ClassFile.FieldType.boolean), 0, true, 1) rfl rfl nn_KI3_ok nn_KJ3_ok nn_PF3_ok nn_PS3_ok (by decide +kernel) rfl rfl (List.forall_mem_cons.mpr ⟨fw_row nn_PM3_ok (x := 26) (k := 0) (mn := 6) (np := 0) (ob := true) (ci := 6) (⟨"NameNotes$Studio", "clear", "()V"⟩, prog_8_method_2_code, 1, (Option.none : Option Jvm.ClassFile.FieldType), 0, true, 4) rfl (by decide +kernel) rfl rfl (by decide) (fun _ => ⟨_, _, rfl⟩) (fm_clear49 hinj), (List.forall_mem_cons.mpr ⟨fw_row nn_PM3_ok (x := 29) (k := 2) (mn := 7) (np := 2) (ob := false) (ci := 0) (⟨"NameNotes", "fillRow", "([II)V"⟩, prog_1_method_90_code, 3, (Option.none : Option Jvm.ClassFile.FieldType), 2, false, 4) rfl (by decide +kernel) rfl rfl (by decide) (fun q => by cases q) (fm_fill hinj), (List.forall_mem_cons.mpr ⟨fw_row nn_PM3_ok (x := 44) (k := 0) (mn := 9) (np := 1) (ob := true) (ci := 8) (⟨"NameNotes$Tape", "open", "(I)V"⟩, prog_10_method_4_code, 2, (Option.none : Option Jvm.ClassFile.FieldType), 1, true, 4) rfl (by decide +kernel) rfl rfl (by decide) (fun _ => ⟨_, _, rfl⟩) (fm_opn hinj), (List.forall_mem_cons.mpr ⟨fw_row nn_PM3_ok (x := 53) (k := 0) (mn := 19) (np := 0) (ob := true) (ci := 7) (⟨"NameNotes$StudioReader", "readLine", "()Z"⟩, prog_9_method_3_code, 1, (Option.some Jvm.ClassFile.FieldType.boolean), 0, true, 1) rfl (by decide +kernel) rfl rfl (by decide) (fun _ => ⟨_, _, rfl⟩) (fm_readLine hinj), (List.forall_mem_cons.mpr ⟨fw_row nn_PM3_ok (x := 57) (k := 0) (mn := 40) (np := 1) (ob := true) (ci := 8) (⟨"NameNotes$Tape", "takeSign", "(I)Z"⟩, prog_10_method_13_code, 2, (Option.some Jvm.ClassFile.FieldType.boolean), 1, true, 1) rfl (by decide +kernel) rfl rfl (by decide) (fun _ => ⟨_, _, rfl⟩) (fm_takeSign hinj), (List.forall_mem_cons.mpr ⟨fw_row nn_PM3_ok (x := 61) (k := 0) (mn := 41) (np := 0) (ob := true) (ci := 6) (⟨"NameNotes$Studio", "compareAll", "()V"⟩, prog_8_method_19_code, 4, (Option.none : Option Jvm.ClassFile.FieldType), 0, true, 4) rfl (by decide +kernel) rfl rfl (by decide) (fun _ => ⟨_, _, rfl⟩) (fm_compareAll hinj), (fun _ h => absurd h List.not_mem_nil)⟩)⟩)⟩)⟩)⟩)⟩) (fun as σ K h => by
  obtain ⟨rfl, hb, hr, h⟩ := h
  have z9 : fw_c 900 = 900 := fw_c_id (by decide) (by decide)
  refine ⟨rfl, fun G hG => fs_read_0 hG ⟨rfl, fun σ1 M1 C1 => fs_read_7 hG ⟨(64, 5), by decide, 0, rfl, fun σ2 a2 b2 => fs_read_15 hG ⟨fw_01, ?_⟩⟩⟩⟩
  rw [fw_c0]
  have M2 : ab_okM ((48, 3) :: (48, 4) :: (48, 5) :: (64, 1000000) :: cl_M) σ (ab_ups (ab_ups (ab_ups σ2 48 3 0) 48 4 0) 48 5 0) := fw_okM_ups (fw_okM_ups (fw_okM_ups (fun a b hab => (a2 a b (fun z => hab (64, 1000000) (by decide) ⟨z.1.symm, Or.inr rfl⟩)).trans (fw_okM_tr (fw_okM_refl _ _) M1 (by decide) a b hab)) (by decide)) (by decide)) (by decide)
  have C2 : rl_is (ab_ups (ab_ups (ab_ups σ2 48 3 0) 48 4 0) 48 5 0) := by
    have r : ∀ a b : Nat, a ≠ 48 → a ≠ 64 → ab_ups (ab_ups (ab_ups σ2 48 3 0) 48 4 0) 48 5 0 a b = σ1 a b := fun a b p q => by
      rw [ab_ups_ne (fun z => p z.1), ab_ups_ne (fun z => p z.1), ab_ups_ne (fun z => p z.1), a2 a b (fun z => q z.1)]
    obtain ⟨c1, c2, c3, c4, c5, c6, c7, c8⟩ := C1
    refine ⟨⟨(r 49 11 (by decide) (by decide)).trans c1, (r 49 12 (by decide) (by decide)).trans c2, (r 49 13 (by decide) (by decide)).trans c3, (r 49 14 (by decide) (by decide)).trans c4, fun b hb => (r 55 b (by decide) (by decide)).trans (c5 b hb), fun b hb => (r 56 b (by decide) (by decide)).trans (c6 b hb), (r 60 3 (by decide) (by decide)).trans c7, (r 60 4 (by decide) (by decide)).trans c8⟩, fun b hb => ?_, ?_, ?_, ab_ups_eq⟩
    · rw [ab_ups_ne (fun z => absurd z.1 (by decide)), ab_ups_ne (fun z => absurd z.1 (by decide)), ab_ups_ne (fun z => absurd z.1 (by decide)), b2 b hb, fw_c0]
    · rw [ab_ups_ne (by decide), ab_ups_ne (by decide), ab_ups_eq]
    · rw [ab_ups_ne (by decide), ab_ups_eq]
  generalize ab_ups (ab_ups (ab_ups σ2 48 3 0) 48 4 0) 48 5 0 = A at M2 C2 ⊢
  have hA : rl_ok A := by
    unfold rl_ok
    rw [fw_okM_c M2 (a := 57) (by decide), fw_okM_c M2 (a := 58) (by decide), fw_okM_c M2 (a := 59) (by decide), fw_okM_c M2 (a := 52) (by decide)]
    exact hr
  have M3 : ab_okM rl_M σ A := fw_okM_tr (fw_okM_refl _ _) M2 (by decide)
  have n11 : A 1 1 = σ 1 1 := M2 1 1 (by decide)
  have nt : tp_t A = tp_t σ := tp_t_M M2 (by decide)
  refine ⟨900, rfl, ⟨by rw [n11]; exact hb.1, by rw [n11]; exact hb.2, by rw [z9]; decide, by rw [z9]; decide⟩, fun σ' M S2 e9 S => fs_read_40 hG ?_⟩
  rw [z9] at S2 S
  rw [n11, nt] at S
  have eE : eT σ' = (tp_t σ, (σ 1 1).toNat, 900) := by
    unfold eT
    rw [tp_t_M M (by decide), nt, M 1 1 (by decide), n11, S2]
  have H : RD σ' A (tp_t σ, (σ 1 1).toNat, 900) 0 := by
    refine ⟨agr_M (fun _ _ _ => rfl) M (by decide), ⟨?_, ?_, ?_, hA.1, hA.2.1, hA.2.2.1, hA.2.2.2, ?_⟩, eE, S, Nat.zero_le _, ?_, e9⟩
    · rw [C2.1.1]; decide
    · rw [C2.1.2.1]; decide
    · rw [C2.1.2.2.1]; decide
    · rw [C2.2.2.2.1]; decide
    · rw [M 1 1 (by decide), n11, S2]; exact ⟨hb.1, hb.2, by decide, by decide⟩
  exact rl_loop hG 900 0 σ' A 0 0 rfl ⟨by decide, by decide⟩ (fw_okM_tr M3 M (by decide)) H (rl_nb C2) ((M 48 5 (by decide)).trans C2.2.2.2.2) ((M 60 3 (by decide)).trans C2.1.2.2.2.2.2.2.1) ((M 60 4 (by decide)).trans C2.1.2.2.2.2.2.2.2) (fun q σ3 a b c => (h A σ3 C2 hA a b).1 q c) (fun q σ3 a b c d f g k s i9 n9 => (h A σ3 C2 hA a b).2 q c d f g k s i9 n9))
end
