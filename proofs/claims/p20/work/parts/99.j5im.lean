/-! a studio told, kept, taken back: both sides -/
def cn_is (σ : ab_SG) (b : Nat) (A : ab_SG) : Prop := σ b 11 = A 49 11 ∧ σ b 12 = A 49 12 ∧ σ b 13 = A 49 13 ∧ σ b 14 = A 49 14 ∧
  (∀ x : Nat, (x : Int) < A 49 11 → σ (b + 3) x = A 52 x ∧ σ (b + 8) x = A 57 x ∧ ∀ i : Nat, (i : Int) < A 52 x → σ (b + 1) (x * 9 + i) = A 50 (x * 9 + i) ∧ σ (b + 2) (x * 9 + i) = A 51 (x * 9 + i)) ∧
  (∀ c : Nat, (c : Int) < A 49 12 → σ (b + 5) c = A 54 c ∧ σ (b + 9) c = A 58 c) ∧ (∀ j : Nat, j < 45 → σ (b + 6) j = A 55 j) ∧ (∀ j : Nat, j < 5 → σ (b + 7) j = A 56 j) ∧ (∀ p : Nat, (p : Int) < A 49 13 → σ (b + 10) p = A 59 p) ∧
  (∀ w x y : Nat, w < 4 → (x : Int) < A 49 11 → (y : Int) < A 49 11 → σ (b + 4) ((w * 9 + x) * 9 + y) = pr_cs A x y w 9 0)
theorem cn_copy {σ σ' A : ab_SG} {a b : Nat} (hi : RI A) (hn : nb_is A) (h : cn_is σ a A) (hc : cy_is σ σ' a b) : cn_is σ' b A := by
  have c : ∀ v : Int, 0 ≤ v → v ≤ 1000 → fw_c v = v := fun v h1 h2 => fw_c_id (by omega) (by omega)
  have i1 := hi.1
  have i2 := hi.2.1
  have i3 := hi.2.2.1
  obtain ⟨r1, r2, r3, r4, r5, r6, r7, r8, r9, r10⟩ := h
  obtain ⟨d1, d2, d3, d4, d5, d6, d7, d8, d9, d10, -, e1, e2, e3, e4, -⟩ := hc
  refine ⟨?_, ?_, ?_, ?_, fun x hx => ⟨?_, ?_, fun i hi2 => ⟨?_, ?_⟩⟩, fun q hq => ⟨?_, ?_⟩, fun j hj => ?_, fun j hj => ?_, fun p hp => ?_, fun w x y hw hx hy => ?_⟩
  · rw [e1, r1]; exact c _ (by omega) (by omega)
  · rw [e2, r2]; exact c _ (by omega) (by omega)
  · rw [e3, r3]; exact c _ (by omega) (by omega)
  · have := hn.2.2.2.2
    rw [e4, r4]; exact c _ (by omega) (by omega)
  · have := hi.2.2.2.2.2.2.1 x (by omega)
    rw [d3 x (by omega), (r5 x hx).1]; exact c _ (by omega) (by omega)
  · rw [d8 x (by omega), (r5 x hx).2.1]; exact hi.2.2.2.1 x (by omega)
  · have hs := hi.2.2.2.2.2.2.1 x (by omega)
    have := (hn.1 x hx).2 i hi2
    rw [d1 _ (by omega), ((r5 x hx).2.2 i hi2).1]; exact c _ (by omega) (by omega)
  · have hs := hi.2.2.2.2.2.2.1 x (by omega)
    have := (hn.1 x hx).2 i hi2
    rw [d2 _ (by omega), ((r5 x hx).2.2 i hi2).2]; exact c _ (by omega) (by omega)
  · have h1 := hn.2.1 q hq
    have h2 := p2_mono (n := 9) (m := A 49 11) (by omega) (by omega) (by omega)
    have h3 : p2_n 9 = 512 := by decide
    rw [d5 q (by omega), (r6 q hq).1]; exact c _ (by omega) (by omega)
  · rw [d9 q (by omega), (r6 q hq).2]; exact hi.2.2.2.2.1 q (by omega)
  · have := hn.2.2.1 j hj
    rw [d6 j hj, r7 j hj]; exact c _ (by omega) (by omega)
  · have := hn.2.2.2.1 j hj
    rw [d7 j hj, r8 j hj]; exact c _ (by omega) (by omega)
  · rw [d10 p (by omega), r9 p hp]; exact hi.2.2.2.2.2.1 p (by omega)
  · have h1 := pr_cs_in (A := A) (x := (x : Int)) (y := (y : Int)) (w := (w : Int)) 9 0
    rw [d4 _ (by omega), r10 w x y hw hx hy]; exact c _ (by omega) (by omega)
theorem pr_cs_cg {A B : ab_SG} (h11 : A 49 11 = B 49 11) (h50 : ∀ j : Nat, A 50 j = B 50 j) (h51 : ∀ j : Nat, A 51 j = B 51 j) (h52 : ∀ j : Nat, A 52 j = B 52 j) {x y w : Int} : ∀ f i : Nat, pr_cs A x y w f i = pr_cs B x y w f i := by
  intro f
  induction f with
  | zero => intro i; rfl
  | succ f ih =>
    intro i
    unfold pr_cs
    have e : pr_sn A x y i w ↔ pr_sn B x y i w := by
      unfold pr_sn
      simp only [h11, h50, h51, h52]
    by_cases q : pr_sn A x y i w
    · rw [if_pos q, if_pos (e.mp q), ih]
    · rw [if_neg q, if_neg (fun z => q (e.mpr z))]
theorem cn_agr {σ A : ab_SG} (h : agr σ A) (hs : ∀ w x y : Nat, w < 4 → (x : Int) < σ 49 11 → (y : Int) < σ 49 11 → σ 53 ((w * 9 + x) * 9 + y) = pr_cs σ x y w 9 0) : cn_is σ 49 A := by
  have e11 := h 49 11 rfl
  refine ⟨e11, h 49 12 rfl, h 49 13 rfl, h 49 14 rfl, fun x _ => ⟨h 52 x rfl, h 57 x rfl, fun i _ => ⟨h 50 _ rfl, h 51 _ rfl⟩⟩, fun c _ => ⟨h 54 c rfl, h 58 c rfl⟩, fun j _ => h 55 j rfl, fun j _ => h 56 j rfl, fun p _ => h 59 p rfl, fun w x y hw hx hy => ?_⟩
  rw [← e11] at hx hy
  exact (hs w x y hw hx hy).trans (pr_cs_cg e11 (fun j => h 50 j rfl) (fun j => h 51 j rfl) (fun j => h 52 j rfl) 9 0)
theorem cn_row {σ σ' A : ab_SG} {b : Nat} (h : cn_is σ b A) (h0 : ∀ j : Nat, j = 11 ∨ j = 12 ∨ j = 13 ∨ j = 14 → σ' b j = σ b j) (hk : ∀ k : Nat, 1 ≤ k → k ≤ 10 → σ' (b + k) = σ (b + k)) : cn_is σ' b A := by
  unfold cn_is
  rw [h0 11 (by omega), h0 12 (by omega), h0 13 (by omega), h0 14 (by omega), hk 1 (by omega) (by omega), hk 2 (by omega) (by omega), hk 3 (by omega) (by omega), hk 4 (by omega) (by omega), hk 5 (by omega) (by omega), hk 6 (by omega) (by omega), hk 7 (by omega) (by omega), hk 8 (by omega) (by omega), hk 9 (by omega) (by omega), hk 10 (by omega) (by omega)]
  exact h
theorem cy_ups {σ σ' : ab_SG} {a b : Nat} {v : Int} (h : cy_is σ σ' a b) : cy_is σ (ab_ups σ' b 16 v) a b := by
  have r : ∀ k : Nat, 1 ≤ k → ab_ups σ' b 16 v (b + k) = σ' (b + k) := fun k hk => ab_ups_row (by omega)
  have s : ∀ j : Nat, j < 16 → ab_ups σ' b 16 v b j = σ' b j := fun j hj => ab_ups_ne (fun z => by omega)
  unfold cy_is sc_is at h ⊢
  rw [r 1 (by omega), r 2 (by omega), r 3 (by omega), r 4 (by omega), r 5 (by omega), r 6 (by omega), r 7 (by omega), r 8 (by omega), r 9 (by omega), r 10 (by omega), r 11 (by omega), r 12 (by omega), r 13 (by omega), s 11 (by omega), s 12 (by omega), s 13 (by omega), s 14 (by omega), s 15 (by omega)]
  exact h
def sf_M : ab_ML := (1, 1) :: rl_M
def ss_M : ab_ML := (0, 17) :: (85, 1) :: (3, 11) :: (3, 12) :: (3, 13) :: (3, 14) :: (3, 15) :: (4, 1000000) :: (5, 1000000) :: (6, 1000000) :: (7, 1000000) :: (8, 1000000) :: (9, 1000000) :: (10, 1000000) :: (11, 1000000) :: (12, 1000000) :: (13, 1000000) :: (15, 1000000) :: (16, 1000000) :: (14, 3) :: (14, 4) :: sf_M
def cs_ok (σ σ' A : ab_SG) : Prop := ab_okM ss_M σ σ' ∧ σ' 1 1 = 0 ∧ σ' 1 9 = 0 ∧ RI A ∧ nb_is A ∧ cn_is σ' 3 A ∧ σ' 0 17 = fw_c (σ 0 17 + 1) ∧ σ' 3 15 = fw_c (σ 0 17 + 1) ∧ σ' 85 1 = 0 ∧ σ' 14 3 = 0 ∧ σ' 14 4 = 0
def sp_studio : fw_SP := fun as σ K => as = [(2, 0, 0)] ∧ (0 ≤ σ 1 1 ∧ σ 1 1 ≤ 940) ∧ rl_ok σ ∧ ∀ A : ab_SG, rl_is A → rl_ok A →
  ((pr_read A (tp_t σ) (σ 1 1).toNat).1.1 ≠ 0 → ∀ (v : Int) (σ' : ab_SG), ab_okM sf_M σ σ' → σ' 1 1 = 0 → σ' 1 9 = (pr_read A (tp_t σ) (σ 1 1).toNat).1.1 → K (some (0, 0, v)) σ') ∧
  ((pr_read A (tp_t σ) (σ 1 1).toNat).1.1 = 0 → ∀ σ' : ab_SG, cs_ok σ σ' (pr_read A (tp_t σ) (σ 1 1).toNat).1.2.1 → K (some (0, 0, (pr_read A (tp_t σ) (σ 1 1).toNat).2)) σ')
def sp_imageAt : fw_SP := fun as σ K => ∃ k : Int, as = [(2, 0, 0), (0, 0, k)] ∧ fw_c k = k ∧ (k = 0 → K (some (2, 18, 0)) σ) ∧ (k = 1 → K (some (2, 33, 0)) σ) ∧ (k ≠ 0 → k ≠ 1 → K (some (3, 0, 0)) σ)
def im_M (b : Nat) : ab_ML := (b, 16) :: cy_M b
def sp_image : fw_SP := fun as σ K => ∃ k : Int, as = [(2, 0, 0), (0, 0, k)] ∧ fw_c k = k ∧ (k ≠ 0 → k ≠ 1 → K (some (0, 0, 0)) σ) ∧ (k = 0 → ∀ σ' : ab_SG, ab_okM (im_M 18) σ σ' → cy_is σ σ' 3 18 → σ' 18 16 = 1 → K (some (0, 0, 1)) σ') ∧ (k = 1 → ∀ σ' : ab_SG, ab_okM (im_M 33) σ σ' → cy_is σ σ' 3 33 → σ' 33 16 = 1 → K (some (0, 0, 1)) σ')
def re_M : ab_ML := (85, 1) :: cy_M 3
def sp_restore : fw_SP := fun as σ K => ∃ k : Int, as = [(2, 0, 0), (0, 0, k)] ∧ fw_c k = k ∧ (σ 18 16 = 0 ∨ σ 18 16 = 1) ∧ (σ 33 16 = 0 ∨ σ 33 16 = 1) ∧ (k ≠ 0 → k ≠ 1 → K (some (0, 0, 0)) σ) ∧ (k = 0 → σ 18 16 = 0 → K (some (0, 0, 0)) σ) ∧ (k = 1 → σ 33 16 = 0 → K (some (0, 0, 0)) σ) ∧
  (k = 0 → σ 18 16 = 1 → ∀ σ' : ab_SG, ab_okM re_M σ σ' → cy_is σ σ' 18 3 → σ' 85 1 = 0 → K (some (0, 0, 1)) σ') ∧ (k = 1 → σ 33 16 = 1 → ∀ σ' : ab_SG, ab_okM re_M σ σ' → cy_is σ σ' 33 3 → σ' 85 1 = 0 → K (some (0, 0, 1)) σ')
def kp_is (σ σ' : ab_SG) (q : Nat) : Prop := ab_okM [(97, 1000000), (101, 1000000), (102, 1000000)] σ σ' ∧ (∀ j : Nat, j < 474 → σ' 97 (474 * q + j) = fw_c (σ 95 j)) ∧ (∀ j : Nat, j < 20 → σ' 101 (20 * q + j) = fw_d (σ 99 j)) ∧
  (∀ j : Nat, (j < 474 * q ∨ 474 * q + 474 ≤ j) → σ' 97 j = σ 97 j) ∧ (∀ j : Nat, (j < 20 * q ∨ 20 * q + 20 ≤ j) → σ' 101 j = σ 101 j) ∧ σ' 102 q = 1 ∧ ∀ r : Nat, r ≠ q → σ' 102 r = σ 102 r
def lm_M : ab_ML := [(93, 0), (93, 22), (95, 3)]
def sp_m_image : fw_SP := fun as σ K => ∃ k : Int, as = [(2, 93, 0), (0, 0, k)] ∧ fw_c k = k ∧ ly_ok σ ∧ (k ≠ 0 → k ≠ 1 → ∀ σ' : ab_SG, ab_okM lm_M σ σ' → ly_is σ σ' → K (some (0, 0, 0)) σ') ∧ (∀ q : Nat, q < 2 → k = (q : Int) → ∀ σ1 σ' : ab_SG, ab_okM lm_M σ σ1 → ly_is σ σ1 → kp_is σ1 σ' q → K (some (0, 0, 1)) σ')
def tb_is (σ σ' : ab_SG) (q : Nat) : Prop := ab_okM [(93, 0), (93, 24), (95, 1000000), (99, 1000000)] σ σ' ∧ (∀ j : Nat, j < 474 → σ' 95 j = fw_c (σ 97 (474 * q + j))) ∧ (∀ j : Nat, j < 20 → σ' 99 j = fw_d (σ 101 (20 * q + j))) ∧ σ' 93 24 = 0
def sp_m_restore : fw_SP := fun as σ K => ∃ k : Int, as = [(2, 93, 0), (0, 0, k)] ∧ fw_c k = k ∧ (∀ r : Nat, r < 2 → σ 102 r = 0 ∨ σ 102 r = 1) ∧ (k ≠ 0 → k ≠ 1 → K (some (0, 0, 0)) (ab_ups σ 93 0 0)) ∧ (∀ q : Nat, q < 2 → k = (q : Int) → σ 102 q = 0 → K (some (0, 0, 0)) (ab_ups σ 93 0 0)) ∧ (∀ q : Nat, q < 2 → k = (q : Int) → σ 102 q = 1 → ∀ σ' : ab_SG, tb_is σ σ' q → K (some (0, 0, 1)) σ')
abbrev fk_studio : List fw_CR := [(119, 0, true, 7, 7, sp_read), (128, 1, true, 6, 2, sp_copy)]
abbrev st_studio : fw_K → fw_KR → fw_K := fw_st vwCl nn_sh nn_kd fw_kv fw_wc (nn_KI1.map (fun x => x.1)) (nn_KJ1.map (fun x => x.1)) (nn_PF1.map (fun x => x.1)) (nn_PS1.map (fun x => x.1)) fk_studio 8 nn_dt4 2 0
theorem fs_studio_0 {G : fw_K} {R : fw_KR} (hG : fw_cls st_studio R G) {σ : ab_SG} (h : sp_read [(2, 48, 0)] σ (fun rv σ2 => G 7 [some (2, 0, 0), none] (rv.toList ++ []) σ2)) : G 0 [some (2, 0, 0), none] [] σ := fw_on hG [7, 54] 200 h
theorem fs_studio_7 {G : fw_K} {R : fw_KR} (hG : fw_cls st_studio R G) {b0 : Int} {σ : ab_SG} (h : (fw_c b0 ≠ 0 → sp_copy [(2, 3, 0), (2, 49, 0)] (ab_ups (ab_ups σ 1 1 (fw_c 0)) 0 17 (fw_c ((σ 0 17) + 1))) (fun rv σ2 => G 54 [some (2, 0, 0), some (0, 0, b0)] (rv.toList ++ []) σ2)) ∧ (fw_c b0 = 0 → R (some (0, 0, (-1) - (σ 1 10))) (ab_ups σ 1 1 (fw_c 0)))) : G 7 [some (2, 0, 0), none] [(0, 0, b0)] σ := fw_on hG [7, 54] 200 h
theorem fs_studio_54 {G : fw_K} {R : fw_KR} (hG : fw_cls st_studio R G) {a1 : Int} {σ : ab_SG} (h : R (some (0, 0, σ 48 5)) (ab_ups (ab_ups σ 3 15 (fw_c (σ 0 17))) 85 1 (fw_c 0))) : G 54 [some (2, 0, 0), some (0, 0, a1)] [] σ := fw_on hG [7, 54] 200 h
abbrev fk_imageAt : List fw_CR := []
abbrev st_imageAt : fw_K → fw_KR → fw_K := fw_st vwCl nn_sh nn_kd fw_kv fw_wc (nn_KI1.map (fun x => x.1)) (nn_KJ1.map (fun x => x.1)) (nn_PF1.map (fun x => x.1)) (nn_PS1.map (fun x => x.1)) fk_imageAt 0 nn_dt185 2 3
theorem fs_imageAt_0 {G : fw_K} {R : fw_KR} (hG : fw_cls st_imageAt R G) {k : Int} {σ : ab_SG} (h : (fw_c k ≠ 0 → (fw_c k ≠ fw_c 1 → R (some (3, 0, 0)) σ) ∧ (fw_c k = fw_c 1 → R (some (2, 33, 0)) σ)) ∧ (fw_c k = 0 → R (some (2, 18, 0)) σ)) : G 0 [some (2, 0, 0), some (0, 0, k)] [] σ := fw_on hG [] 200 h
abbrev fk_image : List fw_CR := [(128, 1, true, 6, 2, sp_copy), (449, 1, true, 10, 0, sp_imageAt)]
abbrev st_image : fw_K → fw_KR → fw_K := fw_st vwCl nn_sh nn_kd fw_kv fw_wc (nn_KI1.map (fun x => x.1)) (nn_KJ1.map (fun x => x.1)) (nn_PF1.map (fun x => x.1)) (nn_PS1.map (fun x => x.1)) fk_image 3 nn_dt184 3 1
theorem fs_image_0 {G : fw_K} {R : fw_KR} (hG : fw_cls st_image R G) {k : Int} {σ : ab_SG} (h : sp_imageAt [(2, 0, 0), (0, 0, k)] σ (fun rv σ2 => G 5 [some (2, 0, 0), some (0, 0, k), none] (rv.toList ++ []) σ2)) : G 0 [some (2, 0, 0), some (0, 0, k), none] [] σ := fw_on hG [5, 20] 200 h
theorem fs_image_5 {G : fw_K} {R : fw_KR} (hG : fw_cls st_image R G) {a1 : Int} {σ : ab_SG} (h : sp_copy [(2, 18, 0), (2, 3, 0)] σ (fun rv σ2 => G 20 [some (2, 0, 0), some (0, 0, a1), some (2, 18, 0)] (rv.toList ++ []) σ2)) : G 5 [some (2, 0, 0), some (0, 0, a1), none] [(2, 18, 0)] σ := fw_on hG [5, 20] 200 h
theorem fs_image_5a {G : fw_K} {R : fw_KR} (hG : fw_cls st_image R G) {a1 : Int} {σ : ab_SG} (h : sp_copy [(2, 33, 0), (2, 3, 0)] σ (fun rv σ2 => G 20 [some (2, 0, 0), some (0, 0, a1), some (2, 33, 0)] (rv.toList ++ []) σ2)) : G 5 [some (2, 0, 0), some (0, 0, a1), none] [(2, 33, 0)] σ := fw_on hG [5, 20] 200 h
theorem fs_image_5b {G : fw_K} {R : fw_KR} (hG : fw_cls st_image R G) {a1 : Int} {σ : ab_SG} (h : (0 ≤ fw_c 0 ∧ fw_c 0 ≤ 1) ∧ R (some (0, 0, 0)) σ) : G 5 [some (2, 0, 0), some (0, 0, a1), none] [(3, 0, 0)] σ := fw_on hG [5, 20] 200 h
theorem fs_image_20 {G : fw_K} {R : fw_KR} (hG : fw_cls st_image R G) {a1 : Int} {σ : ab_SG} (h : (0 ≤ fw_c 1 ∧ fw_c 1 ≤ 1) ∧ ((0 ≤ fw_c 1 ∧ fw_c 1 ≤ 1) ∧ R (some (0, 0, 1)) (ab_ups σ 18 16 (fw_c 1)))) : G 20 [some (2, 0, 0), some (0, 0, a1), some (2, 18, 0)] [] σ := fw_on hG [5, 20] 200 h
theorem fs_image_20a {G : fw_K} {R : fw_KR} (hG : fw_cls st_image R G) {a1 : Int} {σ : ab_SG} (h : (0 ≤ fw_c 1 ∧ fw_c 1 ≤ 1) ∧ ((0 ≤ fw_c 1 ∧ fw_c 1 ≤ 1) ∧ R (some (0, 0, 1)) (ab_ups σ 33 16 (fw_c 1)))) : G 20 [some (2, 0, 0), some (0, 0, a1), some (2, 33, 0)] [] σ := fw_on hG [5, 20] 200 h
abbrev fk_restore : List fw_CR := [(128, 1, true, 6, 2, sp_copy), (449, 1, true, 10, 0, sp_imageAt)]
abbrev st_restore : fw_K → fw_KR → fw_K := fw_st vwCl nn_sh nn_kd fw_kv fw_wc (nn_KI1.map (fun x => x.1)) (nn_KJ1.map (fun x => x.1)) (nn_PF1.map (fun x => x.1)) (nn_PS1.map (fun x => x.1)) fk_restore 3 nn_dt186 3 1
theorem fs_restore_0 {G : fw_K} {R : fw_KR} (hG : fw_cls st_restore R G) {k : Int} {σ : ab_SG} (h : sp_imageAt [(2, 0, 0), (0, 0, k)] σ (fun rv σ2 => G 5 [some (2, 0, 0), some (0, 0, k), none] (rv.toList ++ []) σ2)) : G 0 [some (2, 0, 0), some (0, 0, k), none] [] σ := fw_on hG [5, 27] 200 h
theorem fs_restore_5 {G : fw_K} {R : fw_KR} (hG : fw_cls st_restore R G) {a1 : Int} {σ : ab_SG} (h : (fw_c (σ 18 16) ≠ 0 → sp_copy [(2, 3, 0), (2, 18, 0)] σ (fun rv σ2 => G 27 [some (2, 0, 0), some (0, 0, a1), some (2, 18, 0)] (rv.toList ++ []) σ2)) ∧ (fw_c (σ 18 16) = 0 → (0 ≤ fw_c 0 ∧ fw_c 0 ≤ 1) ∧ R (some (0, 0, 0)) σ)) : G 5 [some (2, 0, 0), some (0, 0, a1), none] [(2, 18, 0)] σ := fw_on hG [5, 27] 200 h
theorem fs_restore_5a {G : fw_K} {R : fw_KR} (hG : fw_cls st_restore R G) {a1 : Int} {σ : ab_SG} (h : (fw_c (σ 33 16) ≠ 0 → sp_copy [(2, 3, 0), (2, 33, 0)] σ (fun rv σ2 => G 27 [some (2, 0, 0), some (0, 0, a1), some (2, 33, 0)] (rv.toList ++ []) σ2)) ∧ (fw_c (σ 33 16) = 0 → (0 ≤ fw_c 0 ∧ fw_c 0 ≤ 1) ∧ R (some (0, 0, 0)) σ)) : G 5 [some (2, 0, 0), some (0, 0, a1), none] [(2, 33, 0)] σ := fw_on hG [5, 27] 200 h
theorem fs_restore_5b {G : fw_K} {R : fw_KR} (hG : fw_cls st_restore R G) {a1 : Int} {σ : ab_SG} (h : (0 ≤ fw_c 0 ∧ fw_c 0 ≤ 1) ∧ R (some (0, 0, 0)) σ) : G 5 [some (2, 0, 0), some (0, 0, a1), none] [(3, 0, 0)] σ := fw_on hG [5, 27] 200 h
theorem fs_restore_27 {G : fw_K} {R : fw_KR} (hG : fw_cls st_restore R G) {a1 : Int} {σ : ab_SG} (h : (0 ≤ fw_c 1 ∧ fw_c 1 ≤ 1) ∧ R (some (0, 0, 1)) (ab_ups σ 85 1 (fw_c 0))) : G 27 [some (2, 0, 0), some (0, 0, a1), some (2, 18, 0)] [] σ := fw_on hG [5, 27] 200 h
theorem fs_restore_27a {G : fw_K} {R : fw_KR} (hG : fw_cls st_restore R G) {a1 : Int} {σ : ab_SG} (h : (0 ≤ fw_c 1 ∧ fw_c 1 ≤ 1) ∧ R (some (0, 0, 1)) (ab_ups σ 85 1 (fw_c 0))) : G 27 [some (2, 0, 0), some (0, 0, a1), some (2, 33, 0)] [] σ := fw_on hG [5, 27] 200 h
abbrev fk_m_image : List fw_CR := [(171, 3, false, 0, 0, sp_m_isIn), (188, 0, true, 11, 0, sp_m_lay)]
abbrev st_m_image : fw_K → fw_KR → fw_K := fw_st vwCl nn_sh nn_kd fw_kv fw_wc (nn_KI20.map (fun x => x.1)) (nn_KJ20.map (fun x => x.1)) (nn_PF20.map (fun x => x.1)) (nn_PS20.map (fun x => x.1)) fk_m_image 1 nn_dt352 3 1
theorem fs_m_image_0 {G : fw_K} {R : fw_KR} (hG : fw_cls st_m_image R G) {k : Int} {σ : ab_SG} (h : sp_m_lay [(2, 93, 0)] (ab_ups σ 93 0 (fw_c 0)) (fun rv σ2 => G 9 [some (2, 93, 0), some (0, 0, k), none] (rv.toList ++ []) σ2)) : G 0 [some (2, 93, 0), some (0, 0, k), none] [] σ := fw_on hG [9, 15, 22, 55] 200 h
theorem fs_m_image_9 {G : fw_K} {R : fw_KR} (hG : fw_cls st_m_image R G) {a1 : Int} {σ : ab_SG} (h : sp_m_isIn [(0, 0, a1), (0, 0, 0), (0, 0, 1)] σ (fun rv σ2 => G 15 [some (2, 93, 0), some (0, 0, a1), none] (rv.toList ++ []) σ2)) : G 9 [some (2, 93, 0), some (0, 0, a1), none] [] σ := fw_on hG [9, 15, 22, 55] 200 h
theorem fs_m_image_15 {G : fw_K} {R : fw_KR} (hG : fw_cls st_m_image R G) {a1 b0 : Int} {σ : ab_SG} (h : (fw_c b0 ≠ 0 → G 22 [some (2, 93, 0), some (0, 0, a1), some (0, 0, 0)] [] σ) ∧ (fw_c b0 = 0 → (0 ≤ fw_c 0 ∧ fw_c 0 ≤ 1) ∧ R (some (0, 0, 0)) σ)) : G 15 [some (2, 93, 0), some (0, 0, a1), none] [(0, 0, b0)] σ := fw_on hG [9, 15, 22, 55] 200 h
theorem fs_m_image_22 {G : fw_K} {R : fw_KR} (hG : fw_cls st_m_image R G) {a1 a2 : Int} {σ : ab_SG} (h : (fw_c 474 ≤ fw_c a2 → G 55 [some (2, 93, 0), some (0, 0, a1), some (0, 0, 0)] [] σ) ∧ (fw_c a2 < fw_c 474 → (0 ≤ fw_c a2 ∧ fw_c a2 < ((474 : Nat) : Int)) ∧ ((0 ≤ fw_c ((474 * a1) + a2) ∧ fw_c ((474 * a1) + a2) < ((948 : Nat) : Int)) ∧ True ∧ (G 22 [some (2, 93, 0), some (0, 0, a1), some (0, 0, a2 + 1)] [] (ab_ups σ 97 (fw_c ((474 * a1) + a2)).toNat (fw_c (σ 95 (fw_c a2).toNat))))))) : G 22 [some (2, 93, 0), some (0, 0, a1), some (0, 0, a2)] [] σ := fw_on hG [9, 15, 22, 55] 200 h
theorem fs_m_image_55 {G : fw_K} {R : fw_KR} (hG : fw_cls st_m_image R G) {a1 a2 : Int} {σ : ab_SG} (h : (fw_c 20 ≤ fw_c a2 → (0 ≤ fw_c a1 ∧ fw_c a1 < ((2 : Nat) : Int)) ∧ (0 ≤ fw_c 1 ∧ fw_c 1 ≤ 1) ∧ ((0 ≤ fw_c 1 ∧ fw_c 1 ≤ 1) ∧ R (some (0, 0, 1)) (ab_ups σ 102 (fw_c a1).toNat (fw_c 1)))) ∧ (fw_c a2 < fw_c 20 → (0 ≤ fw_c a2 ∧ fw_c a2 < ((20 : Nat) : Int)) ∧ ((0 ≤ fw_c ((20 * a1) + a2) ∧ fw_c ((20 * a1) + a2) < ((40 : Nat) : Int)) ∧ True ∧ (G 55 [some (2, 93, 0), some (0, 0, a1), some (0, 0, a2 + 1)] [] (ab_ups σ 101 (fw_c ((20 * a1) + a2)).toNat (fw_d (σ 99 (fw_c a2).toNat))))))) : G 55 [some (2, 93, 0), some (0, 0, a1), some (0, 0, a2)] [] σ := fw_on hG [9, 15, 22, 55] 200 h
abbrev fk_m_restore : List fw_CR := [(171, 3, false, 0, 0, sp_m_isIn)]
abbrev st_m_restore : fw_K → fw_KR → fw_K := fw_st vwCl nn_sh nn_kd fw_kv fw_wc (nn_KI20.map (fun x => x.1)) (nn_KJ20.map (fun x => x.1)) (nn_PF20.map (fun x => x.1)) (nn_PS20.map (fun x => x.1)) fk_m_restore 1 nn_dt353 3 1
theorem fs_m_restore_0 {G : fw_K} {R : fw_KR} (hG : fw_cls st_m_restore R G) {k : Int} {σ : ab_SG} (h : sp_m_isIn [(0, 0, k), (0, 0, 0), (0, 0, 1)] (ab_ups σ 93 0 (fw_c 0)) (fun rv σ2 => G 11 [some (2, 93, 0), some (0, 0, k), none] (rv.toList ++ []) σ2)) : G 0 [some (2, 93, 0), some (0, 0, k), none] [] σ := fw_on hG [11, 27, 60] 200 h
theorem fs_m_restore_11 {G : fw_K} {R : fw_KR} (hG : fw_cls st_m_restore R G) {a1 b0 : Int} {σ : ab_SG} (h : (fw_c b0 = 0 → (0 ≤ fw_c 0 ∧ fw_c 0 ≤ 1) ∧ R (some (0, 0, 0)) σ) ∧ (fw_c b0 ≠ 0 → (0 ≤ fw_c a1 ∧ fw_c a1 < ((2 : Nat) : Int)) ∧ ((fw_c (σ 102 (fw_c a1).toNat) ≠ 0 → G 27 [some (2, 93, 0), some (0, 0, a1), some (0, 0, 0)] [] σ) ∧ (fw_c (σ 102 (fw_c a1).toNat) = 0 → (0 ≤ fw_c 0 ∧ fw_c 0 ≤ 1) ∧ R (some (0, 0, 0)) σ)))) : G 11 [some (2, 93, 0), some (0, 0, a1), none] [(0, 0, b0)] σ := fw_on hG [11, 27, 60] 200 h
theorem fs_m_restore_27 {G : fw_K} {R : fw_KR} (hG : fw_cls st_m_restore R G) {a1 a2 : Int} {σ : ab_SG} (h : (fw_c 474 ≤ fw_c a2 → G 60 [some (2, 93, 0), some (0, 0, a1), some (0, 0, 0)] [] σ) ∧ (fw_c a2 < fw_c 474 → (0 ≤ fw_c ((474 * a1) + a2) ∧ fw_c ((474 * a1) + a2) < ((948 : Nat) : Int)) ∧ ((0 ≤ fw_c a2 ∧ fw_c a2 < ((474 : Nat) : Int)) ∧ True ∧ (G 27 [some (2, 93, 0), some (0, 0, a1), some (0, 0, a2 + 1)] [] (ab_ups σ 95 (fw_c a2).toNat (fw_c (σ 97 (fw_c ((474 * a1) + a2)).toNat))))))) : G 27 [some (2, 93, 0), some (0, 0, a1), some (0, 0, a2)] [] σ := fw_on hG [11, 27, 60] 200 h
theorem fs_m_restore_60 {G : fw_K} {R : fw_KR} (hG : fw_cls st_m_restore R G) {a1 a2 : Int} {σ : ab_SG} (h : (fw_c 20 ≤ fw_c a2 → (0 ≤ fw_c 1 ∧ fw_c 1 ≤ 1) ∧ R (some (0, 0, 1)) (ab_ups σ 93 24 (fw_c 0))) ∧ (fw_c a2 < fw_c 20 → (0 ≤ fw_c ((20 * a1) + a2) ∧ fw_c ((20 * a1) + a2) < ((40 : Nat) : Int)) ∧ ((0 ≤ fw_c a2 ∧ fw_c a2 < ((20 : Nat) : Int)) ∧ True ∧ (G 60 [some (2, 93, 0), some (0, 0, a1), some (0, 0, a2 + 1)] [] (ab_ups σ 99 (fw_c a2).toNat (fw_d (σ 101 (fw_c ((20 * a1) + a2)).toNat))))))) : G 60 [some (2, 93, 0), some (0, 0, a1), some (0, 0, a2)] [] σ := fw_on hG [11, 27, 60] 200 h
section
variable {l : Launch} {cy : Nat → ClassId} {ad wr cr : Nat → Nat} {D : va_G}
theorem fm_studio (hinj : nn_inj ad) : fw_H l cy ad wr cr D 4 8 sp_studio := fw_mk hinj (⟨"NameNotes", "studio", "()I"⟩, prog_1_method_4_code, 2, (Option.some Jvm.ClassFile.FieldType.int), 0, true, 0) rfl rfl nn_KI1_ok nn_KJ1_ok nn_PF1_ok nn_PS1_ok (by decide +kernel) rfl rfl (List.forall_mem_cons.mpr ⟨fw_row nn_PM1_ok (x := 119) (k := 0) (mn := 5) (np := 0) (ob := true) (ci := 7) (⟨"NameNotes$StudioReader", "read", "()Z"⟩, prog_9_method_2_code, 2, (Option.some Jvm.ClassFile.FieldType.boolean), 0, true, 1) rfl (by decide +kernel) rfl rfl (by decide) (fun _ => ⟨_, _, rfl⟩) (fm_read hinj), (List.forall_mem_cons.mpr ⟨fw_row nn_PM1_ok (x := 128) (k := 0) (mn := 49) (np := 1) (ob := true) (ci := 6) (⟨"NameNotes$Studio", "copy", "(LNameNotes$Studio;)V"⟩, prog_8_method_3_code, 2, (Option.none : Option Jvm.ClassFile.FieldType), 1, true, 4) rfl (by decide +kernel) rfl rfl (by decide) (fun _ => ⟨_, _, rfl⟩) (fm_copy hinj), (fun _ h => absurd h List.not_mem_nil)⟩)⟩) (fun as σ K h => by
  obtain ⟨rfl, hb, hr, h⟩ := h
  refine ⟨rfl, fun G hG => fs_studio_0 hG ⟨rfl, hb, hr, fun A σ1 hA1 hA2 M1 hE => ?_⟩⟩
  have h := h A hA1 hA2
  refine ⟨fun q h9 => fs_studio_7 hG ⟨fun z => absurd fw_c0 z, fun _ => h.1 q _ _ (fw_okM_ups (fw_okM_tr (fw_okM_refl _ _) M1 (by decide)) (by decide)) (ab_ups_eq.trans fw_c0) ((ab_ups_ne (by decide)).trans h9)⟩, fun q h9 hag h5 h3 h4 hs hI hn => fs_studio_7 hG ⟨fun _ => ⟨(49, 3), by decide, rfl, fun σ2 M2 C2 => fs_studio_54 hG ?_⟩, fun z => absurd (fw_c1.symm.trans z) (by decide)⟩⟩
  have h := h.2 q
  have M2 : ab_okM (cy_M 3) (ab_ups (ab_ups σ1 1 1 (fw_c 0)) 0 17 (fw_c (σ1 0 17 + 1))) σ2 := M2
  have C2 : cy_is (ab_ups (ab_ups σ1 1 1 (fw_c 0)) 0 17 (fw_c (σ1 0 17 + 1))) σ2 49 3 := C2
  have T : ∀ k : Nat, k ≠ 0 → k ≠ 1 → ab_ups (ab_ups σ1 1 1 (fw_c 0)) 0 17 (fw_c (σ1 0 17 + 1)) k = σ1 k := fun k q0 q1 => by rw [ab_ups_row q0, ab_ups_row q1]
  have b17 : σ1 0 17 = σ 0 17 := M1 0 17 (by decide)
  have e5 : σ2 48 5 = (pr_read A (tp_t σ) (σ 1 1).toNat).2 := by rw [show σ2 48 = _ from fw_okM_c M2 (by decide), T 48 (by decide) (by decide)]; exact h5
  have e17 : σ2 0 17 = fw_c (σ 0 17 + 1) := by rw [show σ2 0 = _ from fw_okM_c M2 (by decide), ab_ups_eq, b17]
  have e11 : σ2 1 1 = 0 := by rw [show σ2 1 = _ from fw_okM_c M2 (by decide), ab_ups_ne (by decide), ab_ups_eq, fw_c0]
  have e19 : σ2 1 9 = 0 := by rw [show σ2 1 = _ from fw_okM_c M2 (by decide), ab_ups_ne (by decide), ab_ups_ne (by decide), h9]
  have N2 : ab_okM ss_M σ σ2 := fw_okM_tr (fw_okM_ups (fw_okM_ups (fw_okM_tr (fw_okM_refl _ _) M1 (by decide)) (by decide)) (by decide)) M2 (by decide)
  have cn1 : cn_is σ1 49 (pr_read A (tp_t σ) (σ 1 1).toNat).1.2.1 := cn_agr hag hs
  have cn2 : cn_is (ab_ups (ab_ups σ1 1 1 (fw_c 0)) 0 17 (fw_c (σ1 0 17 + 1))) 49 (pr_read A (tp_t σ) (σ 1 1).toNat).1.2.1 := cn_row cn1 (fun j _ => by rw [T 49 (by decide) (by decide)]) (fun k k1 k2 => T _ (by omega) (by omega))
  have cn3 := cn_copy hI hn cn2 C2
  have g3 : σ2 14 3 = 0 := by rw [show σ2 14 3 = fw_c (ab_ups (ab_ups σ1 1 1 (fw_c 0)) 0 17 (fw_c (σ1 0 17 + 1)) 60 3) from C2.2.2.2.2.2.2.2.2.2.2.1.2.2.1, T 60 (by decide) (by decide), h3, fw_c0]
  have g4 : σ2 14 4 = 0 := by rw [show σ2 14 4 = fw_c (ab_ups (ab_ups σ1 1 1 (fw_c 0)) 0 17 (fw_c (σ1 0 17 + 1)) 60 4) from C2.2.2.2.2.2.2.2.2.2.2.1.2.2.2, T 60 (by decide) (by decide), h4, fw_c0]
  rw [e5, e17, fw_c_c, fw_c0]
  refine h _ ⟨fw_okM_ups (fw_okM_ups N2 (by decide)) (by decide), ?_, ?_, hI, hn, ?_, ?_, ?_, ab_ups_eq, ?_, ?_⟩
  · rw [ab_ups_ne (by decide), ab_ups_ne (by decide)]; exact e11
  · rw [ab_ups_ne (by decide), ab_ups_ne (by decide)]; exact e19
  · refine cn_row cn3 (fun j hj => ?_) (fun k k1 k2 => ?_)
    · rw [ab_ups_ne (fun z => absurd z.1 (by decide)), ab_ups_ne (fun z => by omega)]
    · rw [ab_ups_row (by omega), ab_ups_row (by omega)]
  · rw [ab_ups_ne (by decide), ab_ups_ne (by decide)]; exact e17
  · rw [ab_ups_ne (by decide), ab_ups_eq]
  · rw [ab_ups_ne (by decide), ab_ups_ne (by decide)]; exact g3
  · rw [ab_ups_ne (by decide), ab_ups_ne (by decide)]; exact g4)
theorem fm_imageAt (hinj : nn_inj ad) : fw_H l cy ad wr cr D 185 0 sp_imageAt := fw_mk hinj (⟨"NameNotes", "imageAt", "(I)LNameNotes$Studio;"⟩, prog_1_method_60_code, 2, (Option.some (Jvm.ClassFile.FieldType.object "NameNotes$Studio")), 1, true, 3) rfl rfl nn_KI1_ok nn_KJ1_ok nn_PF1_ok nn_PS1_ok (by decide +kernel) rfl rfl (fun _ h => absurd h List.not_mem_nil) (fun as σ K h => by
  obtain ⟨k, rfl, hk, h0, h1, h2⟩ := h
  refine ⟨rfl, fun G hG => fs_imageAt_0 hG ?_⟩
  rw [hk, fw_c1]
  exact ⟨fun q => ⟨fun q1 => h2 q q1, fun q1 => h1 q1⟩, fun q => h0 q⟩)
theorem fm_image (hinj : nn_inj ad) : fw_H l cy ad wr cr D 184 3 sp_image := fw_mk hinj (⟨"NameNotes", "image", "(I)Z"⟩, prog_1_method_57_code, 3, (Option.some Jvm.ClassFile.FieldType.boolean), 1, true, 1) rfl rfl nn_KI1_ok nn_KJ1_ok nn_PF1_ok nn_PS1_ok (by decide +kernel) rfl rfl (List.forall_mem_cons.mpr ⟨fw_row nn_PM1_ok (x := 128) (k := 0) (mn := 49) (np := 1) (ob := true) (ci := 6) (⟨"NameNotes$Studio", "copy", "(LNameNotes$Studio;)V"⟩, prog_8_method_3_code, 2, (Option.none : Option Jvm.ClassFile.FieldType), 1, true, 4) rfl (by decide +kernel) rfl rfl (by decide) (fun _ => ⟨_, _, rfl⟩) (fm_copy hinj), (List.forall_mem_cons.mpr ⟨fw_row nn_PM1_ok (x := 449) (k := 0) (mn := 185) (np := 1) (ob := true) (ci := 10) (⟨"NameNotes", "imageAt", "(I)LNameNotes$Studio;"⟩, prog_1_method_60_code, 2, (Option.some (Jvm.ClassFile.FieldType.object "NameNotes$Studio")), 1, true, 3) rfl (by decide +kernel) rfl rfl (by decide) (fun _ => ⟨_, _, rfl⟩) (fm_imageAt hinj), (fun _ h => absurd h List.not_mem_nil)⟩)⟩) (fun as σ K h => by
  obtain ⟨k, rfl, hk, h2, h0, h1⟩ := h
  refine ⟨rfl, fun G hG => fs_image_0 hG ⟨k, rfl, hk, fun q => fs_image_5 hG ⟨(3, 18), by decide, rfl, fun σ2 M2 C2 => fs_image_20 hG ⟨fw_11, fw_11, ?_⟩⟩, fun q => fs_image_5a hG ⟨(3, 33), by decide, rfl, fun σ2 M2 C2 => fs_image_20a hG ⟨fw_11, fw_11, ?_⟩⟩, fun q q2 => fs_image_5b hG ⟨fw_01, h2 q q2⟩⟩⟩
  · have M2 : ab_okM (cy_M 18) σ σ2 := M2
    have C2 : cy_is σ σ2 3 18 := C2
    rw [fw_c1]
    exact h0 q _ (fw_okM_ups (fw_okM_tr (fw_okM_refl _ _) M2 (by decide)) (by decide)) (cy_ups C2) ab_ups_eq
  · have M2 : ab_okM (cy_M 33) σ σ2 := M2
    have C2 : cy_is σ σ2 3 33 := C2
    rw [fw_c1]
    exact h1 q _ (fw_okM_ups (fw_okM_tr (fw_okM_refl _ _) M2 (by decide)) (by decide)) (cy_ups C2) ab_ups_eq)
theorem cy_85 {σ σ' : ab_SG} {a : Nat} {v : Int} (h : cy_is σ σ' a 3) : cy_is σ (ab_ups σ' 85 1 v) a 3 := by
  have r : ∀ k : Nat, k ≤ 13 → ab_ups σ' 85 1 v (3 + k) = σ' (3 + k) := fun k hk => ab_ups_row (by omega)
  have s : ab_ups σ' 85 1 v 3 = σ' 3 := ab_ups_row (by decide)
  unfold cy_is sc_is at h ⊢
  rw [r 1 (by omega), r 2 (by omega), r 3 (by omega), r 4 (by omega), r 5 (by omega), r 6 (by omega), r 7 (by omega), r 8 (by omega), r 9 (by omega), r 10 (by omega), r 11 (by omega), r 12 (by omega), r 13 (by omega), s]
  exact h
theorem fm_restore (hinj : nn_inj ad) : fw_H l cy ad wr cr D 186 3 sp_restore := fw_mk hinj (⟨"NameNotes", "restore", "(I)Z"⟩, prog_1_method_58_code, 3, (Option.some Jvm.ClassFile.FieldType.boolean), 1, true, 1) rfl rfl nn_KI1_ok nn_KJ1_ok nn_PF1_ok nn_PS1_ok (by decide +kernel) rfl rfl (List.forall_mem_cons.mpr ⟨fw_row nn_PM1_ok (x := 128) (k := 0) (mn := 49) (np := 1) (ob := true) (ci := 6) (⟨"NameNotes$Studio", "copy", "(LNameNotes$Studio;)V"⟩, prog_8_method_3_code, 2, (Option.none : Option Jvm.ClassFile.FieldType), 1, true, 4) rfl (by decide +kernel) rfl rfl (by decide) (fun _ => ⟨_, _, rfl⟩) (fm_copy hinj), (List.forall_mem_cons.mpr ⟨fw_row nn_PM1_ok (x := 449) (k := 0) (mn := 185) (np := 1) (ob := true) (ci := 10) (⟨"NameNotes", "imageAt", "(I)LNameNotes$Studio;"⟩, prog_1_method_60_code, 2, (Option.some (Jvm.ClassFile.FieldType.object "NameNotes$Studio")), 1, true, 3) rfl (by decide +kernel) rfl rfl (by decide) (fun _ => ⟨_, _, rfl⟩) (fm_imageAt hinj), (fun _ h => absurd h List.not_mem_nil)⟩)⟩) (fun as σ K h => by
  obtain ⟨k, rfl, hk, b18, b33, h2, hz0, hz1, h0, h1⟩ := h
  have e18 : fw_c (σ 18 16) = σ 18 16 := fw_c_id (by omega) (by omega)
  have e33 : fw_c (σ 33 16) = σ 33 16 := fw_c_id (by omega) (by omega)
  refine ⟨rfl, fun G hG => fs_restore_0 hG ⟨k, rfl, hk, fun q => fs_restore_5 hG ?_, fun q => fs_restore_5a hG ?_, fun q q2 => fs_restore_5b hG ⟨fw_01, h2 q q2⟩⟩⟩
  · rw [e18]
    refine ⟨fun z => ⟨(18, 3), by decide, rfl, fun σ2 M2 C2 => fs_restore_27 hG ⟨fw_11, ?_⟩⟩, fun z => ⟨fw_01, hz0 q z⟩⟩
    have M2 : ab_okM (cy_M 3) σ σ2 := M2
    have C2 : cy_is σ σ2 18 3 := C2
    rw [fw_c0]
    exact h0 q (by omega) _ (fw_okM_ups (fw_okM_tr (fw_okM_refl _ _) M2 (by decide)) (by decide)) (cy_85 C2) ab_ups_eq
  · rw [e33]
    refine ⟨fun z => ⟨(33, 3), by decide, rfl, fun σ2 M2 C2 => fs_restore_27a hG ⟨fw_11, ?_⟩⟩, fun z => ⟨fw_01, hz1 q z⟩⟩
    have M2 : ab_okM (cy_M 3) σ σ2 := M2
    have C2 : cy_is σ σ2 33 3 := C2
    rw [fw_c0]
    exact h1 q (by omega) _ (fw_okM_ups (fw_okM_tr (fw_okM_refl _ _) M2 (by decide)) (by decide)) (cy_85 C2) ab_ups_eq)
theorem fm_m_image (hinj : nn_inj ad) : fw_H l cy ad wr cr D 352 1 sp_m_image := fw_mk hinj (⟨"NameNotesModel", "image", "(I)Z"⟩, prog_14_method_150_code, 3, (Option.some Jvm.ClassFile.FieldType.boolean), 1, true, 1) rfl rfl nn_KI20_ok nn_KJ20_ok nn_PF20_ok nn_PS20_ok (by decide +kernel) rfl rfl (List.forall_mem_cons.mpr ⟨fw_row nn_PM20_ok (x := 171) (k := 0) (mn := 226) (np := 3) (ob := false) (ci := 0) (⟨"NameNotesModel", "isIn", "(III)Z"⟩, prog_14_method_8_code, 3, (Option.some Jvm.ClassFile.FieldType.boolean), 3, false, 1) rfl (by decide +kernel) rfl rfl (by decide) (fun q => by cases q) (fm_m_isIn hinj), (List.forall_mem_cons.mpr ⟨fw_row nn_PM20_ok (x := 188) (k := 0) (mn := 210) (np := 0) (ob := true) (ci := 11) (⟨"NameNotesModel", "lay", "()V"⟩, prog_14_method_28_code, 1, (Option.none : Option Jvm.ClassFile.FieldType), 0, true, 4) rfl (by decide +kernel) rfl rfl (by decide) (fun _ => ⟨_, _, rfl⟩) (fm_m_lay hinj), (fun _ h => absurd h List.not_mem_nil)⟩)⟩) (fun as σ K h => by
  obtain ⟨k, rfl, hk, ho, h2, h1⟩ := h
  refine ⟨rfl, fun G hG => fs_m_image_0 hG ⟨rfl, ho, fun σ1 M1 L1 => fs_m_image_9 hG ⟨k, 0, 1, rfl, fs_m_image_15 hG ?_⟩⟩⟩
  have N1 : ab_okM lm_M σ σ1 := fw_okM_tr (fw_okM_ups (fw_okM_refl _ _) (by decide)) M1 (by decide)
  have L : ly_is σ σ1 := L1
  rw [hk, fw_c0, fw_c1]
  refine ⟨fun q => ?_, fun q => ⟨by decide, ?_⟩⟩
  · have q := fw_bo_ne q
    obtain ⟨n, rfl⟩ := Int.eq_ofNat_of_zero_le q.1
    have hn : n < 2 := by omega
    have e4 : fw_c 474 = 474 := fw_c_id (by decide) (by decide)
    have e2 : fw_c 20 = 20 := fw_c_id (by decide) (by decide)
    have en : fw_c (n : Int) = (n : Int) := fw_c_id (by omega) (by omega)
    have key2 : ∀ (f i : Nat) (σ2 : ab_SG), i + f = 20 → ab_okM [(97, 1000000), (101, 1000000)] σ1 σ2 → (∀ j : Nat, j < 474 → σ2 97 (474 * n + j) = fw_c (σ1 95 j)) → (∀ j : Nat, (j < 474 * n ∨ 474 * n + 474 ≤ j) → σ2 97 j = σ1 97 j) → (∀ j : Nat, j < i → σ2 101 (20 * n + j) = fw_d (σ1 99 j)) → (∀ j : Nat, (j < 20 * n ∨ 20 * n + i ≤ j) → σ2 101 j = σ1 101 j) → G 55 [some (2, 93, 0), some (0, 0, (n : Int)), some (0, 0, (i : Int))] [] σ2 := by
      intro f
      induction f with
      | zero =>
        intro i σ2 hi M2 a1 a2 a3 a4
        have ei : fw_c (i : Int) = i := fw_c_id (by omega) (by omega)
        have ei2 : i = 20 := by omega
        refine fs_m_image_55 hG ?_
        rw [ei, e2, en, fw_c1, Int.toNat_natCast]
        refine ⟨fun _ => ⟨⟨Int.natCast_nonneg _, by omega⟩, by decide, by decide, h1 n hn rfl σ1 _ N1 L ⟨fw_okM_upa (fw_okM_tr (fw_okM_refl _ _) M2 (by decide)) (by decide), fun j hj => ?_, fun j hj => ?_, fun j hj => ?_, fun j hj => ?_, ab_ups_eq, fun r hr => ?_⟩⟩, fun z => absurd z (by omega)⟩
        · rw [ab_ups_ne (fun z => absurd z.1 (by decide))]; exact a1 j hj
        · rw [ab_ups_ne (fun z => absurd z.1 (by decide))]; exact a3 j (by omega)
        · rw [ab_ups_ne (fun z => absurd z.1 (by decide))]; exact a2 j hj
        · rw [ab_ups_ne (fun z => absurd z.1 (by decide))]; exact a4 j (by omega)
        · rw [ab_ups_ne (fun z => hr z.2), show σ2 102 = σ1 102 from fw_okM_c M2 (by decide)]
      | succ f ih =>
        intro i σ2 hi M2 a1 a2 a3 a4
        have ei : fw_c (i : Int) = i := fw_c_id (by omega) (by omega)
        have ej : fw_c (20 * (n : Int) + (i : Int)) = ((20 * n + i : Nat) : Int) := by rw [fw_c_id (by omega) (by omega)]; omega
        refine fs_m_image_55 hG ?_
        rw [ei, ej, e2, Int.toNat_natCast, Int.toNat_natCast, show σ2 99 = σ1 99 from fw_okM_c M2 (by decide)]
        refine ⟨fun z => absurd z (by omega), fun _ => ⟨⟨Int.natCast_nonneg _, by omega⟩, ⟨Int.natCast_nonneg _, by omega⟩, trivial, ih (i + 1) _ (by omega) (fw_okM_upa M2 (by decide)) (fun j hj => ?_) (fun j hj => ?_) (fun j hj => ?_) (fun j hj => ?_)⟩⟩
        · rw [ab_ups_ne (fun z => absurd z.1 (by decide))]; exact a1 j hj
        · rw [ab_ups_ne (fun z => absurd z.1 (by decide))]; exact a2 j hj
        · by_cases c : j = i
          · rw [c, ab_ups_eq]
          · rw [ab_ups_ne (fun z => by omega)]; exact a3 j (by omega)
        · rw [ab_ups_ne (fun z => by omega)]; exact a4 j (by omega)
    have key1 : ∀ (f i : Nat) (σ2 : ab_SG), i + f = 474 → ab_okM [(97, 1000000)] σ1 σ2 → (∀ j : Nat, j < i → σ2 97 (474 * n + j) = fw_c (σ1 95 j)) → (∀ j : Nat, (j < 474 * n ∨ 474 * n + i ≤ j) → σ2 97 j = σ1 97 j) → G 22 [some (2, 93, 0), some (0, 0, (n : Int)), some (0, 0, (i : Int))] [] σ2 := by
      intro f
      induction f with
      | zero =>
        intro i σ2 hi M2 a1 a2
        have ei : fw_c (i : Int) = i := fw_c_id (by omega) (by omega)
        refine fs_m_image_22 hG ?_
        rw [ei, e4]
        exact ⟨fun _ => key2 20 0 σ2 rfl (fw_okM_tr (fw_okM_refl _ _) M2 (by decide)) (fun j hj => a1 j (by omega)) (fun j hj => a2 j (by omega)) (fun j hj => absurd hj (Nat.not_lt_zero _)) (fun j _ => by rw [show σ2 101 = σ1 101 from fw_okM_c M2 (by decide)]), fun z => absurd z (by omega)⟩
      | succ f ih =>
        intro i σ2 hi M2 a1 a2
        have ei : fw_c (i : Int) = i := fw_c_id (by omega) (by omega)
        have ej : fw_c (474 * (n : Int) + (i : Int)) = ((474 * n + i : Nat) : Int) := by rw [fw_c_id (by omega) (by omega)]; omega
        refine fs_m_image_22 hG ?_
        rw [ei, ej, e4, Int.toNat_natCast, Int.toNat_natCast, show σ2 95 = σ1 95 from fw_okM_c M2 (by decide)]
        refine ⟨fun z => absurd z (by omega), fun _ => ⟨⟨Int.natCast_nonneg _, by omega⟩, ⟨Int.natCast_nonneg _, by omega⟩, trivial, ih (i + 1) _ (by omega) (fw_okM_upa M2 (by decide)) (fun j hj => ?_) (fun j hj => ?_)⟩⟩
        · by_cases c : j = i
          · rw [c, ab_ups_eq]
          · rw [ab_ups_ne (fun z => by omega)]; exact a1 j (by omega)
        · rw [ab_ups_ne (fun z => by omega)]; exact a2 j (by omega)
    exact key1 474 0 σ1 rfl (fw_okM_refl _ _) (fun j hj => absurd hj (Nat.not_lt_zero _)) (fun _ _ => rfl)
  · have q := fw_bo_eq q
    exact h2 (fun z => q (by omega)) (fun z => q (by omega)) σ1 N1 L)
theorem fm_m_restore (hinj : nn_inj ad) : fw_H l cy ad wr cr D 353 1 sp_m_restore := fw_mk hinj (⟨"NameNotesModel", "restore", "(I)Z"⟩, prog_14_method_151_code, 3, (Option.some Jvm.ClassFile.FieldType.boolean), 1, true, 1) rfl rfl nn_KI20_ok nn_KJ20_ok nn_PF20_ok nn_PS20_ok (by decide +kernel) rfl rfl (List.forall_mem_cons.mpr ⟨fw_row nn_PM20_ok (x := 171) (k := 0) (mn := 226) (np := 3) (ob := false) (ci := 0) (⟨"NameNotesModel", "isIn", "(III)Z"⟩, prog_14_method_8_code, 3, (Option.some Jvm.ClassFile.FieldType.boolean), 3, false, 1) rfl (by decide +kernel) rfl rfl (by decide) (fun q => by cases q) (fm_m_isIn hinj), (fun _ h => absurd h List.not_mem_nil)⟩) (fun as σ K h => by
  obtain ⟨k, rfl, hk, hr, h2, h0, h1⟩ := h
  refine ⟨rfl, fun G hG => fs_m_restore_0 hG ⟨k, 0, 1, rfl, fs_m_restore_11 hG ?_⟩⟩
  rw [hk, fw_c0, fw_c1]
  refine ⟨fun q => ⟨by decide, ?_⟩, fun q => ?_⟩
  · have q := fw_bo_eq q
    exact h2 (fun z => q (by omega)) (fun z => q (by omega))
  · have q := fw_bo_ne q
    obtain ⟨n, rfl⟩ := Int.eq_ofNat_of_zero_le q.1
    have hn : n < 2 := by omega
    have e4 : fw_c 474 = 474 := fw_c_id (by decide) (by decide)
    have e2 : fw_c 20 = 20 := fw_c_id (by decide) (by decide)
    have b102 : ab_ups σ 93 0 0 102 n = σ 102 n := ab_ups_ne (fun z => absurd z.1 (by decide))
    have hr2 := hr n hn
    have e1 : fw_c (σ 102 n) = σ 102 n := fw_c_id (by omega) (by omega)
    rw [Int.toNat_natCast, b102, e1]
    refine ⟨⟨Int.natCast_nonneg _, by omega⟩, fun z => ?_, fun z => ⟨by decide, h0 n hn rfl z⟩⟩
    have h1 := h1 n hn rfl (by omega)
    have B0 : ab_okM [(93, 0), (95, 1000000)] σ (ab_ups σ 93 0 0) := fw_okM_ups (fw_okM_refl _ _) (by decide)
    have key2 : ∀ (f i : Nat) (σ2 : ab_SG), i + f = 20 → ab_okM [(93, 0), (95, 1000000), (99, 1000000)] σ σ2 → (∀ j : Nat, j < 474 → σ2 95 j = fw_c (σ 97 (474 * n + j))) → (∀ j : Nat, j < i → σ2 99 j = fw_d (σ 101 (20 * n + j))) → G 60 [some (2, 93, 0), some (0, 0, (n : Int)), some (0, 0, (i : Int))] [] σ2 := by
      intro f
      induction f with
      | zero =>
        intro i σ2 hi M2 a1 a3
        have ei : fw_c (i : Int) = i := fw_c_id (by omega) (by omega)
        refine fs_m_restore_60 hG ?_
        rw [ei, e2, fw_c0]
        refine ⟨fun _ => ⟨fw_11, h1 _ ⟨fw_okM_ups (fw_okM_tr (fw_okM_refl _ _) M2 (by decide)) (by decide), fun j hj => ?_, fun j hj => ?_, ab_ups_eq⟩⟩, fun z => absurd z (by omega)⟩
        · rw [ab_ups_ne (fun z => absurd z.1 (by decide))]; exact a1 j hj
        · rw [ab_ups_ne (fun z => absurd z.1 (by decide))]; exact a3 j (by omega)
      | succ f ih =>
        intro i σ2 hi M2 a1 a3
        have ei : fw_c (i : Int) = i := fw_c_id (by omega) (by omega)
        have ej : fw_c (20 * (n : Int) + (i : Int)) = ((20 * n + i : Nat) : Int) := by rw [fw_c_id (by omega) (by omega)]; omega
        refine fs_m_restore_60 hG ?_
        rw [ei, ej, e2, Int.toNat_natCast, Int.toNat_natCast, show σ2 101 = σ 101 from fw_okM_c M2 (by decide)]
        refine ⟨fun z => absurd z (by omega), fun _ => ⟨⟨Int.natCast_nonneg _, by omega⟩, ⟨Int.natCast_nonneg _, by omega⟩, trivial, ih (i + 1) _ (by omega) (fw_okM_upa M2 (by decide)) (fun j hj => ?_) (fun j hj => ?_)⟩⟩
        · rw [ab_ups_ne (fun z => absurd z.1 (by decide))]; exact a1 j hj
        · by_cases c : j = i
          · rw [c, ab_ups_eq]
          · rw [ab_ups_ne (fun z => c z.2)]; exact a3 j (by omega)
    have key1 : ∀ (f i : Nat) (σ2 : ab_SG), i + f = 474 → ab_okM [(93, 0), (95, 1000000)] σ σ2 → (∀ j : Nat, j < i → σ2 95 j = fw_c (σ 97 (474 * n + j))) → G 27 [some (2, 93, 0), some (0, 0, (n : Int)), some (0, 0, (i : Int))] [] σ2 := by
      intro f
      induction f with
      | zero =>
        intro i σ2 hi M2 a1
        have ei : fw_c (i : Int) = i := fw_c_id (by omega) (by omega)
        refine fs_m_restore_27 hG ?_
        rw [ei, e4]
        exact ⟨fun _ => key2 20 0 σ2 rfl (fw_okM_tr (fw_okM_refl _ _) M2 (by decide)) (fun j hj => a1 j (by omega)) (fun j hj => absurd hj (Nat.not_lt_zero _)), fun z => absurd z (by omega)⟩
      | succ f ih =>
        intro i σ2 hi M2 a1
        have ei : fw_c (i : Int) = i := fw_c_id (by omega) (by omega)
        have ej : fw_c (474 * (n : Int) + (i : Int)) = ((474 * n + i : Nat) : Int) := by rw [fw_c_id (by omega) (by omega)]; omega
        refine fs_m_restore_27 hG ?_
        rw [ei, ej, e4, Int.toNat_natCast, Int.toNat_natCast, show σ2 97 = σ 97 from fw_okM_c M2 (by decide)]
        refine ⟨fun z => absurd z (by omega), fun _ => ⟨⟨Int.natCast_nonneg _, by omega⟩, ⟨Int.natCast_nonneg _, by omega⟩, trivial, ih (i + 1) _ (by omega) (fw_okM_upa M2 (by decide)) (fun j hj => ?_)⟩⟩
        by_cases c : j = i
        · rw [c, ab_ups_eq]
        · rw [ab_ups_ne (fun z => c z.2)]; exact a1 j (by omega)
    exact key1 474 0 _ rfl B0 (fun j hj => absurd hj (Nat.not_lt_zero _)))
end
