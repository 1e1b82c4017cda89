/-! which tunes begin alike -/
def v_lk (A : ab_SG) (x n w s : Int) : Nat → Int
  | 0 => 0
  | y + 1 => if pr_hs s (y : Int) = true ∧ n ≤ pr_cs A x (y : Int) w 9 0 then fw_op 9 (v_lk A x n w s y) (fw_op 5 1 (y : Int)) else v_lk A x n w s y
theorem v_lk_s (A : ab_SG) (x n w s : Int) (y : Nat) : v_lk A x n w s (y + 1) = if pr_hs s (y : Int) = true ∧ n ≤ pr_cs A x (y : Int) w 9 0 then fw_op 9 (v_lk A x n w s y) (fw_op 5 1 (y : Int)) else v_lk A x n w s y := rfl
theorem hs_t {s x : Int} (h : pr_hs s x = true) : fw_c (fw_op 8 (fw_op 6 s x) 1) = 1 := of_decide_eq_true h
theorem hs_of {s x : Int} (h : fw_c (fw_op 8 (fw_op 6 s x) 1) = 1) : pr_hs s x = true := decide_eq_true h
def v_alike (A : ab_SG) (x y w : Int) : Int := if (0 ≤ x ∧ x < A 49 11) ∧ (0 ≤ y ∧ y < A 49 11) ∧ (0 ≤ w ∧ w ≤ 3) then pr_cs A x y w 9 0 else -1
def v_begins (A : ab_SG) (x n w c : Int) : Int := if (0 ≤ x ∧ x < A 49 11) ∧ (1 ≤ n ∧ n ≤ 9) ∧ (0 ≤ w ∧ w ≤ 3) ∧ (-1 ≤ c ∧ c < A 49 12) then v_lk A x n w (v_set A c) (A 49 11).toNat else -1
def sp_sharedNotes3 : fw_SP := fun as σ K => ∃ (A : ab_SG) (x y w : Nat), as = [(2, 3, 0), (0, 0, (x : Int)), (0, 0, (y : Int)), (0, 0, (w : Int))] ∧ NC σ A ∧ (x : Int) < A 49 11 ∧ (y : Int) < A 49 11 ∧ w < 4 ∧ K (some (0, 0, pr_cs A (x : Int) (y : Int) (w : Int) 9 0)) σ
def sp_likes3 : fw_SP := fun as σ K => ∃ (A : ab_SG) (x : Nat) (n : Int) (w : Nat) (s : Int), as = [(2, 3, 0), (0, 0, (x : Int)), (0, 0, n), (0, 0, (w : Int)), (0, 0, s)] ∧ NC σ A ∧ (x : Int) < A 49 11 ∧ (1 ≤ n ∧ n ≤ 9) ∧ w < 4 ∧ K (some (0, 0, v_lk A (x : Int) n (w : Int) s (A 49 11).toNat)) σ
def sp_isBid : fw_SP := fun as σ K => ∃ n : Int, as = [(0, 0, n)] ∧ fw_c n = n ∧ K (some (0, 0, fw_bo (1 ≤ n ∧ n ≤ 9))) σ
def sp_isHow : fw_SP := fun as σ K => ∃ w : Int, as = [(0, 0, w)] ∧ fw_c w = w ∧ K (some (0, 0, fw_bo (0 ≤ w ∧ w ≤ 3))) σ
def sp_isChoice3 : fw_SP := fun as σ K => ∃ (A : ab_SG) (c : Int), as = [(2, 3, 0), (0, 0, c)] ∧ fw_c c = c ∧ NC σ A ∧ K (some (0, 0, fw_bo (-1 ≤ c ∧ c < A 49 12))) σ
def sp_begins : fw_SP := fun as σ K => ∃ (A : ab_SG) (x n w c : Int), as = [(2, 0, 0), (0, 0, x), (0, 0, n), (0, 0, w), (0, 0, c)] ∧ (fw_c x = x ∧ fw_c n = n ∧ fw_c w = w ∧ fw_c c = c) ∧ NC σ A ∧ K (some (0, 0, v_begins A x n w c)) σ
def sp_alike : fw_SP := fun as σ K => ∃ (A : ab_SG) (x y w : Int), as = [(2, 0, 0), (0, 0, x), (0, 0, y), (0, 0, w)] ∧ (fw_c x = x ∧ fw_c y = y ∧ fw_c w = w) ∧ NC σ A ∧ K (some (0, 0, v_alike A x y w)) σ
def sp_m_isLikeNote : fw_SP := fun as σ K => ∃ (A : ab_SG) (x y i w : Nat), as = [(2, 93, 0), (0, 0, (x : Int)), (0, 0, (y : Int)), (0, 0, (i : Int)), (0, 0, (w : Int))] ∧ NM σ A ∧ (x : Int) < A 49 11 ∧ (y : Int) < A 49 11 ∧ i < 9 ∧ w < 4 ∧ K (some (0, 0, fw_bo (pr_sn A (x : Int) (y : Int) (i : Int) (w : Int)))) σ
def sp_m_likeNotes : fw_SP := fun as σ K => ∃ (A : ab_SG) (x y w : Nat), as = [(2, 93, 0), (0, 0, (x : Int)), (0, 0, (y : Int)), (0, 0, (w : Int))] ∧ NM σ A ∧ (x : Int) < A 49 11 ∧ (y : Int) < A 49 11 ∧ w < 4 ∧ K (some (0, 0, pr_cs A (x : Int) (y : Int) (w : Int) 9 0)) σ
def sp_m_areLike : fw_SP := fun as σ K => ∃ (A : ab_SG) (x y : Nat) (n : Int) (w : Nat), as = [(2, 93, 0), (0, 0, (x : Int)), (0, 0, (y : Int)), (0, 0, n), (0, 0, (w : Int))] ∧ NM σ A ∧ (x : Int) < A 49 11 ∧ (y : Int) < A 49 11 ∧ (1 ≤ n ∧ n ≤ 9) ∧ w < 4 ∧ K (some (0, 0, fw_bo (n ≤ pr_cs A (x : Int) (y : Int) (w : Int) 9 0))) σ
def sp_m_likes : fw_SP := fun as σ K => ∃ (A : ab_SG) (x : Nat) (n : Int) (w : Nat) (s : Int), as = [(2, 93, 0), (0, 0, (x : Int)), (0, 0, n), (0, 0, (w : Int)), (0, 0, s)] ∧ NM σ A ∧ (x : Int) < A 49 11 ∧ (1 ≤ n ∧ n ≤ 9) ∧ w < 4 ∧ K (some (0, 0, v_lk A (x : Int) n (w : Int) s (A 49 11).toNat)) σ
def sp_m_isHow : fw_SP := fun as σ K => ∃ w : Int, as = [(0, 0, w)] ∧ fw_c w = w ∧ K (some (0, 0, fw_bo (0 ≤ w ∧ w ≤ 3))) σ
def sp_m_isLeft : fw_SP := fun as σ K => ∃ (A : ab_SG) (c : Int), as = [(2, 93, 0), (0, 0, c)] ∧ fw_c c = c ∧ NM σ A ∧ K (some (0, 0, fw_bo (-1 ≤ c ∧ c < A 49 12))) σ
def sp_m_left : fw_SP := fun as σ K => ∃ (A : ab_SG) (c : Int), as = [(2, 93, 0), (0, 0, c)] ∧ NM σ A ∧ (-1 ≤ c ∧ c < A 49 12) ∧ K (some (0, 0, v_set A c)) σ
def sp_m_begins : fw_SP := fun as σ K => ∃ (A : ab_SG) (x n w c : Int), as = [(2, 93, 0), (0, 0, x), (0, 0, n), (0, 0, w), (0, 0, c)] ∧ (fw_c x = x ∧ fw_c n = n ∧ fw_c w = w ∧ fw_c c = c) ∧ NM σ A ∧ K (some (0, 0, v_begins A x n w c)) (ab_ups σ 93 0 0)
def sp_m_alike : fw_SP := fun as σ K => ∃ (A : ab_SG) (x y w : Int), as = [(2, 93, 0), (0, 0, x), (0, 0, y), (0, 0, w)] ∧ (fw_c x = x ∧ fw_c y = y ∧ fw_c w = w) ∧ NM σ A ∧ K (some (0, 0, v_alike A x y w)) (ab_ups σ 93 0 0)
theorem sn_no {A : ab_SG} {x y i w : Nat} (hx : (x : Int) < A 49 11) (hy : (y : Int) < A 49 11) (h : ¬ ((i : Int) < A 52 x ∧ (i : Int) < A 52 y)) : pr_sn A (x : Int) (y : Int) (i : Int) (w : Int) ↔ ((i : Int) < A 52 x ↔ (i : Int) < A 52 y) := by
  unfold pr_sn
  rw [Int.toNat_natCast, Int.toNat_natCast, if_neg (fun z => h ⟨z.1.2, z.2.2⟩)]
  exact ⟨fun q => ⟨fun a => (q.mp ⟨hx, a⟩).2, fun a => (q.mpr ⟨hy, a⟩).2⟩, fun q => ⟨fun a => ⟨hy, q.mp a.2⟩, fun a => ⟨hx, q.mpr a.2⟩⟩⟩
theorem sn_yes {A : ab_SG} {x y i w : Nat} (hx : (x : Int) < A 49 11) (hy : (y : Int) < A 49 11) (h1 : (i : Int) < A 52 x) (h2 : (i : Int) < A 52 y) : pr_sn A (x : Int) (y : Int) (i : Int) (w : Int) ↔ (if (w : Int) = 3 then fw_c (A 50 (x * 9 + i) - A 50 (x * 9 + 0)) = fw_c (A 50 (y * 9 + i) - A 50 (y * 9 + 0)) else ((w : Int) = 2 ∨ fw_c (A 50 (x * 9 + i)) = fw_c (A 50 (y * 9 + i))) ∧ ((w : Int) = 1 ∨ fw_c (A 51 (x * 9 + i)) = fw_c (A 51 (y * 9 + i)))) := by
  have e : ∀ a b : Nat, ((a : Int) * 9 + (b : Int)).toNat = a * 9 + b := fun a b => by omega
  have e0 : ∀ a : Nat, ((a : Int) * 9 + 0).toNat = a * 9 + 0 := fun a => by omega
  unfold pr_sn
  rw [Int.toNat_natCast, Int.toNat_natCast, if_pos ⟨⟨hx, h1⟩, ⟨hy, h2⟩⟩, e, e, e0, e0]
theorem pr_cs_s (A : ab_SG) (x y w : Int) (f i : Nat) : pr_cs A x y w (f + 1) i = if pr_sn A x y i w then pr_cs A x y w f (i + 1) else i := rfl
theorem NC_sh {σ A : ab_SG} (h : NC σ A) {x y w : Nat} (hw : w < 4) (hx : (x : Int) < A 49 11) (hy : (y : Int) < A 49 11) : σ 7 ((w * 9 + x) * 9 + y) = pr_cs A (x : Int) (y : Int) (w : Int) 9 0 := h.2.2.2.2.2.2.2.2.2.2.2 w x y hw hx hy
abbrev fk_sharedNotes3 : List fw_CR := [(92, 2, false, 0, 0, sp_atn), (122, 3, false, 0, 0, sp_pair)]
abbrev st_sharedNotes3 : fw_K → fw_KR → fw_K := fw_st vwCl nn_sh nn_kd fw_kv fw_wc (nn_KI6.map (fun x => x.1)) (nn_KJ6.map (fun x => x.1)) (nn_PF6.map (fun x => x.1)) (nn_PS6.map (fun x => x.1)) fk_sharedNotes3 1 nn_dt75 4 0
theorem fs_sharedNotes3_0 {G : fw_K} {R : fw_KR} (hG : fw_cls st_sharedNotes3 R G) {x y w : Int} {σ : ab_SG} (h : sp_pair [(0, 0, x), (0, 0, y), (0, 0, w)] σ (fun rv σ2 => G 10 [some (2, 3, 0), some (0, 0, x), some (0, 0, y), some (0, 0, w)] (rv.toList ++ [(2, 7, 0)]) σ2)) : G 0 [some (2, 3, 0), some (0, 0, x), some (0, 0, y), some (0, 0, w)] [] σ := fw_on hG [10, 13] 200 h
theorem fs_sharedNotes3_10 {G : fw_K} {R : fw_KR} (hG : fw_cls st_sharedNotes3 R G) {a1 a2 a3 b0 : Int} {σ : ab_SG} (h : sp_atn [(2, 7, 0), (0, 0, b0)] σ (fun rv σ2 => G 13 [some (2, 3, 0), some (0, 0, a1), some (0, 0, a2), some (0, 0, a3)] (rv.toList ++ []) σ2)) : G 10 [some (2, 3, 0), some (0, 0, a1), some (0, 0, a2), some (0, 0, a3)] [(0, 0, b0), (2, 7, 0)] σ := fw_on hG [10, 13] 200 h
theorem fs_sharedNotes3_13 {G : fw_K} {R : fw_KR} (hG : fw_cls st_sharedNotes3 R G) {a1 a2 a3 b0 : Int} {σ : ab_SG} (h : R (some (0, 0, b0)) σ) : G 13 [some (2, 3, 0), some (0, 0, a1), some (0, 0, a2), some (0, 0, a3)] [(0, 0, b0)] σ := fw_on hG [10, 13] 200 h
abbrev fk_likes3 : List fw_CR := [(133, 2, false, 0, 0, sp_has), (136, 3, true, 6, 1, sp_sharedNotes3)]
abbrev st_likes3 : fw_K → fw_KR → fw_K := fw_st vwCl nn_sh nn_kd fw_kv fw_wc (nn_KI6.map (fun x => x.1)) (nn_KJ6.map (fun x => x.1)) (nn_PF6.map (fun x => x.1)) (nn_PS6.map (fun x => x.1)) fk_likes3 2 nn_dt74 7 0
theorem fs_likes3_0 {G : fw_K} {R : fw_KR} (hG : fw_cls st_likes3 R G) {x n w s : Int} {σ : ab_SG} (h : G 6 [some (2, 3, 0), some (0, 0, x), some (0, 0, n), some (0, 0, w), some (0, 0, s), some (0, 0, 0), some (0, 0, 0)] [] σ) : G 0 [some (2, 3, 0), some (0, 0, x), some (0, 0, n), some (0, 0, w), some (0, 0, s), none, none] [] σ := fw_on hG [6, 22, 33, 46] 200 h
theorem fs_likes3_6 {G : fw_K} {R : fw_KR} (hG : fw_cls st_likes3 R G) {a1 a2 a3 a4 a5 a6 : Int} {σ : ab_SG} (h : (fw_c (σ 3 11) ≤ fw_c a6 → R (some (0, 0, a5)) σ) ∧ (fw_c a6 < fw_c (σ 3 11) → sp_has [(0, 0, a4), (0, 0, a6)] σ (fun rv σ2 => G 22 [some (2, 3, 0), some (0, 0, a1), some (0, 0, a2), some (0, 0, a3), some (0, 0, a4), some (0, 0, a5), some (0, 0, a6)] (rv.toList ++ []) σ2))) : G 6 [some (2, 3, 0), some (0, 0, a1), some (0, 0, a2), some (0, 0, a3), some (0, 0, a4), some (0, 0, a5), some (0, 0, a6)] [] σ := fw_on hG [6, 22, 33, 46] 200 h
theorem fs_likes3_22 {G : fw_K} {R : fw_KR} (hG : fw_cls st_likes3 R G) {a1 a2 a3 a4 a5 a6 b0 : Int} {σ : ab_SG} (h : (fw_c b0 = 0 → G 46 [some (2, 3, 0), some (0, 0, a1), some (0, 0, a2), some (0, 0, a3), some (0, 0, a4), some (0, 0, a5), some (0, 0, a6)] [] σ) ∧ (fw_c b0 ≠ 0 → sp_sharedNotes3 [(2, 3, 0), (0, 0, a1), (0, 0, a6), (0, 0, a3)] σ (fun rv σ2 => G 33 [some (2, 3, 0), some (0, 0, a1), some (0, 0, a2), some (0, 0, a3), some (0, 0, a4), some (0, 0, a5), some (0, 0, a6)] (rv.toList ++ []) σ2))) : G 22 [some (2, 3, 0), some (0, 0, a1), some (0, 0, a2), some (0, 0, a3), some (0, 0, a4), some (0, 0, a5), some (0, 0, a6)] [(0, 0, b0)] σ := fw_on hG [6, 22, 33, 46] 200 h
theorem fs_likes3_46 {G : fw_K} {R : fw_KR} (hG : fw_cls st_likes3 R G) {a1 a2 a3 a4 a5 a6 : Int} {σ : ab_SG} (h : G 6 [some (2, 3, 0), some (0, 0, a1), some (0, 0, a2), some (0, 0, a3), some (0, 0, a4), some (0, 0, a5), some (0, 0, a6 + 1)] [] σ) : G 46 [some (2, 3, 0), some (0, 0, a1), some (0, 0, a2), some (0, 0, a3), some (0, 0, a4), some (0, 0, a5), some (0, 0, a6)] [] σ := fw_on hG [6, 22, 33, 46] 200 h
theorem fs_likes3_33 {G : fw_K} {R : fw_KR} (hG : fw_cls st_likes3 R G) {a1 a2 a3 a4 a5 a6 b0 : Int} {σ : ab_SG} (h : (fw_c b0 < fw_c a2 → G 46 [some (2, 3, 0), some (0, 0, a1), some (0, 0, a2), some (0, 0, a3), some (0, 0, a4), some (0, 0, a5), some (0, 0, a6)] [] σ) ∧ (fw_c a2 ≤ fw_c b0 → G 46 [some (2, 3, 0), some (0, 0, a1), some (0, 0, a2), some (0, 0, a3), some (0, 0, a4), some (0, 0, fw_op 9 a5 (fw_op 5 1 a6)), some (0, 0, a6)] [] σ)) : G 33 [some (2, 3, 0), some (0, 0, a1), some (0, 0, a2), some (0, 0, a3), some (0, 0, a4), some (0, 0, a5), some (0, 0, a6)] [(0, 0, b0)] σ := fw_on hG [6, 22, 33, 46] 200 h
abbrev fk_isBid : List fw_CR := []
abbrev st_isBid : fw_K → fw_KR → fw_K := fw_st vwCl nn_sh nn_kd fw_kv fw_wc (nn_KI1.map (fun x => x.1)) (nn_KJ1.map (fun x => x.1)) (nn_PF1.map (fun x => x.1)) (nn_PS1.map (fun x => x.1)) fk_isBid 0 nn_dt71 1 1
theorem fs_isBid_0 {G : fw_K} {R : fw_KR} (hG : fw_cls st_isBid R G) {n : Int} {σ : ab_SG} (h : (fw_c n < fw_c 1 → (0 ≤ fw_c 0 ∧ fw_c 0 ≤ 1) ∧ R (some (0, 0, 0)) σ) ∧ (fw_c 1 ≤ fw_c n → (fw_c 9 < fw_c n → (0 ≤ fw_c 0 ∧ fw_c 0 ≤ 1) ∧ R (some (0, 0, 0)) σ) ∧ (fw_c n ≤ fw_c 9 → (0 ≤ fw_c 1 ∧ fw_c 1 ≤ 1) ∧ R (some (0, 0, 1)) σ))) : G 0 [some (0, 0, n)] [] σ := fw_on hG [] 200 h
abbrev fk_isHow : List fw_CR := []
abbrev st_isHow : fw_K → fw_KR → fw_K := fw_st vwCl nn_sh nn_kd fw_kv fw_wc (nn_KI1.map (fun x => x.1)) (nn_KJ1.map (fun x => x.1)) (nn_PF1.map (fun x => x.1)) (nn_PS1.map (fun x => x.1)) fk_isHow 0 nn_dt72 1 1
theorem fs_isHow_0 {G : fw_K} {R : fw_KR} (hG : fw_cls st_isHow R G) {w : Int} {σ : ab_SG} (h : (fw_c w < 0 → (0 ≤ fw_c 0 ∧ fw_c 0 ≤ 1) ∧ R (some (0, 0, 0)) σ) ∧ (0 ≤ fw_c w → (fw_c 4 ≤ fw_c w → (0 ≤ fw_c 0 ∧ fw_c 0 ≤ 1) ∧ R (some (0, 0, 0)) σ) ∧ (fw_c w < fw_c 4 → (0 ≤ fw_c 1 ∧ fw_c 1 ≤ 1) ∧ R (some (0, 0, 1)) σ))) : G 0 [some (0, 0, w)] [] σ := fw_on hG [] 200 h
abbrev fk_isChoice3 : List fw_CR := [(84, 1, true, 6, 0, sp_isClue3)]
abbrev st_isChoice3 : fw_K → fw_KR → fw_K := fw_st vwCl nn_sh nn_kd fw_kv fw_wc (nn_KI6.map (fun x => x.1)) (nn_KJ6.map (fun x => x.1)) (nn_PF6.map (fun x => x.1)) (nn_PS6.map (fun x => x.1)) fk_isChoice3 1 nn_dt73 2 1
theorem fs_isChoice3_0 {G : fw_K} {R : fw_KR} (hG : fw_cls st_isChoice3 R G) {c : Int} {σ : ab_SG} (h : (fw_c c = fw_c (-1) → (0 ≤ fw_c 1 ∧ fw_c 1 ≤ 1) ∧ R (some (0, 0, 1)) σ) ∧ (fw_c c ≠ fw_c (-1) → sp_isClue3 [(2, 3, 0), (0, 0, c)] σ (fun rv σ2 => G 10 [some (2, 3, 0), some (0, 0, c)] (rv.toList ++ []) σ2))) : G 0 [some (2, 3, 0), some (0, 0, c)] [] σ := fw_on hG [10] 200 h
theorem fs_isChoice3_10 {G : fw_K} {R : fw_KR} (hG : fw_cls st_isChoice3 R G) {a1 b0 : Int} {σ : ab_SG} (h : (fw_c b0 = 0 → (0 ≤ fw_c 0 ∧ fw_c 0 ≤ 1) ∧ R (some (0, 0, 0)) σ) ∧ (fw_c b0 ≠ 0 → (0 ≤ fw_c 1 ∧ fw_c 1 ≤ 1) ∧ R (some (0, 0, 1)) σ)) : G 10 [some (2, 3, 0), some (0, 0, a1)] [(0, 0, b0)] σ := fw_on hG [10] 200 h
abbrev fk_begins : List fw_CR := [(157, 1, true, 6, 0, sp_isTune3), (169, 1, true, 6, 1, sp_setOf3), (184, 1, false, 0, 0, sp_isBid), (187, 1, false, 0, 0, sp_isHow), (190, 1, true, 6, 1, sp_isChoice3), (193, 4, true, 6, 2, sp_likes3)]
abbrev st_begins : fw_K → fw_KR → fw_K := fw_st vwCl nn_sh nn_kd fw_kv fw_wc (nn_KI1.map (fun x => x.1)) (nn_KJ1.map (fun x => x.1)) (nn_PF1.map (fun x => x.1)) (nn_PS1.map (fun x => x.1)) fk_begins 3 nn_dt70 5 0
theorem fs_begins_0 {G : fw_K} {R : fw_KR} (hG : fw_cls st_begins R G) {x n w c : Int} {σ : ab_SG} (h : sp_isTune3 [(2, 3, 0), (0, 0, x)] σ (fun rv σ2 => G 8 [some (2, 0, 0), some (0, 0, x), some (0, 0, n), some (0, 0, w), some (0, 0, c)] (rv.toList ++ []) σ2)) : G 0 [some (2, 0, 0), some (0, 0, x), some (0, 0, n), some (0, 0, w), some (0, 0, c)] [] σ := fw_on hG [8, 15, 22, 34, 55, 58] 200 h
theorem fs_begins_8 {G : fw_K} {R : fw_KR} (hG : fw_cls st_begins R G) {a1 a2 a3 a4 b0 : Int} {σ : ab_SG} (h : (fw_c b0 = 0 → R (some (0, 0, (-1))) σ) ∧ (fw_c b0 ≠ 0 → sp_isBid [(0, 0, a2)] σ (fun rv σ2 => G 15 [some (2, 0, 0), some (0, 0, a1), some (0, 0, a2), some (0, 0, a3), some (0, 0, a4)] (rv.toList ++ []) σ2))) : G 8 [some (2, 0, 0), some (0, 0, a1), some (0, 0, a2), some (0, 0, a3), some (0, 0, a4)] [(0, 0, b0)] σ := fw_on hG [8, 15, 22, 34, 55, 58] 200 h
theorem fs_begins_15 {G : fw_K} {R : fw_KR} (hG : fw_cls st_begins R G) {a1 a2 a3 a4 b0 : Int} {σ : ab_SG} (h : (fw_c b0 = 0 → R (some (0, 0, (-1))) σ) ∧ (fw_c b0 ≠ 0 → sp_isHow [(0, 0, a3)] σ (fun rv σ2 => G 22 [some (2, 0, 0), some (0, 0, a1), some (0, 0, a2), some (0, 0, a3), some (0, 0, a4)] (rv.toList ++ []) σ2))) : G 15 [some (2, 0, 0), some (0, 0, a1), some (0, 0, a2), some (0, 0, a3), some (0, 0, a4)] [(0, 0, b0)] σ := fw_on hG [8, 15, 22, 34, 55, 58] 200 h
theorem fs_begins_22 {G : fw_K} {R : fw_KR} (hG : fw_cls st_begins R G) {a1 a2 a3 a4 b0 : Int} {σ : ab_SG} (h : (fw_c b0 = 0 → R (some (0, 0, (-1))) σ) ∧ (fw_c b0 ≠ 0 → sp_isChoice3 [(2, 3, 0), (0, 0, a4)] σ (fun rv σ2 => G 34 [some (2, 0, 0), some (0, 0, a1), some (0, 0, a2), some (0, 0, a3), some (0, 0, a4)] (rv.toList ++ []) σ2))) : G 22 [some (2, 0, 0), some (0, 0, a1), some (0, 0, a2), some (0, 0, a3), some (0, 0, a4)] [(0, 0, b0)] σ := fw_on hG [8, 15, 22, 34, 55, 58] 200 h
theorem fs_begins_34 {G : fw_K} {R : fw_KR} (hG : fw_cls st_begins R G) {a1 a2 a3 a4 b0 : Int} {σ : ab_SG} (h : (fw_c b0 ≠ 0 → sp_setOf3 [(2, 3, 0), (0, 0, a4)] σ (fun rv σ2 => G 55 [some (2, 0, 0), some (0, 0, a1), some (0, 0, a2), some (0, 0, a3), some (0, 0, a4)] (rv.toList ++ [(0, 0, a3), (0, 0, a2), (0, 0, a1), (2, 3, 0)]) σ2)) ∧ (fw_c b0 = 0 → R (some (0, 0, (-1))) σ)) : G 34 [some (2, 0, 0), some (0, 0, a1), some (0, 0, a2), some (0, 0, a3), some (0, 0, a4)] [(0, 0, b0)] σ := fw_on hG [8, 15, 22, 34, 55, 58] 200 h
theorem fs_begins_55 {G : fw_K} {R : fw_KR} (hG : fw_cls st_begins R G) {a1 a2 a3 a4 b0 b1 b2 b3 : Int} {σ : ab_SG} (h : sp_likes3 [(2, 3, 0), (0, 0, b3), (0, 0, b2), (0, 0, b1), (0, 0, b0)] σ (fun rv σ2 => G 58 [some (2, 0, 0), some (0, 0, a1), some (0, 0, a2), some (0, 0, a3), some (0, 0, a4)] (rv.toList ++ []) σ2)) : G 55 [some (2, 0, 0), some (0, 0, a1), some (0, 0, a2), some (0, 0, a3), some (0, 0, a4)] [(0, 0, b0), (0, 0, b1), (0, 0, b2), (0, 0, b3), (2, 3, 0)] σ := fw_on hG [8, 15, 22, 34, 55, 58] 200 h
theorem fs_begins_58 {G : fw_K} {R : fw_KR} (hG : fw_cls st_begins R G) {a1 a2 a3 a4 b0 : Int} {σ : ab_SG} (h : R (some (0, 0, b0)) σ) : G 58 [some (2, 0, 0), some (0, 0, a1), some (0, 0, a2), some (0, 0, a3), some (0, 0, a4)] [(0, 0, b0)] σ := fw_on hG [8, 15, 22, 34, 55, 58] 200 h
abbrev fk_alike : List fw_CR := [(157, 1, true, 6, 0, sp_isTune3), (187, 1, false, 0, 0, sp_isHow), (365, 3, true, 6, 1, sp_sharedNotes3)]
abbrev st_alike : fw_K → fw_KR → fw_K := fw_st vwCl nn_sh nn_kd fw_kv fw_wc (nn_KI1.map (fun x => x.1)) (nn_KJ1.map (fun x => x.1)) (nn_PF1.map (fun x => x.1)) (nn_PS1.map (fun x => x.1)) fk_alike 2 nn_dt142 4 0
theorem fs_alike_0 {G : fw_K} {R : fw_KR} (hG : fw_cls st_alike R G) {x y w : Int} {σ : ab_SG} (h : sp_isTune3 [(2, 3, 0), (0, 0, x)] σ (fun rv σ2 => G 8 [some (2, 0, 0), some (0, 0, x), some (0, 0, y), some (0, 0, w)] (rv.toList ++ []) σ2)) : G 0 [some (2, 0, 0), some (0, 0, x), some (0, 0, y), some (0, 0, w)] [] σ := fw_on hG [8, 19, 26, 41] 200 h
theorem fs_alike_8 {G : fw_K} {R : fw_KR} (hG : fw_cls st_alike R G) {a1 a2 a3 b0 : Int} {σ : ab_SG} (h : (fw_c b0 = 0 → R (some (0, 0, (-1))) σ) ∧ (fw_c b0 ≠ 0 → sp_isTune3 [(2, 3, 0), (0, 0, a2)] σ (fun rv σ2 => G 19 [some (2, 0, 0), some (0, 0, a1), some (0, 0, a2), some (0, 0, a3)] (rv.toList ++ []) σ2))) : G 8 [some (2, 0, 0), some (0, 0, a1), some (0, 0, a2), some (0, 0, a3)] [(0, 0, b0)] σ := fw_on hG [8, 19, 26, 41] 200 h
theorem fs_alike_19 {G : fw_K} {R : fw_KR} (hG : fw_cls st_alike R G) {a1 a2 a3 b0 : Int} {σ : ab_SG} (h : (fw_c b0 = 0 → R (some (0, 0, (-1))) σ) ∧ (fw_c b0 ≠ 0 → sp_isHow [(0, 0, a3)] σ (fun rv σ2 => G 26 [some (2, 0, 0), some (0, 0, a1), some (0, 0, a2), some (0, 0, a3)] (rv.toList ++ []) σ2))) : G 19 [some (2, 0, 0), some (0, 0, a1), some (0, 0, a2), some (0, 0, a3)] [(0, 0, b0)] σ := fw_on hG [8, 19, 26, 41] 200 h
theorem fs_alike_26 {G : fw_K} {R : fw_KR} (hG : fw_cls st_alike R G) {a1 a2 a3 b0 : Int} {σ : ab_SG} (h : (fw_c b0 ≠ 0 → sp_sharedNotes3 [(2, 3, 0), (0, 0, a1), (0, 0, a2), (0, 0, a3)] σ (fun rv σ2 => G 41 [some (2, 0, 0), some (0, 0, a1), some (0, 0, a2), some (0, 0, a3)] (rv.toList ++ []) σ2)) ∧ (fw_c b0 = 0 → R (some (0, 0, (-1))) σ)) : G 26 [some (2, 0, 0), some (0, 0, a1), some (0, 0, a2), some (0, 0, a3)] [(0, 0, b0)] σ := fw_on hG [8, 19, 26, 41] 200 h
theorem fs_alike_41 {G : fw_K} {R : fw_KR} (hG : fw_cls st_alike R G) {a1 a2 a3 b0 : Int} {σ : ab_SG} (h : R (some (0, 0, b0)) σ) : G 41 [some (2, 0, 0), some (0, 0, a1), some (0, 0, a2), some (0, 0, a3)] [(0, 0, b0)] σ := fw_on hG [8, 19, 26, 41] 200 h
abbrev fk_m_isLikeNote : List fw_CR := [(270, 1, true, 11, 1, sp_m_notes), (273, 3, true, 11, 1, sp_m_noteOf)]
abbrev st_m_isLikeNote : fw_K → fw_KR → fw_K := fw_st vwCl nn_sh nn_kd fw_kv fw_wc (nn_KI20.map (fun x => x.1)) (nn_KJ20.map (fun x => x.1)) (nn_PF20.map (fun x => x.1)) (nn_PS20.map (fun x => x.1)) fk_m_isLikeNote 2 nn_dt259 7 1
theorem fs_m_isLikeNote_0 {G : fw_K} {R : fw_KR} (hG : fw_cls st_m_isLikeNote R G) {x y i w : Int} {σ : ab_SG} (h : sp_m_notes [(2, 93, 0), (0, 0, x)] σ (fun rv σ2 => G 6 [some (2, 93, 0), some (0, 0, x), some (0, 0, y), some (0, 0, i), some (0, 0, w), none, none] (rv.toList ++ [(0, 0, i)]) σ2)) : G 0 [some (2, 93, 0), some (0, 0, x), some (0, 0, y), some (0, 0, i), some (0, 0, w), none, none] [] σ := fw_on hG [6, 15, 18, 24, 33, 49, 56, 64, 73, 80, 88, 103, 110, 118, 125] 200 h
theorem fs_m_isLikeNote_6 {G : fw_K} {R : fw_KR} (hG : fw_cls st_m_isLikeNote R G) {a1 a2 a3 a4 b0 b1 : Int} {σ : ab_SG} (h : (fw_c b0 ≤ fw_c b1 → G 18 [some (2, 93, 0), some (0, 0, a1), some (0, 0, a2), some (0, 0, a3), some (0, 0, a4), none, none] [] σ) ∧ (fw_c b1 < fw_c b0 → sp_m_notes [(2, 93, 0), (0, 0, a2)] σ (fun rv σ2 => G 15 [some (2, 93, 0), some (0, 0, a1), some (0, 0, a2), some (0, 0, a3), some (0, 0, a4), none, none] (rv.toList ++ [(0, 0, a3)]) σ2))) : G 6 [some (2, 93, 0), some (0, 0, a1), some (0, 0, a2), some (0, 0, a3), some (0, 0, a4), none, none] [(0, 0, b0), (0, 0, b1)] σ := fw_on hG [6, 15, 18, 24, 33, 49, 56, 64, 73, 80, 88, 103, 110, 118, 125] 200 h
theorem fs_m_isLikeNote_18 {G : fw_K} {R : fw_KR} (hG : fw_cls st_m_isLikeNote R G) {a1 a2 a3 a4 : Int} {σ : ab_SG} (h : sp_m_notes [(2, 93, 0), (0, 0, a1)] σ (fun rv σ2 => G 24 [some (2, 93, 0), some (0, 0, a1), some (0, 0, a2), some (0, 0, a3), some (0, 0, a4), none, none] (rv.toList ++ [(0, 0, a3)]) σ2)) : G 18 [some (2, 93, 0), some (0, 0, a1), some (0, 0, a2), some (0, 0, a3), some (0, 0, a4), none, none] [] σ := fw_on hG [6, 15, 18, 24, 33, 49, 56, 64, 73, 80, 88, 103, 110, 118, 125] 200 h
theorem fs_m_isLikeNote_15 {G : fw_K} {R : fw_KR} (hG : fw_cls st_m_isLikeNote R G) {a1 a2 a3 a4 b0 b1 : Int} {σ : ab_SG} (h : (fw_c b1 < fw_c b0 → sp_m_noteOf [(2, 93, 0), (0, 0, a1), (0, 0, a3), (0, 0, 0)] σ (fun rv σ2 => G 49 [some (2, 93, 0), some (0, 0, a1), some (0, 0, a2), some (0, 0, a3), some (0, 0, a4), none, none] (rv.toList ++ []) σ2)) ∧ (fw_c b0 ≤ fw_c b1 → G 18 [some (2, 93, 0), some (0, 0, a1), some (0, 0, a2), some (0, 0, a3), some (0, 0, a4), none, none] [] σ)) : G 15 [some (2, 93, 0), some (0, 0, a1), some (0, 0, a2), some (0, 0, a3), some (0, 0, a4), none, none] [(0, 0, b0), (0, 0, b1)] σ := fw_on hG [6, 15, 18, 24, 33, 49, 56, 64, 73, 80, 88, 103, 110, 118, 125] 200 h
theorem fs_m_isLikeNote_24 {G : fw_K} {R : fw_KR} (hG : fw_cls st_m_isLikeNote R G) {a1 a2 a3 a4 b0 b1 : Int} {σ : ab_SG} (h : (fw_c b1 < fw_c b0 → (0 ≤ fw_c 0 ∧ fw_c 0 ≤ 1) ∧ R (some (0, 0, 0)) σ) ∧ (fw_c b0 ≤ fw_c b1 → sp_m_notes [(2, 93, 0), (0, 0, a2)] σ (fun rv σ2 => G 33 [some (2, 93, 0), some (0, 0, a1), some (0, 0, a2), some (0, 0, a3), some (0, 0, a4), none, none] (rv.toList ++ [(0, 0, a3)]) σ2))) : G 24 [some (2, 93, 0), some (0, 0, a1), some (0, 0, a2), some (0, 0, a3), some (0, 0, a4), none, none] [(0, 0, b0), (0, 0, b1)] σ := fw_on hG [6, 15, 18, 24, 33, 49, 56, 64, 73, 80, 88, 103, 110, 118, 125] 200 h
theorem fs_m_isLikeNote_49 {G : fw_K} {R : fw_KR} (hG : fw_cls st_m_isLikeNote R G) {a1 a2 a3 a4 b0 : Int} {σ : ab_SG} (h : sp_m_noteOf [(2, 93, 0), (0, 0, a2), (0, 0, a3), (0, 0, 0)] σ (fun rv σ2 => G 56 [some (2, 93, 0), some (0, 0, a1), some (0, 0, a2), some (0, 0, a3), some (0, 0, a4), none, none] (rv.toList ++ [(0, 0, b0)]) σ2)) : G 49 [some (2, 93, 0), some (0, 0, a1), some (0, 0, a2), some (0, 0, a3), some (0, 0, a4), none, none] [(0, 0, b0)] σ := fw_on hG [6, 15, 18, 24, 33, 49, 56, 64, 73, 80, 88, 103, 110, 118, 125] 200 h
theorem fs_m_isLikeNote_33 {G : fw_K} {R : fw_KR} (hG : fw_cls st_m_isLikeNote R G) {a1 a2 a3 a4 b0 b1 : Int} {σ : ab_SG} (h : (fw_c b1 < fw_c b0 → (0 ≤ fw_c 0 ∧ fw_c 0 ≤ 1) ∧ R (some (0, 0, 0)) σ) ∧ (fw_c b0 ≤ fw_c b1 → (0 ≤ fw_c 1 ∧ fw_c 1 ≤ 1) ∧ R (some (0, 0, 1)) σ)) : G 33 [some (2, 93, 0), some (0, 0, a1), some (0, 0, a2), some (0, 0, a3), some (0, 0, a4), none, none] [(0, 0, b0), (0, 0, b1)] σ := fw_on hG [6, 15, 18, 24, 33, 49, 56, 64, 73, 80, 88, 103, 110, 118, 125] 200 h
theorem fs_m_isLikeNote_56 {G : fw_K} {R : fw_KR} (hG : fw_cls st_m_isLikeNote R G) {a1 a2 a3 a4 b0 b1 : Int} {σ : ab_SG} (h : (fw_c b1 ≠ fw_c b0 → G 64 [some (2, 93, 0), some (0, 0, a1), some (0, 0, a2), some (0, 0, a3), some (0, 0, a4), none, none] [(0, 0, 0)] σ) ∧ (fw_c b1 = fw_c b0 → G 64 [some (2, 93, 0), some (0, 0, a1), some (0, 0, a2), some (0, 0, a3), some (0, 0, a4), none, none] [(0, 0, 1)] σ)) : G 56 [some (2, 93, 0), some (0, 0, a1), some (0, 0, a2), some (0, 0, a3), some (0, 0, a4), none, none] [(0, 0, b0), (0, 0, b1)] σ := fw_on hG [6, 15, 18, 24, 33, 49, 56, 64, 73, 80, 88, 103, 110, 118, 125] 200 h
theorem fs_m_isLikeNote_64 {G : fw_K} {R : fw_KR} (hG : fw_cls st_m_isLikeNote R G) {a1 a2 a3 a4 b0 : Int} {σ : ab_SG} (h : sp_m_noteOf [(2, 93, 0), (0, 0, a1), (0, 0, a3), (0, 0, 1)] σ (fun rv σ2 => G 73 [some (2, 93, 0), some (0, 0, a1), some (0, 0, a2), some (0, 0, a3), some (0, 0, a4), some (0, 0, b0), none] (rv.toList ++ []) σ2)) : G 64 [some (2, 93, 0), some (0, 0, a1), some (0, 0, a2), some (0, 0, a3), some (0, 0, a4), none, none] [(0, 0, b0)] σ := fw_on hG [6, 15, 18, 24, 33, 49, 56, 64, 73, 80, 88, 103, 110, 118, 125] 200 h
theorem fs_m_isLikeNote_73 {G : fw_K} {R : fw_KR} (hG : fw_cls st_m_isLikeNote R G) {a1 a2 a3 a4 a5 b0 : Int} {σ : ab_SG} (h : sp_m_noteOf [(2, 93, 0), (0, 0, a2), (0, 0, a3), (0, 0, 1)] σ (fun rv σ2 => G 80 [some (2, 93, 0), some (0, 0, a1), some (0, 0, a2), some (0, 0, a3), some (0, 0, a4), some (0, 0, a5), none] (rv.toList ++ [(0, 0, b0)]) σ2)) : G 73 [some (2, 93, 0), some (0, 0, a1), some (0, 0, a2), some (0, 0, a3), some (0, 0, a4), some (0, 0, a5), none] [(0, 0, b0)] σ := fw_on hG [6, 15, 18, 24, 33, 49, 56, 64, 73, 80, 88, 103, 110, 118, 125] 200 h
theorem fs_m_isLikeNote_80 {G : fw_K} {R : fw_KR} (hG : fw_cls st_m_isLikeNote R G) {a1 a2 a3 a4 a5 b0 b1 : Int} {σ : ab_SG} (h : (fw_c b1 ≠ fw_c b0 → G 88 [some (2, 93, 0), some (0, 0, a1), some (0, 0, a2), some (0, 0, a3), some (0, 0, a4), some (0, 0, a5), none] [(0, 0, 0)] σ) ∧ (fw_c b1 = fw_c b0 → G 88 [some (2, 93, 0), some (0, 0, a1), some (0, 0, a2), some (0, 0, a3), some (0, 0, a4), some (0, 0, a5), none] [(0, 0, 1)] σ)) : G 80 [some (2, 93, 0), some (0, 0, a1), some (0, 0, a2), some (0, 0, a3), some (0, 0, a4), some (0, 0, a5), none] [(0, 0, b0), (0, 0, b1)] σ := fw_on hG [6, 15, 18, 24, 33, 49, 56, 64, 73, 80, 88, 103, 110, 118, 125] 200 h
theorem fs_m_isLikeNote_88 {G : fw_K} {R : fw_KR} (hG : fw_cls st_m_isLikeNote R G) {a1 a2 a3 a4 a5 b0 : Int} {σ : ab_SG} (h : (fw_c a4 ≠ fw_c 3 → (fw_c a4 ≠ 0 → (fw_c a4 ≠ fw_c 1 → (0 ≤ fw_c b0 ∧ fw_c b0 ≤ 1) ∧ R (some (0, 0, b0)) σ) ∧ (fw_c a4 = fw_c 1 → (0 ≤ fw_c a5 ∧ fw_c a5 ≤ 1) ∧ R (some (0, 0, a5)) σ)) ∧ (fw_c a4 = 0 → (fw_c a5 = 0 → (0 ≤ fw_c 0 ∧ fw_c 0 ≤ 1) ∧ R (some (0, 0, 0)) σ) ∧ (fw_c a5 ≠ 0 → (fw_c b0 = 0 → (0 ≤ fw_c 0 ∧ fw_c 0 ≤ 1) ∧ R (some (0, 0, 0)) σ) ∧ (fw_c b0 ≠ 0 → (0 ≤ fw_c 1 ∧ fw_c 1 ≤ 1) ∧ R (some (0, 0, 1)) σ)))) ∧ (fw_c a4 = fw_c 3 → sp_m_noteOf [(2, 93, 0), (0, 0, a1), (0, 0, a3), (0, 0, 0)] σ (fun rv σ2 => G 103 [some (2, 93, 0), some (0, 0, a1), some (0, 0, a2), some (0, 0, a3), some (0, 0, a4), some (0, 0, a5), some (0, 0, b0)] (rv.toList ++ []) σ2))) : G 88 [some (2, 93, 0), some (0, 0, a1), some (0, 0, a2), some (0, 0, a3), some (0, 0, a4), some (0, 0, a5), none] [(0, 0, b0)] σ := fw_on hG [6, 15, 18, 24, 33, 49, 56, 64, 73, 80, 88, 103, 110, 118, 125] 200 h
theorem fs_m_isLikeNote_103 {G : fw_K} {R : fw_KR} (hG : fw_cls st_m_isLikeNote R G) {a1 a2 a3 a4 a5 a6 b0 : Int} {σ : ab_SG} (h : sp_m_noteOf [(2, 93, 0), (0, 0, a1), (0, 0, 0), (0, 0, 0)] σ (fun rv σ2 => G 110 [some (2, 93, 0), some (0, 0, a1), some (0, 0, a2), some (0, 0, a3), some (0, 0, a4), some (0, 0, a5), some (0, 0, a6)] (rv.toList ++ [(0, 0, b0)]) σ2)) : G 103 [some (2, 93, 0), some (0, 0, a1), some (0, 0, a2), some (0, 0, a3), some (0, 0, a4), some (0, 0, a5), some (0, 0, a6)] [(0, 0, b0)] σ := fw_on hG [6, 15, 18, 24, 33, 49, 56, 64, 73, 80, 88, 103, 110, 118, 125] 200 h
theorem fs_m_isLikeNote_110 {G : fw_K} {R : fw_KR} (hG : fw_cls st_m_isLikeNote R G) {a1 a2 a3 a4 a5 a6 b0 b1 : Int} {σ : ab_SG} (h : sp_m_noteOf [(2, 93, 0), (0, 0, a2), (0, 0, a3), (0, 0, 0)] σ (fun rv σ2 => G 118 [some (2, 93, 0), some (0, 0, a1), some (0, 0, a2), some (0, 0, a3), some (0, 0, a4), some (0, 0, a5), some (0, 0, a6)] (rv.toList ++ [(0, 0, b1 - b0)]) σ2)) : G 110 [some (2, 93, 0), some (0, 0, a1), some (0, 0, a2), some (0, 0, a3), some (0, 0, a4), some (0, 0, a5), some (0, 0, a6)] [(0, 0, b0), (0, 0, b1)] σ := fw_on hG [6, 15, 18, 24, 33, 49, 56, 64, 73, 80, 88, 103, 110, 118, 125] 200 h
theorem fs_m_isLikeNote_118 {G : fw_K} {R : fw_KR} (hG : fw_cls st_m_isLikeNote R G) {a1 a2 a3 a4 a5 a6 b0 b1 : Int} {σ : ab_SG} (h : sp_m_noteOf [(2, 93, 0), (0, 0, a2), (0, 0, 0), (0, 0, 0)] σ (fun rv σ2 => G 125 [some (2, 93, 0), some (0, 0, a1), some (0, 0, a2), some (0, 0, a3), some (0, 0, a4), some (0, 0, a5), some (0, 0, a6)] (rv.toList ++ [(0, 0, b0), (0, 0, b1)]) σ2)) : G 118 [some (2, 93, 0), some (0, 0, a1), some (0, 0, a2), some (0, 0, a3), some (0, 0, a4), some (0, 0, a5), some (0, 0, a6)] [(0, 0, b0), (0, 0, b1)] σ := fw_on hG [6, 15, 18, 24, 33, 49, 56, 64, 73, 80, 88, 103, 110, 118, 125] 200 h
theorem fs_m_isLikeNote_125 {G : fw_K} {R : fw_KR} (hG : fw_cls st_m_isLikeNote R G) {a1 a2 a3 a4 a5 a6 b0 b1 b2 : Int} {σ : ab_SG} (h : (fw_c b2 ≠ fw_c (b1 - b0) → (0 ≤ fw_c 0 ∧ fw_c 0 ≤ 1) ∧ R (some (0, 0, 0)) σ) ∧ (fw_c b2 = fw_c (b1 - b0) → (0 ≤ fw_c 1 ∧ fw_c 1 ≤ 1) ∧ R (some (0, 0, 1)) σ)) : G 125 [some (2, 93, 0), some (0, 0, a1), some (0, 0, a2), some (0, 0, a3), some (0, 0, a4), some (0, 0, a5), some (0, 0, a6)] [(0, 0, b0), (0, 0, b1), (0, 0, b2)] σ := fw_on hG [6, 15, 18, 24, 33, 49, 56, 64, 73, 80, 88, 103, 110, 118, 125] 200 h
abbrev fk_m_likeNotes : List fw_CR := [(287, 4, true, 11, 2, sp_m_isLikeNote)]
abbrev st_m_likeNotes : fw_K → fw_KR → fw_K := fw_st vwCl nn_sh nn_kd fw_kv fw_wc (nn_KI20.map (fun x => x.1)) (nn_KJ20.map (fun x => x.1)) (nn_PF20.map (fun x => x.1)) (nn_PS20.map (fun x => x.1)) fk_m_likeNotes 3 nn_dt258 5 0
theorem fs_m_likeNotes_0 {G : fw_K} {R : fw_KR} (hG : fw_cls st_m_likeNotes R G) {x y w : Int} {σ : ab_SG} (h : G 3 [some (2, 93, 0), some (0, 0, x), some (0, 0, y), some (0, 0, w), some (0, 0, 0)] [] σ) : G 0 [some (2, 93, 0), some (0, 0, x), some (0, 0, y), some (0, 0, w), none] [] σ := fw_on hG [3, 19] 200 h
theorem fs_m_likeNotes_3 {G : fw_K} {R : fw_KR} (hG : fw_cls st_m_likeNotes R G) {a1 a2 a3 a4 : Int} {σ : ab_SG} (h : (fw_c 9 ≤ fw_c a4 → R (some (0, 0, a4)) σ) ∧ (fw_c a4 < fw_c 9 → sp_m_isLikeNote [(2, 93, 0), (0, 0, a1), (0, 0, a2), (0, 0, a4), (0, 0, a3)] σ (fun rv σ2 => G 19 [some (2, 93, 0), some (0, 0, a1), some (0, 0, a2), some (0, 0, a3), some (0, 0, a4)] (rv.toList ++ []) σ2))) : G 3 [some (2, 93, 0), some (0, 0, a1), some (0, 0, a2), some (0, 0, a3), some (0, 0, a4)] [] σ := fw_on hG [3, 19] 200 h
theorem fs_m_likeNotes_19 {G : fw_K} {R : fw_KR} (hG : fw_cls st_m_likeNotes R G) {a1 a2 a3 a4 b0 : Int} {σ : ab_SG} (h : (fw_c b0 = 0 → R (some (0, 0, a4)) σ) ∧ (fw_c b0 ≠ 0 → G 3 [some (2, 93, 0), some (0, 0, a1), some (0, 0, a2), some (0, 0, a3), some (0, 0, a4 + 1)] [] σ)) : G 19 [some (2, 93, 0), some (0, 0, a1), some (0, 0, a2), some (0, 0, a3), some (0, 0, a4)] [(0, 0, b0)] σ := fw_on hG [3, 19] 200 h
abbrev fk_m_areLike : List fw_CR := [(291, 3, true, 11, 3, sp_m_likeNotes)]
abbrev st_m_areLike : fw_K → fw_KR → fw_K := fw_st vwCl nn_sh nn_kd fw_kv fw_wc (nn_KI20.map (fun x => x.1)) (nn_KJ20.map (fun x => x.1)) (nn_PF20.map (fun x => x.1)) (nn_PS20.map (fun x => x.1)) fk_m_areLike 4 nn_dt257 5 1
theorem fs_m_areLike_0 {G : fw_K} {R : fw_KR} (hG : fw_cls st_m_areLike R G) {x y n w : Int} {σ : ab_SG} (h : sp_m_likeNotes [(2, 93, 0), (0, 0, x), (0, 0, y), (0, 0, w)] σ (fun rv σ2 => G 8 [some (2, 93, 0), some (0, 0, x), some (0, 0, y), some (0, 0, n), some (0, 0, w)] (rv.toList ++ []) σ2)) : G 0 [some (2, 93, 0), some (0, 0, x), some (0, 0, y), some (0, 0, n), some (0, 0, w)] [] σ := fw_on hG [8] 200 h
theorem fs_m_areLike_8 {G : fw_K} {R : fw_KR} (hG : fw_cls st_m_areLike R G) {a1 a2 a3 a4 b0 : Int} {σ : ab_SG} (h : (fw_c b0 < fw_c a3 → (0 ≤ fw_c 0 ∧ fw_c 0 ≤ 1) ∧ R (some (0, 0, 0)) σ) ∧ (fw_c a3 ≤ fw_c b0 → (0 ≤ fw_c 1 ∧ fw_c 1 ≤ 1) ∧ R (some (0, 0, 1)) σ)) : G 8 [some (2, 93, 0), some (0, 0, a1), some (0, 0, a2), some (0, 0, a3), some (0, 0, a4)] [(0, 0, b0)] σ := fw_on hG [8] 200 h
abbrev fk_m_likes : List fw_CR := [(216, 2, false, 0, 0, sp_m_has), (261, 0, true, 11, 0, sp_m_tunes), (294, 4, true, 11, 4, sp_m_areLike)]
abbrev st_m_likes : fw_K → fw_KR → fw_K := fw_st vwCl nn_sh nn_kd fw_kv fw_wc (nn_KI20.map (fun x => x.1)) (nn_KJ20.map (fun x => x.1)) (nn_PF20.map (fun x => x.1)) (nn_PS20.map (fun x => x.1)) fk_m_likes 5 nn_dt256 7 0
theorem fs_m_likes_0 {G : fw_K} {R : fw_KR} (hG : fw_cls st_m_likes R G) {x n w s : Int} {σ : ab_SG} (h : G 6 [some (2, 93, 0), some (0, 0, x), some (0, 0, n), some (0, 0, w), some (0, 0, s), some (0, 0, 0), some (0, 0, 0)] [] σ) : G 0 [some (2, 93, 0), some (0, 0, x), some (0, 0, n), some (0, 0, w), some (0, 0, s), none, none] [] σ := fw_on hG [6, 12, 22, 34, 46] 200 h
theorem fs_m_likes_6 {G : fw_K} {R : fw_KR} (hG : fw_cls st_m_likes R G) {a1 a2 a3 a4 a5 a6 : Int} {σ : ab_SG} (h : sp_m_tunes [(2, 93, 0)] σ (fun rv σ2 => G 12 [some (2, 93, 0), some (0, 0, a1), some (0, 0, a2), some (0, 0, a3), some (0, 0, a4), some (0, 0, a5), some (0, 0, a6)] (rv.toList ++ [(0, 0, a6)]) σ2)) : G 6 [some (2, 93, 0), some (0, 0, a1), some (0, 0, a2), some (0, 0, a3), some (0, 0, a4), some (0, 0, a5), some (0, 0, a6)] [] σ := fw_on hG [6, 12, 22, 34, 46] 200 h
theorem fs_m_likes_12 {G : fw_K} {R : fw_KR} (hG : fw_cls st_m_likes R G) {a1 a2 a3 a4 a5 a6 b0 b1 : Int} {σ : ab_SG} (h : (fw_c b0 ≤ fw_c b1 → R (some (0, 0, a5)) σ) ∧ (fw_c b1 < fw_c b0 → sp_m_has [(0, 0, a4), (0, 0, a6)] σ (fun rv σ2 => G 22 [some (2, 93, 0), some (0, 0, a1), some (0, 0, a2), some (0, 0, a3), some (0, 0, a4), some (0, 0, a5), some (0, 0, a6)] (rv.toList ++ []) σ2))) : G 12 [some (2, 93, 0), some (0, 0, a1), some (0, 0, a2), some (0, 0, a3), some (0, 0, a4), some (0, 0, a5), some (0, 0, a6)] [(0, 0, b0), (0, 0, b1)] σ := fw_on hG [6, 12, 22, 34, 46] 200 h
theorem fs_m_likes_22 {G : fw_K} {R : fw_KR} (hG : fw_cls st_m_likes R G) {a1 a2 a3 a4 a5 a6 b0 : Int} {σ : ab_SG} (h : (fw_c b0 = 0 → G 46 [some (2, 93, 0), some (0, 0, a1), some (0, 0, a2), some (0, 0, a3), some (0, 0, a4), some (0, 0, a5), some (0, 0, a6)] [] σ) ∧ (fw_c b0 ≠ 0 → sp_m_areLike [(2, 93, 0), (0, 0, a1), (0, 0, a6), (0, 0, a2), (0, 0, a3)] σ (fun rv σ2 => G 34 [some (2, 93, 0), some (0, 0, a1), some (0, 0, a2), some (0, 0, a3), some (0, 0, a4), some (0, 0, a5), some (0, 0, a6)] (rv.toList ++ []) σ2))) : G 22 [some (2, 93, 0), some (0, 0, a1), some (0, 0, a2), some (0, 0, a3), some (0, 0, a4), some (0, 0, a5), some (0, 0, a6)] [(0, 0, b0)] σ := fw_on hG [6, 12, 22, 34, 46] 200 h
theorem fs_m_likes_46 {G : fw_K} {R : fw_KR} (hG : fw_cls st_m_likes R G) {a1 a2 a3 a4 a5 a6 : Int} {σ : ab_SG} (h : G 6 [some (2, 93, 0), some (0, 0, a1), some (0, 0, a2), some (0, 0, a3), some (0, 0, a4), some (0, 0, a5), some (0, 0, a6 + 1)] [] σ) : G 46 [some (2, 93, 0), some (0, 0, a1), some (0, 0, a2), some (0, 0, a3), some (0, 0, a4), some (0, 0, a5), some (0, 0, a6)] [] σ := fw_on hG [6, 12, 22, 34, 46] 200 h
theorem fs_m_likes_34 {G : fw_K} {R : fw_KR} (hG : fw_cls st_m_likes R G) {a1 a2 a3 a4 a5 a6 b0 : Int} {σ : ab_SG} (h : (fw_c b0 = 0 → G 46 [some (2, 93, 0), some (0, 0, a1), some (0, 0, a2), some (0, 0, a3), some (0, 0, a4), some (0, 0, a5), some (0, 0, a6)] [] σ) ∧ (fw_c b0 ≠ 0 → G 46 [some (2, 93, 0), some (0, 0, a1), some (0, 0, a2), some (0, 0, a3), some (0, 0, a4), some (0, 0, fw_op 9 a5 (fw_op 5 1 a6)), some (0, 0, a6)] [] σ)) : G 34 [some (2, 93, 0), some (0, 0, a1), some (0, 0, a2), some (0, 0, a3), some (0, 0, a4), some (0, 0, a5), some (0, 0, a6)] [(0, 0, b0)] σ := fw_on hG [6, 12, 22, 34, 46] 200 h
abbrev fk_m_isHow : List fw_CR := [(171, 3, false, 0, 0, sp_m_isIn)]
abbrev st_m_isHow : fw_K → fw_KR → fw_K := fw_st vwCl nn_sh nn_kd fw_kv fw_wc (nn_KI20.map (fun x => x.1)) (nn_KJ20.map (fun x => x.1)) (nn_PF20.map (fun x => x.1)) (nn_PS20.map (fun x => x.1)) fk_m_isHow 1 nn_dt253 1 1
theorem fs_m_isHow_0 {G : fw_K} {R : fw_KR} (hG : fw_cls st_m_isHow R G) {w : Int} {σ : ab_SG} (h : sp_m_isIn [(0, 0, w), (0, 0, 0), (0, 0, 3)] σ (fun rv σ2 => G 6 [some (0, 0, w)] (rv.toList ++ []) σ2)) : G 0 [some (0, 0, w)] [] σ := fw_on hG [6] 200 h
theorem fs_m_isHow_6 {G : fw_K} {R : fw_KR} (hG : fw_cls st_m_isHow R G) {a0 b0 : Int} {σ : ab_SG} (h : (0 ≤ fw_c b0 ∧ fw_c b0 ≤ 1) ∧ R (some (0, 0, b0)) σ) : G 6 [some (0, 0, a0)] [(0, 0, b0)] σ := fw_on hG [6] 200 h
abbrev fk_m_isLeft : List fw_CR := [(264, 1, true, 11, 0, sp_m_isClue)]
abbrev st_m_isLeft : fw_K → fw_KR → fw_K := fw_st vwCl nn_sh nn_kd fw_kv fw_wc (nn_KI20.map (fun x => x.1)) (nn_KJ20.map (fun x => x.1)) (nn_PF20.map (fun x => x.1)) (nn_PS20.map (fun x => x.1)) fk_m_isLeft 1 nn_dt254 2 1
theorem fs_m_isLeft_0 {G : fw_K} {R : fw_KR} (hG : fw_cls st_m_isLeft R G) {c : Int} {σ : ab_SG} (h : (fw_c c = fw_c (-1) → (0 ≤ fw_c 1 ∧ fw_c 1 ≤ 1) ∧ R (some (0, 0, 1)) σ) ∧ (fw_c c ≠ fw_c (-1) → sp_m_isClue [(2, 93, 0), (0, 0, c)] σ (fun rv σ2 => G 10 [some (2, 93, 0), some (0, 0, c)] (rv.toList ++ []) σ2))) : G 0 [some (2, 93, 0), some (0, 0, c)] [] σ := fw_on hG [10] 200 h
theorem fs_m_isLeft_10 {G : fw_K} {R : fw_KR} (hG : fw_cls st_m_isLeft R G) {a1 b0 : Int} {σ : ab_SG} (h : (fw_c b0 = 0 → (0 ≤ fw_c 0 ∧ fw_c 0 ≤ 1) ∧ R (some (0, 0, 0)) σ) ∧ (fw_c b0 ≠ 0 → (0 ≤ fw_c 1 ∧ fw_c 1 ≤ 1) ∧ R (some (0, 0, 1)) σ)) : G 10 [some (2, 93, 0), some (0, 0, a1)] [(0, 0, b0)] σ := fw_on hG [10] 200 h
abbrev fk_m_left : List fw_CR := [(261, 0, true, 11, 0, sp_m_tunes)]
abbrev st_m_left : fw_K → fw_KR → fw_K := fw_st vwCl nn_sh nn_kd fw_kv fw_wc (nn_KI20.map (fun x => x.1)) (nn_KJ20.map (fun x => x.1)) (nn_PF20.map (fun x => x.1)) (nn_PS20.map (fun x => x.1)) fk_m_left 1 nn_dt255 2 0
theorem fs_m_left_0 {G : fw_K} {R : fw_KR} (hG : fw_cls st_m_left R G) {c : Int} {σ : ab_SG} (h : (fw_c c ≠ fw_c (-1) → (0 ≤ fw_c (176 + c) ∧ fw_c (176 + c) < ((474 : Nat) : Int)) ∧ (R (some (0, 0, σ 95 (fw_c (176 + c)).toNat)) σ)) ∧ (fw_c c = fw_c (-1) → sp_m_tunes [(2, 93, 0)] σ (fun rv σ2 => G 10 [some (2, 93, 0), some (0, 0, c)] (rv.toList ++ [(0, 0, 1)]) σ2))) : G 0 [some (2, 93, 0), some (0, 0, c)] [] σ := fw_on hG [10] 200 h
theorem fs_m_left_10 {G : fw_K} {R : fw_KR} (hG : fw_cls st_m_left R G) {a1 b0 b1 : Int} {σ : ab_SG} (h : R (some (0, 0, (fw_op 5 b1 b0) - 1)) σ) : G 10 [some (2, 93, 0), some (0, 0, a1)] [(0, 0, b0), (0, 0, b1)] σ := fw_on hG [10] 200 h
abbrev fk_m_begins : List fw_CR := [(171, 3, false, 0, 0, sp_m_isIn), (267, 1, true, 11, 1, sp_m_isTune), (297, 1, false, 0, 1, sp_m_isHow), (300, 1, true, 11, 1, sp_m_isLeft), (303, 1, true, 11, 1, sp_m_left), (306, 4, true, 11, 5, sp_m_likes)]
abbrev st_m_begins : fw_K → fw_KR → fw_K := fw_st vwCl nn_sh nn_kd fw_kv fw_wc (nn_KI20.map (fun x => x.1)) (nn_KJ20.map (fun x => x.1)) (nn_PF20.map (fun x => x.1)) (nn_PS20.map (fun x => x.1)) fk_m_begins 6 nn_dt252 5 0
theorem fs_m_begins_0 {G : fw_K} {R : fw_KR} (hG : fw_cls st_m_begins R G) {x n w c : Int} {σ : ab_SG} (h : sp_m_isTune [(2, 93, 0), (0, 0, x)] (ab_ups σ 93 0 (fw_c 0)) (fun rv σ2 => G 10 [some (2, 93, 0), some (0, 0, x), some (0, 0, n), some (0, 0, w), some (0, 0, c)] (rv.toList ++ []) σ2)) : G 0 [some (2, 93, 0), some (0, 0, x), some (0, 0, n), some (0, 0, w), some (0, 0, c)] [] σ := fw_on hG [10, 20, 27, 36, 49, 52] 200 h
theorem fs_m_begins_10 {G : fw_K} {R : fw_KR} (hG : fw_cls st_m_begins R G) {a1 a2 a3 a4 b0 : Int} {σ : ab_SG} (h : (fw_c b0 = 0 → R (some (0, 0, (-1))) σ) ∧ (fw_c b0 ≠ 0 → sp_m_isIn [(0, 0, a2), (0, 0, 1), (0, 0, 9)] σ (fun rv σ2 => G 20 [some (2, 93, 0), some (0, 0, a1), some (0, 0, a2), some (0, 0, a3), some (0, 0, a4)] (rv.toList ++ []) σ2))) : G 10 [some (2, 93, 0), some (0, 0, a1), some (0, 0, a2), some (0, 0, a3), some (0, 0, a4)] [(0, 0, b0)] σ := fw_on hG [10, 20, 27, 36, 49, 52] 200 h
theorem fs_m_begins_20 {G : fw_K} {R : fw_KR} (hG : fw_cls st_m_begins R G) {a1 a2 a3 a4 b0 : Int} {σ : ab_SG} (h : (fw_c b0 = 0 → R (some (0, 0, (-1))) σ) ∧ (fw_c b0 ≠ 0 → sp_m_isHow [(0, 0, a3)] σ (fun rv σ2 => G 27 [some (2, 93, 0), some (0, 0, a1), some (0, 0, a2), some (0, 0, a3), some (0, 0, a4)] (rv.toList ++ []) σ2))) : G 20 [some (2, 93, 0), some (0, 0, a1), some (0, 0, a2), some (0, 0, a3), some (0, 0, a4)] [(0, 0, b0)] σ := fw_on hG [10, 20, 27, 36, 49, 52] 200 h
theorem fs_m_begins_27 {G : fw_K} {R : fw_KR} (hG : fw_cls st_m_begins R G) {a1 a2 a3 a4 b0 : Int} {σ : ab_SG} (h : (fw_c b0 = 0 → R (some (0, 0, (-1))) σ) ∧ (fw_c b0 ≠ 0 → sp_m_isLeft [(2, 93, 0), (0, 0, a4)] σ (fun rv σ2 => G 36 [some (2, 93, 0), some (0, 0, a1), some (0, 0, a2), some (0, 0, a3), some (0, 0, a4)] (rv.toList ++ []) σ2))) : G 27 [some (2, 93, 0), some (0, 0, a1), some (0, 0, a2), some (0, 0, a3), some (0, 0, a4)] [(0, 0, b0)] σ := fw_on hG [10, 20, 27, 36, 49, 52] 200 h
theorem fs_m_begins_36 {G : fw_K} {R : fw_KR} (hG : fw_cls st_m_begins R G) {a1 a2 a3 a4 b0 : Int} {σ : ab_SG} (h : (fw_c b0 = 0 → R (some (0, 0, (-1))) σ) ∧ (fw_c b0 ≠ 0 → sp_m_left [(2, 93, 0), (0, 0, a4)] σ (fun rv σ2 => G 49 [some (2, 93, 0), some (0, 0, a1), some (0, 0, a2), some (0, 0, a3), some (0, 0, a4)] (rv.toList ++ [(0, 0, a3), (0, 0, a2), (0, 0, a1), (2, 93, 0)]) σ2))) : G 36 [some (2, 93, 0), some (0, 0, a1), some (0, 0, a2), some (0, 0, a3), some (0, 0, a4)] [(0, 0, b0)] σ := fw_on hG [10, 20, 27, 36, 49, 52] 200 h
theorem fs_m_begins_49 {G : fw_K} {R : fw_KR} (hG : fw_cls st_m_begins R G) {a1 a2 a3 a4 b0 b1 b2 b3 : Int} {σ : ab_SG} (h : sp_m_likes [(2, 93, 0), (0, 0, b3), (0, 0, b2), (0, 0, b1), (0, 0, b0)] σ (fun rv σ2 => G 52 [some (2, 93, 0), some (0, 0, a1), some (0, 0, a2), some (0, 0, a3), some (0, 0, a4)] (rv.toList ++ []) σ2)) : G 49 [some (2, 93, 0), some (0, 0, a1), some (0, 0, a2), some (0, 0, a3), some (0, 0, a4)] [(0, 0, b0), (0, 0, b1), (0, 0, b2), (0, 0, b3), (2, 93, 0)] σ := fw_on hG [10, 20, 27, 36, 49, 52] 200 h
theorem fs_m_begins_52 {G : fw_K} {R : fw_KR} (hG : fw_cls st_m_begins R G) {a1 a2 a3 a4 b0 : Int} {σ : ab_SG} (h : R (some (0, 0, b0)) σ) : G 52 [some (2, 93, 0), some (0, 0, a1), some (0, 0, a2), some (0, 0, a3), some (0, 0, a4)] [(0, 0, b0)] σ := fw_on hG [10, 20, 27, 36, 49, 52] 200 h
abbrev fk_m_alike : List fw_CR := [(267, 1, true, 11, 1, sp_m_isTune), (291, 3, true, 11, 3, sp_m_likeNotes), (297, 1, false, 0, 1, sp_m_isHow)]
abbrev st_m_alike : fw_K → fw_KR → fw_K := fw_st vwCl nn_sh nn_kd fw_kv fw_wc (nn_KI20.map (fun x => x.1)) (nn_KJ20.map (fun x => x.1)) (nn_PF20.map (fun x => x.1)) (nn_PS20.map (fun x => x.1)) fk_m_alike 4 nn_dt265 4 0
theorem fs_m_alike_0 {G : fw_K} {R : fw_KR} (hG : fw_cls st_m_alike R G) {x y w : Int} {σ : ab_SG} (h : sp_m_isTune [(2, 93, 0), (0, 0, x)] (ab_ups σ 93 0 (fw_c 0)) (fun rv σ2 => G 10 [some (2, 93, 0), some (0, 0, x), some (0, 0, y), some (0, 0, w)] (rv.toList ++ []) σ2)) : G 0 [some (2, 93, 0), some (0, 0, x), some (0, 0, y), some (0, 0, w)] [] σ := fw_on hG [10, 18, 25, 35] 200 h
theorem fs_m_alike_10 {G : fw_K} {R : fw_KR} (hG : fw_cls st_m_alike R G) {a1 a2 a3 b0 : Int} {σ : ab_SG} (h : (fw_c b0 = 0 → R (some (0, 0, (-1))) σ) ∧ (fw_c b0 ≠ 0 → sp_m_isTune [(2, 93, 0), (0, 0, a2)] σ (fun rv σ2 => G 18 [some (2, 93, 0), some (0, 0, a1), some (0, 0, a2), some (0, 0, a3)] (rv.toList ++ []) σ2))) : G 10 [some (2, 93, 0), some (0, 0, a1), some (0, 0, a2), some (0, 0, a3)] [(0, 0, b0)] σ := fw_on hG [10, 18, 25, 35] 200 h
theorem fs_m_alike_18 {G : fw_K} {R : fw_KR} (hG : fw_cls st_m_alike R G) {a1 a2 a3 b0 : Int} {σ : ab_SG} (h : (fw_c b0 = 0 → R (some (0, 0, (-1))) σ) ∧ (fw_c b0 ≠ 0 → sp_m_isHow [(0, 0, a3)] σ (fun rv σ2 => G 25 [some (2, 93, 0), some (0, 0, a1), some (0, 0, a2), some (0, 0, a3)] (rv.toList ++ []) σ2))) : G 18 [some (2, 93, 0), some (0, 0, a1), some (0, 0, a2), some (0, 0, a3)] [(0, 0, b0)] σ := fw_on hG [10, 18, 25, 35] 200 h
theorem fs_m_alike_25 {G : fw_K} {R : fw_KR} (hG : fw_cls st_m_alike R G) {a1 a2 a3 b0 : Int} {σ : ab_SG} (h : (fw_c b0 = 0 → R (some (0, 0, (-1))) σ) ∧ (fw_c b0 ≠ 0 → sp_m_likeNotes [(2, 93, 0), (0, 0, a1), (0, 0, a2), (0, 0, a3)] σ (fun rv σ2 => G 35 [some (2, 93, 0), some (0, 0, a1), some (0, 0, a2), some (0, 0, a3)] (rv.toList ++ []) σ2))) : G 25 [some (2, 93, 0), some (0, 0, a1), some (0, 0, a2), some (0, 0, a3)] [(0, 0, b0)] σ := fw_on hG [10, 18, 25, 35] 200 h
theorem fs_m_alike_35 {G : fw_K} {R : fw_KR} (hG : fw_cls st_m_alike R G) {a1 a2 a3 b0 : Int} {σ : ab_SG} (h : R (some (0, 0, b0)) σ) : G 35 [some (2, 93, 0), some (0, 0, a1), some (0, 0, a2), some (0, 0, a3)] [(0, 0, b0)] σ := fw_on hG [10, 18, 25, 35] 200 h

section
variable {l : Launch} {cy : Nat → ClassId} {ad wr cr : Nat → Nat} {D : va_G}
theorem fm_sharedNotes3 (hinj : nn_inj ad) : fw_H l cy ad wr cr D 75 1 sp_sharedNotes3 := fw_mk hinj (⟨"NameNotes$Studio", "sharedNotes", "(III)I"⟩, prog_8_method_22_code, 4, (Option.some Jvm.ClassFile.FieldType.int), 3, true, 0) rfl rfl nn_KI6_ok nn_KJ6_ok nn_PF6_ok nn_PS6_ok (by decide +kernel) rfl rfl (List.forall_mem_cons.mpr ⟨fw_row nn_PM6_ok (x := 92) (k := 2) (mn := 29) (np := 2) (ob := false) (ci := 0) (⟨"NameNotes", "at", "([II)I"⟩, prog_1_method_84_code, 2, (Option.some Jvm.ClassFile.FieldType.int), 2, false, 0) rfl (by decide +kernel) rfl rfl (by decide) (fun q => by cases q) (fm_atn hinj), (List.forall_mem_cons.mpr ⟨fw_row nn_PM6_ok (x := 122) (k := 0) (mn := 42) (np := 3) (ob := false) (ci := 0) (⟨"NameNotes$Studio", "pair", "(III)I"⟩, prog_8_method_21_code, 3, (Option.some Jvm.ClassFile.FieldType.int), 3, false, 0) rfl (by decide +kernel) rfl rfl (by decide) (fun q => by cases q) (fm_pair hinj), (fun _ h => absurd h List.not_mem_nil)⟩)⟩) (fun as σ K h => by
  obtain ⟨A, x, y, w, rfl, hN, hx, hy, hw, h⟩ := h
  have n := N_n hN.1
  have e : fw_c (((w : Int) * 9 + (x : Int)) * 9 + (y : Int)) = (((w * 9 + x) * 9 + y : Nat) : Int) := by rw [fw_c_id (by omega) (by omega)]; omega
  refine ⟨rfl, fun G hG => fs_sharedNotes3_0 hG ⟨_, _, _, rfl, fs_sharedNotes3_10 hG ⟨(7, 324), by decide, _, rfl, fun _ => fs_sharedNotes3_13 hG ?_, fun z => absurd (by rw [e]; exact ⟨Int.natCast_nonneg _, by omega⟩) z⟩⟩⟩
  rw [e, Int.toNat_natCast, NC_sh hN hw hx hy]
  exact h)
theorem fm_likes3 (hinj : nn_inj ad) : fw_H l cy ad wr cr D 74 2 sp_likes3 := fw_mk hinj (⟨"NameNotes$Studio", "likes", "(IIII)I"⟩, prog_8_method_23_code, 7, (Option.some Jvm.ClassFile.FieldType.int), 4, true, 0) rfl rfl nn_KI6_ok nn_KJ6_ok nn_PF6_ok nn_PS6_ok (by decide +kernel) rfl rfl (List.forall_mem_cons.mpr ⟨fw_row nn_PM6_ok (x := 133) (k := 2) (mn := 34) (np := 2) (ob := false) (ci := 0) (⟨"NameNotes", "has", "(II)Z"⟩, prog_1_method_80_code, 2, (Option.some Jvm.ClassFile.FieldType.boolean), 2, false, 1) rfl (by decide +kernel) rfl rfl (by decide) (fun q => by cases q) (fm_has hinj), (List.forall_mem_cons.mpr ⟨fw_row nn_PM6_ok (x := 136) (k := 0) (mn := 75) (np := 3) (ob := true) (ci := 6) (⟨"NameNotes$Studio", "sharedNotes", "(III)I"⟩, prog_8_method_22_code, 4, (Option.some Jvm.ClassFile.FieldType.int), 3, true, 0) rfl (by decide +kernel) rfl rfl (by decide) (fun _ => ⟨_, _, rfl⟩) (fm_sharedNotes3 hinj), (fun _ h => absurd h List.not_mem_nil)⟩)⟩) (fun as σ K h => by
  obtain ⟨A, x, n, w, s, rfl, hN, hx, hn, hw, h⟩ := h
  have nn := N_n hN.1
  obtain ⟨N, eN⟩ := Int.eq_ofNat_of_zero_le nn.1.1
  rw [eN, Int.toNat_natCast] at h
  have eT : fw_c (σ 3 11) = (N : Int) := by rw [(NC_n hN).1, eN]; exact fw_s (by omega) (by omega)
  refine ⟨rfl, fun G hG => fs_likes3_0 hG ?_⟩
  have loop : ∀ (f y : Nat), y + f = N → G 6 [some (2, 3, 0), some (0, 0, (x : Int)), some (0, 0, n), some (0, 0, (w : Int)), some (0, 0, s), some (0, 0, v_lk A (x : Int) n (w : Int) s y), some (0, 0, (y : Int))] [] σ := by
    intro f
    induction f with
    | zero =>
      intro y hy
      have e : y = N := by omega
      subst e
      refine fs_likes3_6 hG ?_
      rw [eT, fw_s (x := (y : Int)) (by omega) (by omega)]
      exact ⟨fun _ => h, fun z => absurd z (Int.lt_irrefl _)⟩
    | succ f ih =>
      intro y hy
      have ey : fw_c (y : Int) = (y : Int) := fw_s (by omega) (by omega)
      have h9 := ih (y + 1) (by omega)
      rw [v_lk_s] at h9
      have hc := pr_cs_in (A := A) (x := (x : Int)) (y := (y : Int)) (w := (w : Int)) 9 0
      refine fs_likes3_6 hG ?_
      rw [eT, ey]
      refine ⟨fun z => absurd z (by omega), fun _ => ⟨s, (y : Int), rfl, by rw [ey]; omega, fs_likes3_22 hG ⟨fun z => fs_likes3_46 hG ?_, fun z => ⟨A, x, y, w, rfl, hN, hx, by omega, hw, fs_likes3_33 hG ?_⟩⟩⟩⟩
      · rw [if_neg (fun q => fw_bo_eq z (hs_t q.1))] at h9
        exact h9
      · rw [fw_s (x := n) (by omega) (by omega), fw_s (x := pr_cs A (x : Int) (y : Int) (w : Int) 9 0) (by omega) (by omega)]
        refine ⟨fun q => fs_likes3_46 hG ?_, fun q => fs_likes3_46 hG ?_⟩
        · rw [if_neg (fun q2 => absurd q2.2 (by omega))] at h9
          exact h9
        · rw [if_pos ⟨hs_of (fw_bo_ne z), q⟩] at h9
          exact h9
  exact loop N 0 (Nat.zero_add _))
theorem fm_isBid (hinj : nn_inj ad) : fw_H l cy ad wr cr D 71 0 sp_isBid := fw_mk hinj (⟨"NameNotes", "isBid", "(I)Z"⟩, prog_1_method_72_code, 1, (Option.some Jvm.ClassFile.FieldType.boolean), 1, false, 1) rfl rfl nn_KI1_ok nn_KJ1_ok nn_PF1_ok nn_PS1_ok (by decide +kernel) rfl rfl (fun _ h => absurd h List.not_mem_nil) (fun as σ K h => by
  obtain ⟨n, rfl, en, h⟩ := h
  refine ⟨rfl, fun G hG => fs_isBid_0 hG ?_⟩
  rw [en, fw_c1, fw_s (x := 9) (by decide) (by decide)]
  refine ⟨fun q => ⟨fw_01, ?_⟩, fun q => ⟨fun q2 => ⟨fw_01, ?_⟩, fun q2 => ⟨by decide, ?_⟩⟩⟩
  · rw [fw_bo_f (fun z => by omega)] at h
    exact h
  · rw [fw_bo_f (fun z => by omega)] at h
    exact h
  · rw [fw_bo_t ⟨q, q2⟩] at h
    exact h)
theorem fm_isHow (hinj : nn_inj ad) : fw_H l cy ad wr cr D 72 0 sp_isHow := fw_mk hinj (⟨"NameNotes", "isHow", "(I)Z"⟩, prog_1_method_73_code, 1, (Option.some Jvm.ClassFile.FieldType.boolean), 1, false, 1) rfl rfl nn_KI1_ok nn_KJ1_ok nn_PF1_ok nn_PS1_ok (by decide +kernel) rfl rfl (fun _ h => absurd h List.not_mem_nil) (fun as σ K h => by
  obtain ⟨w, rfl, ew, h⟩ := h
  refine ⟨rfl, fun G hG => fs_isHow_0 hG ?_⟩
  rw [ew, fw_s (x := 4) (by decide) (by decide)]
  refine ⟨fun q => ⟨fw_01, ?_⟩, fun q => ⟨fun q2 => ⟨fw_01, ?_⟩, fun q2 => ⟨by rw [fw_c1]; decide, ?_⟩⟩⟩
  · rw [fw_bo_f (fun z => by omega)] at h
    exact h
  · rw [fw_bo_f (fun z => by omega)] at h
    exact h
  · rw [fw_bo_t ⟨q, by omega⟩] at h
    exact h)
theorem fm_isChoice3 (hinj : nn_inj ad) : fw_H l cy ad wr cr D 73 1 sp_isChoice3 := fw_mk hinj (⟨"NameNotes$Studio", "isChoice", "(I)Z"⟩, prog_8_method_7_code, 2, (Option.some Jvm.ClassFile.FieldType.boolean), 1, true, 1) rfl rfl nn_KI6_ok nn_KJ6_ok nn_PF6_ok nn_PS6_ok (by decide +kernel) rfl rfl (List.forall_mem_cons.mpr ⟨fw_row nn_PM6_ok (x := 84) (k := 0) (mn := 63) (np := 1) (ob := true) (ci := 6) (⟨"NameNotes$Studio", "isClue", "(I)Z"⟩, prog_8_method_5_code, 2, (Option.some Jvm.ClassFile.FieldType.boolean), 1, true, 1) rfl (by decide +kernel) rfl rfl (by decide) (fun _ => ⟨_, _, rfl⟩) (fm_isClue3 hinj), (fun _ h => absurd h List.not_mem_nil)⟩) (fun as σ K h => by
  obtain ⟨A, c, rfl, ec, hN, h⟩ := h
  have n := N_n hN.1
  refine ⟨rfl, fun G hG => fs_isChoice3_0 hG ?_⟩
  rw [ec, fw_s (x := -1) (by decide) (by decide)]
  refine ⟨fun q => ⟨by rw [fw_c1]; decide, ?_⟩, fun q => ⟨A, c, rfl, ec, hN, fs_isChoice3_10 hG ⟨fun z => ⟨fw_01, ?_⟩, fun z => ⟨by rw [fw_c1]; decide, ?_⟩⟩⟩⟩
  · rw [fw_bo_t ⟨by omega, by omega⟩] at h
    exact h
  · have := fw_bo_eq z
    rw [fw_bo_f (fun y => this ⟨by omega, y.2⟩)] at h
    exact h
  · have := fw_bo_ne z
    rw [fw_bo_t ⟨by omega, this.2⟩] at h
    exact h)
theorem fm_begins (hinj : nn_inj ad) : fw_H l cy ad wr cr D 70 3 sp_begins := fw_mk hinj (⟨"NameNotes", "begins", "(IIII)I"⟩, prog_1_method_12_code, 5, (Option.some Jvm.ClassFile.FieldType.int), 4, true, 0) rfl rfl nn_KI1_ok nn_KJ1_ok nn_PF1_ok nn_PS1_ok (by decide +kernel) rfl rfl (List.forall_mem_cons.mpr ⟨fw_row nn_PM1_ok (x := 157) (k := 0) (mn := 46) (np := 1) (ob := true) (ci := 6) (⟨"NameNotes$Studio", "isTune", "(I)Z"⟩, prog_8_method_4_code, 2, (Option.some Jvm.ClassFile.FieldType.boolean), 1, true, 1) rfl (by decide +kernel) rfl rfl (by decide) (fun _ => ⟨_, _, rfl⟩) (fm_isTune3 hinj), (List.forall_mem_cons.mpr ⟨fw_row nn_PM1_ok (x := 169) (k := 0) (mn := 64) (np := 1) (ob := true) (ci := 6) (⟨"NameNotes$Studio", "setOf", "(I)I"⟩, prog_8_method_8_code, 2, (Option.some Jvm.ClassFile.FieldType.int), 1, true, 0) rfl (by decide +kernel) rfl rfl (by decide) (fun _ => ⟨_, _, rfl⟩) (fm_setOf3 hinj), (List.forall_mem_cons.mpr ⟨fw_row nn_PM1_ok (x := 184) (k := 0) (mn := 71) (np := 1) (ob := false) (ci := 0) (⟨"NameNotes", "isBid", "(I)Z"⟩, prog_1_method_72_code, 1, (Option.some Jvm.ClassFile.FieldType.boolean), 1, false, 1) rfl (by decide +kernel) rfl rfl (by decide) (fun q => by cases q) (fm_isBid hinj), (List.forall_mem_cons.mpr ⟨fw_row nn_PM1_ok (x := 187) (k := 0) (mn := 72) (np := 1) (ob := false) (ci := 0) (⟨"NameNotes", "isHow", "(I)Z"⟩, prog_1_method_73_code, 1, (Option.some Jvm.ClassFile.FieldType.boolean), 1, false, 1) rfl (by decide +kernel) rfl rfl (by decide) (fun q => by cases q) (fm_isHow hinj), (List.forall_mem_cons.mpr ⟨fw_row nn_PM1_ok (x := 190) (k := 0) (mn := 73) (np := 1) (ob := true) (ci := 6) (⟨"NameNotes$Studio", "isChoice", "(I)Z"⟩, prog_8_method_7_code, 2, (Option.some Jvm.ClassFile.FieldType.boolean), 1, true, 1) rfl (by decide +kernel) rfl rfl (by decide) (fun _ => ⟨_, _, rfl⟩) (fm_isChoice3 hinj), (List.forall_mem_cons.mpr ⟨fw_row nn_PM1_ok (x := 193) (k := 0) (mn := 74) (np := 4) (ob := true) (ci := 6) (⟨"NameNotes$Studio", "likes", "(IIII)I"⟩, prog_8_method_23_code, 7, (Option.some Jvm.ClassFile.FieldType.int), 4, true, 0) rfl (by decide +kernel) rfl rfl (by decide) (fun _ => ⟨_, _, rfl⟩) (fm_likes3 hinj), (fun _ h => absurd h List.not_mem_nil)⟩)⟩)⟩)⟩)⟩)⟩) (fun as σ K h => by
  obtain ⟨A, x, n, w, c, rfl, ⟨ex, en, ew, ec⟩, hN, h⟩ := h
  unfold v_begins at h
  refine ⟨rfl, fun G hG => fs_begins_0 hG ⟨x, rfl, fs_begins_8 hG ?_⟩⟩
  rw [c_tu_v hN ex]
  refine ⟨fun q => ?_, fun q1 => ⟨n, rfl, en, fs_begins_15 hG ⟨fun q => ?_, fun q2 => ⟨w, rfl, ew, fs_begins_22 hG ⟨fun q => ?_, fun q3 => ⟨A, c, rfl, ec, hN, fs_begins_34 hG ⟨fun q4 => ?_, fun q => ?_⟩⟩⟩⟩⟩⟩⟩
  · rw [if_neg (fun z => fw_bo_eq q z.1)] at h
    exact h
  · rw [if_neg (fun z => fw_bo_eq q z.2.1)] at h
    exact h
  · rw [if_neg (fun z => fw_bo_eq q z.2.2.1)] at h
    exact h
  · have h1 := fw_bo_ne q1
    have h2 := fw_bo_ne q2
    have h3 := fw_bo_ne q3
    have h4 := fw_bo_ne q4
    rw [if_pos ⟨h1, h2, h3, h4⟩] at h
    obtain ⟨x', rfl⟩ := Int.eq_ofNat_of_zero_le h1.1
    obtain ⟨w', rfl⟩ := Int.eq_ofNat_of_zero_le h3.1
    exact ⟨A, c, rfl, hN, h4, fs_begins_55 hG ⟨A, x', n, w', _, rfl, hN, h1.2, h2, by omega, fs_begins_58 hG h⟩⟩
  · rw [if_neg (fun z => fw_bo_eq q z.2.2.2)] at h
    exact h)
theorem fm_alike (hinj : nn_inj ad) : fw_H l cy ad wr cr D 142 2 sp_alike := fw_mk hinj (⟨"NameNotes", "alike", "(III)I"⟩, prog_1_method_41_code, 4, (Option.some Jvm.ClassFile.FieldType.int), 3, true, 0) rfl rfl nn_KI1_ok nn_KJ1_ok nn_PF1_ok nn_PS1_ok (by decide +kernel) rfl rfl (List.forall_mem_cons.mpr ⟨fw_row nn_PM1_ok (x := 157) (k := 0) (mn := 46) (np := 1) (ob := true) (ci := 6) (⟨"NameNotes$Studio", "isTune", "(I)Z"⟩, prog_8_method_4_code, 2, (Option.some Jvm.ClassFile.FieldType.boolean), 1, true, 1) rfl (by decide +kernel) rfl rfl (by decide) (fun _ => ⟨_, _, rfl⟩) (fm_isTune3 hinj), (List.forall_mem_cons.mpr ⟨fw_row nn_PM1_ok (x := 187) (k := 0) (mn := 72) (np := 1) (ob := false) (ci := 0) (⟨"NameNotes", "isHow", "(I)Z"⟩, prog_1_method_73_code, 1, (Option.some Jvm.ClassFile.FieldType.boolean), 1, false, 1) rfl (by decide +kernel) rfl rfl (by decide) (fun q => by cases q) (fm_isHow hinj), (List.forall_mem_cons.mpr ⟨fw_row nn_PM1_ok (x := 365) (k := 0) (mn := 75) (np := 3) (ob := true) (ci := 6) (⟨"NameNotes$Studio", "sharedNotes", "(III)I"⟩, prog_8_method_22_code, 4, (Option.some Jvm.ClassFile.FieldType.int), 3, true, 0) rfl (by decide +kernel) rfl rfl (by decide) (fun _ => ⟨_, _, rfl⟩) (fm_sharedNotes3 hinj), (fun _ h => absurd h List.not_mem_nil)⟩)⟩)⟩) (fun as σ K h => by
  obtain ⟨A, x, y, w, rfl, ⟨ex, ey, ew⟩, hN, h⟩ := h
  unfold v_alike at h
  refine ⟨rfl, fun G hG => fs_alike_0 hG ⟨x, rfl, fs_alike_8 hG ?_⟩⟩
  rw [c_tu_v hN ex]
  refine ⟨fun q => ?_, fun q1 => ⟨y, rfl, fs_alike_19 hG ?_⟩⟩
  · rw [if_neg (fun z => fw_bo_eq q z.1)] at h
    exact h
  · rw [c_tu_v hN ey]
    refine ⟨fun q => ?_, fun q2 => ⟨w, rfl, ew, fs_alike_26 hG ⟨fun q3 => ?_, fun q => ?_⟩⟩⟩
    · rw [if_neg (fun z => fw_bo_eq q z.2.1)] at h
      exact h
    · have h1 := fw_bo_ne q1
      have h2 := fw_bo_ne q2
      have h3 := fw_bo_ne q3
      rw [if_pos ⟨h1, h2, h3⟩] at h
      obtain ⟨x', rfl⟩ := Int.eq_ofNat_of_zero_le h1.1
      obtain ⟨y', rfl⟩ := Int.eq_ofNat_of_zero_le h2.1
      obtain ⟨w', rfl⟩ := Int.eq_ofNat_of_zero_le h3.1
      exact ⟨A, x', y', w', rfl, hN, h1.2, h2.2, by omega, fs_alike_41 hG h⟩
    · rw [if_neg (fun z => fw_bo_eq q z.2.2)] at h
      exact h)
theorem fm_m_isLikeNote (hinj : nn_inj ad) : fw_H l cy ad wr cr D 259 2 sp_m_isLikeNote := fw_mk hinj (⟨"NameNotesModel", "isLikeNote", "(IIII)Z"⟩, prog_14_method_57_code, 7, (Option.some Jvm.ClassFile.FieldType.boolean), 4, true, 1) rfl rfl nn_KI20_ok nn_KJ20_ok nn_PF20_ok nn_PS20_ok (by decide +kernel) rfl rfl (List.forall_mem_cons.mpr ⟨fw_row nn_PM20_ok (x := 270) (k := 0) (mn := 241) (np := 1) (ob := true) (ci := 11) (⟨"NameNotesModel", "notes", "(I)I"⟩, prog_14_method_45_code, 2, (Option.some Jvm.ClassFile.FieldType.int), 1, true, 0) rfl (by decide +kernel) rfl rfl (by decide) (fun _ => ⟨_, _, rfl⟩) (fm_m_notes hinj), (List.forall_mem_cons.mpr ⟨fw_row nn_PM20_ok (x := 273) (k := 0) (mn := 242) (np := 3) (ob := true) (ci := 11) (⟨"NameNotesModel", "noteOf", "(III)I"⟩, prog_14_method_46_code, 4, (Option.some Jvm.ClassFile.FieldType.int), 3, true, 0) rfl (by decide +kernel) rfl rfl (by decide) (fun _ => ⟨_, _, rfl⟩) (fm_m_noteOf hinj), (fun _ h => absurd h List.not_mem_nil)⟩)⟩) (fun as σ K h => by
  obtain ⟨A, x, y, i, w, rfl, hN, hx, hy, hi, hw, h⟩ := h
  obtain ⟨x9, x1, x2⟩ := N_sz hN.1 hN.2.1 hx
  obtain ⟨y9, y1, y2⟩ := N_sz hN.1 hN.2.1 hy
  have yes : pr_sn A (x : Int) (y : Int) (i : Int) (w : Int) → K (some (0, 0, 1)) σ := fun q => by
    rw [fw_bo_t q] at h
    exact h
  have no : ¬ pr_sn A (x : Int) (y : Int) (i : Int) (w : Int) → K (some (0, 0, 0)) σ := fun q => by
    rw [fw_bo_f q] at h
    exact h
  have ei : fw_c (i : Int) = (i : Int) := fw_s (by omega) (by omega)
  have zx : σ 95 (5 + 19 * x) = A 52 x := NM_sz hN hx
  have zy : σ 95 (5 + 19 * y) = A 52 y := NM_sz hN hy
  have cx : fw_c (A 52 x) = A 52 x := fw_s (by omega) (by omega)
  have cy : fw_c (A 52 y) = A 52 y := fw_s (by omega) (by omega)
  have e11 : 0 ≤ fw_c 1 ∧ fw_c 1 ≤ 1 := by rw [fw_c1]; decide
  refine ⟨rfl, fun G hG => fs_m_isLikeNote_0 hG ⟨x, rfl, x9, fs_m_isLikeNote_6 hG ?_⟩⟩
  have bad : ¬ ((i : Int) < A 52 x ∧ (i : Int) < A 52 y) → G 18 [some (2, 93, 0), some (0, 0, (x : Int)), some (0, 0, (y : Int)), some (0, 0, (i : Int)), some (0, 0, (w : Int)), none, none] [] σ := fun hb => by
    have sn := sn_no (w := w) hx hy hb
    refine fs_m_isLikeNote_18 hG ⟨x, rfl, x9, fs_m_isLikeNote_24 hG ?_⟩
    rw [zx, ei, cx]
    refine ⟨fun q => ⟨fw_01, no (fun z => hb ⟨q, (sn.mp z).mp q⟩)⟩, fun q => ⟨y, rfl, y9, fs_m_isLikeNote_33 hG ?_⟩⟩
    rw [zy, ei, cy]
    exact ⟨fun q2 => ⟨fw_01, no (fun z => hb ⟨(sn.mp z).mpr q2, q2⟩)⟩, fun q2 => ⟨e11, yes (sn.mpr ⟨fun a => absurd a (by omega), fun a => absurd a (by omega)⟩)⟩⟩
  rw [zx, ei, cx]
  refine ⟨fun q => bad (fun z => absurd z.1 (by omega)), fun qx => ⟨y, rfl, y9, fs_m_isLikeNote_15 hG ?_⟩⟩
  rw [zy, ei, cy]
  refine ⟨fun qy => ?_, fun q => bad (fun z => absurd z.2 (by omega))⟩
  have sn := sn_yes (w := w) hx hy qx qy
  have px := NM_nt hN hx qx
  have py := NM_nt hN hy qy
  have px0 := NM_nt hN hx (i := 0) (by omega)
  have py0 := NM_nt hN hy (i := 0) (by omega)
  have i0 : ∀ z j : Nat, 6 + 0 + 19 * z + 2 * j = 6 + 19 * z + 2 * j := fun z j => by omega
  have i1 : ∀ z j : Nat, 6 + 1 + 19 * z + 2 * j = 7 + 19 * z + 2 * j := fun z j => by omega
  refine ⟨x, i, 0, rfl, x9, hi, by decide, fs_m_isLikeNote_49 hG ⟨y, i, 0, rfl, y9, hi, by decide, fs_m_isLikeNote_56 hG ?_⟩⟩
  rw [i0, i0, px.1, py.1]
  -- both bits: P of the pitch, B of the length
  have rest : ∀ P : Int, (P = 0 ∨ P = 1) → (P = 1 ↔ fw_c (A 50 (x * 9 + i)) = fw_c (A 50 (y * 9 + i))) → G 64 [some (2, 93, 0), some (0, 0, (x : Int)), some (0, 0, (y : Int)), some (0, 0, (i : Int)), some (0, 0, (w : Int)), none, none] [(0, 0, P)] σ := by
    intro P hP eP
    have cP : fw_c P = P := fw_s (by omega) (by omega)
    have rest2 : ∀ B : Int, (B = 0 ∨ B = 1) → (B = 1 ↔ fw_c (A 51 (x * 9 + i)) = fw_c (A 51 (y * 9 + i))) → G 88 [some (2, 93, 0), some (0, 0, (x : Int)), some (0, 0, (y : Int)), some (0, 0, (i : Int)), some (0, 0, (w : Int)), some (0, 0, P), none] [(0, 0, B)] σ := by
      intro B hB eB
      have cB : fw_c B = B := fw_s (by omega) (by omega)
      refine fs_m_isLikeNote_88 hG ?_
      rw [fw_s (x := (w : Int)) (by omega) (by omega), fw_s (x := 3) (by decide) (by decide), fw_c1, cP, cB]
      refine ⟨fun w3 => ⟨fun w0 => ⟨fun w1 => ⟨by omega, ?_⟩, fun w1 => ⟨by omega, ?_⟩⟩, fun w0 => ⟨fun p0 => ⟨fw_01, ?_⟩, fun p0 => ⟨fun b0 => ⟨fw_01, ?_⟩, fun b0 => ⟨by decide, ?_⟩⟩⟩⟩, fun w3 => ?_⟩
      · rw [if_neg w3] at sn
        rcases hB with hB | hB
        · rw [hB]
          exact no (fun z => absurd (eB.mpr ((sn.mp z).2.resolve_left w1)) (by omega))
        · rw [hB]
          exact yes (sn.mpr ⟨Or.inl (by omega), Or.inr (eB.mp hB)⟩)
      · rw [if_neg w3] at sn
        rcases hP with hP | hP
        · rw [hP]
          exact no (fun z => absurd (eP.mpr ((sn.mp z).1.resolve_left (by omega))) (by omega))
        · rw [hP]
          exact yes (sn.mpr ⟨Or.inr (eP.mp hP), Or.inl w1⟩)
      · rw [if_neg w3] at sn
        exact no (fun z => absurd (eP.mpr ((sn.mp z).1.resolve_left (by omega))) (by omega))
      · rw [if_neg w3] at sn
        exact no (fun z => absurd (eB.mpr ((sn.mp z).2.resolve_left (by omega))) (by omega))
      · rw [if_neg w3] at sn
        exact yes (sn.mpr ⟨Or.inr (eP.mp (by omega)), Or.inr (eB.mp (by omega))⟩)
      · rw [if_pos w3] at sn
        refine ⟨x, i, 0, rfl, x9, hi, by decide, fs_m_isLikeNote_103 hG ⟨x, 0, 0, rfl, x9, by decide, by decide, fs_m_isLikeNote_110 hG ⟨y, i, 0, rfl, y9, hi, by decide, fs_m_isLikeNote_118 hG ⟨y, 0, 0, rfl, y9, by decide, by decide, fs_m_isLikeNote_125 hG ?_⟩⟩⟩⟩
        rw [i0, i0, i0, i0, px.1, py.1, px0.1, py0.1]
        exact ⟨fun z => ⟨fw_01, no (fun q => z (sn.mp q))⟩, fun z => ⟨e11, yes (sn.mpr z)⟩⟩
    refine fs_m_isLikeNote_64 hG ⟨x, i, 1, rfl, x9, hi, by decide, fs_m_isLikeNote_73 hG ⟨y, i, 1, rfl, y9, hi, by decide, fs_m_isLikeNote_80 hG ?_⟩⟩
    rw [i1, i1, px.2, py.2]
    exact ⟨fun z => rest2 0 (Or.inl rfl) ⟨fun a => absurd a (by decide), fun a => absurd a z⟩, fun z => rest2 1 (Or.inr rfl) ⟨fun _ => z, fun _ => rfl⟩⟩
  exact ⟨fun z => rest 0 (Or.inl rfl) ⟨fun a => absurd a (by decide), fun a => absurd a z⟩, fun z => rest 1 (Or.inr rfl) ⟨fun _ => z, fun _ => rfl⟩⟩)
theorem fm_m_likeNotes (hinj : nn_inj ad) : fw_H l cy ad wr cr D 258 3 sp_m_likeNotes := fw_mk hinj (⟨"NameNotesModel", "likeNotes", "(III)I"⟩, prog_14_method_58_code, 5, (Option.some Jvm.ClassFile.FieldType.int), 3, true, 0) rfl rfl nn_KI20_ok nn_KJ20_ok nn_PF20_ok nn_PS20_ok (by decide +kernel) rfl rfl (List.forall_mem_cons.mpr ⟨fw_row nn_PM20_ok (x := 287) (k := 0) (mn := 259) (np := 4) (ob := true) (ci := 11) (⟨"NameNotesModel", "isLikeNote", "(IIII)Z"⟩, prog_14_method_57_code, 7, (Option.some Jvm.ClassFile.FieldType.boolean), 4, true, 1) rfl (by decide +kernel) rfl rfl (by decide) (fun _ => ⟨_, _, rfl⟩) (fm_m_isLikeNote hinj), (fun _ h => absurd h List.not_mem_nil)⟩) (fun as σ K h => by
  obtain ⟨A, x, y, w, rfl, hN, hx, hy, hw, h⟩ := h
  refine ⟨rfl, fun G hG => fs_m_likeNotes_0 hG ?_⟩
  have loop : ∀ (f i : Nat), i + f = 9 → K (some (0, 0, pr_cs A (x : Int) (y : Int) (w : Int) f i)) σ → G 3 [some (2, 93, 0), some (0, 0, (x : Int)), some (0, 0, (y : Int)), some (0, 0, (w : Int)), some (0, 0, (i : Int))] [] σ := by
    intro f
    induction f with
    | zero =>
      intro i hi hk
      refine fs_m_likeNotes_3 hG ?_
      rw [fw_s (x := 9) (by decide) (by decide), fw_s (x := (i : Int)) (by omega) (by omega)]
      exact ⟨fun _ => hk, fun z => absurd z (by omega)⟩
    | succ f ih =>
      intro i hi hk
      rw [pr_cs_s] at hk
      refine fs_m_likeNotes_3 hG ?_
      rw [fw_s (x := 9) (by decide) (by decide), fw_s (x := (i : Int)) (by omega) (by omega)]
      refine ⟨fun z => absurd z (by omega), fun _ => ⟨A, x, y, i, w, rfl, hN, hx, hy, by omega, hw, fs_m_likeNotes_19 hG ⟨fun z => ?_, fun z => ?_⟩⟩⟩
      · rw [if_neg (fw_bo_eq z)] at hk
        exact hk
      · rw [if_pos (fw_bo_ne z)] at hk
        exact ih (i + 1) (by omega) hk
  exact loop 9 0 rfl h)
theorem fm_m_areLike (hinj : nn_inj ad) : fw_H l cy ad wr cr D 257 4 sp_m_areLike := fw_mk hinj (⟨"NameNotesModel", "areLike", "(IIII)Z"⟩, prog_14_method_59_code, 5, (Option.some Jvm.ClassFile.FieldType.boolean), 4, true, 1) rfl rfl nn_KI20_ok nn_KJ20_ok nn_PF20_ok nn_PS20_ok (by decide +kernel) rfl rfl (List.forall_mem_cons.mpr ⟨fw_row nn_PM20_ok (x := 291) (k := 0) (mn := 258) (np := 3) (ob := true) (ci := 11) (⟨"NameNotesModel", "likeNotes", "(III)I"⟩, prog_14_method_58_code, 5, (Option.some Jvm.ClassFile.FieldType.int), 3, true, 0) rfl (by decide +kernel) rfl rfl (by decide) (fun _ => ⟨_, _, rfl⟩) (fm_m_likeNotes hinj), (fun _ h => absurd h List.not_mem_nil)⟩) (fun as σ K h => by
  obtain ⟨A, x, y, n, w, rfl, hN, hx, hy, hn, hw, h⟩ := h
  have hc := pr_cs_in (A := A) (x := (x : Int)) (y := (y : Int)) (w := (w : Int)) 9 0
  refine ⟨rfl, fun G hG => fs_m_areLike_0 hG ⟨A, x, y, w, rfl, hN, hx, hy, hw, fs_m_areLike_8 hG ?_⟩⟩
  rw [fw_s (x := n) (by omega) (by omega), fw_s (x := pr_cs A (x : Int) (y : Int) (w : Int) 9 0) (by omega) (by omega)]
  refine ⟨fun q => ⟨fw_01, ?_⟩, fun q => ⟨by rw [fw_c1]; decide, ?_⟩⟩
  · rw [fw_bo_f (by omega)] at h
    exact h
  · rw [fw_bo_t q] at h
    exact h)
theorem fm_m_likes (hinj : nn_inj ad) : fw_H l cy ad wr cr D 256 5 sp_m_likes := fw_mk hinj (⟨"NameNotesModel", "likes", "(IIII)I"⟩, prog_14_method_60_code, 7, (Option.some Jvm.ClassFile.FieldType.int), 4, true, 0) rfl rfl nn_KI20_ok nn_KJ20_ok nn_PF20_ok nn_PS20_ok (by decide +kernel) rfl rfl (List.forall_mem_cons.mpr ⟨fw_row nn_PM20_ok (x := 216) (k := 0) (mn := 230) (np := 2) (ob := false) (ci := 0) (⟨"NameNotesModel", "has", "(II)Z"⟩, prog_14_method_9_code, 2, (Option.some Jvm.ClassFile.FieldType.boolean), 2, false, 1) rfl (by decide +kernel) rfl rfl (by decide) (fun q => by cases q) (fm_m_has hinj), (List.forall_mem_cons.mpr ⟨fw_row nn_PM20_ok (x := 261) (k := 0) (mn := 240) (np := 0) (ob := true) (ci := 11) (⟨"NameNotesModel", "tunes", "()I"⟩, prog_14_method_41_code, 1, (Option.some Jvm.ClassFile.FieldType.int), 0, true, 0) rfl (by decide +kernel) rfl rfl (by decide) (fun _ => ⟨_, _, rfl⟩) (fm_m_tunes hinj), (List.forall_mem_cons.mpr ⟨fw_row nn_PM20_ok (x := 294) (k := 0) (mn := 257) (np := 4) (ob := true) (ci := 11) (⟨"NameNotesModel", "areLike", "(IIII)Z"⟩, prog_14_method_59_code, 5, (Option.some Jvm.ClassFile.FieldType.boolean), 4, true, 1) rfl (by decide +kernel) rfl rfl (by decide) (fun _ => ⟨_, _, rfl⟩) (fm_m_areLike hinj), (fun _ h => absurd h List.not_mem_nil)⟩)⟩)⟩) (fun as σ K h => by
  obtain ⟨A, x, n, w, s, rfl, hN, hx, hn, hw, h⟩ := h
  have nn := N_n hN.1
  obtain ⟨N, eN⟩ := Int.eq_ofNat_of_zero_le nn.1.1
  rw [eN, Int.toNat_natCast] at h
  have eT : fw_c (σ 95 0) = (N : Int) := by rw [(NM_n hN).1, eN]; exact fw_s (by omega) (by omega)
  refine ⟨rfl, fun G hG => fs_m_likes_0 hG ?_⟩
  have loop : ∀ (f y : Nat), y + f = N → G 6 [some (2, 93, 0), some (0, 0, (x : Int)), some (0, 0, n), some (0, 0, (w : Int)), some (0, 0, s), some (0, 0, v_lk A (x : Int) n (w : Int) s y), some (0, 0, (y : Int))] [] σ := by
    intro f
    induction f with
    | zero =>
      intro y hy
      have e : y = N := by omega
      subst e
      refine fs_m_likes_6 hG ⟨rfl, fs_m_likes_12 hG ?_⟩
      rw [eT, fw_s (x := (y : Int)) (by omega) (by omega)]
      exact ⟨fun _ => h, fun z => absurd z (Int.lt_irrefl _)⟩
    | succ f ih =>
      intro y hy
      have h9 := ih (y + 1) (by omega)
      rw [v_lk_s] at h9
      refine fs_m_likes_6 hG ⟨rfl, fs_m_likes_12 hG ?_⟩
      rw [eT, fw_s (x := (y : Int)) (by omega) (by omega)]
      refine ⟨fun z => absurd z (by omega), fun _ => ⟨s, (y : Int), rfl, fs_m_likes_22 hG ⟨fun z => fs_m_likes_46 hG ?_, fun z => ⟨A, x, y, n, w, rfl, hN, hx, by omega, hn, hw, fs_m_likes_34 hG ⟨fun q => fs_m_likes_46 hG ?_, fun q => fs_m_likes_46 hG ?_⟩⟩⟩⟩⟩
      · rw [if_neg (fun q => fw_bo_eq z q.1)] at h9
        exact h9
      · rw [if_neg (fun q2 => fw_bo_eq q q2.2)] at h9
        exact h9
      · rw [if_pos ⟨fw_bo_ne z, fw_bo_ne q⟩] at h9
        exact h9
  exact loop N 0 (Nat.zero_add _))
theorem fm_m_isHow (hinj : nn_inj ad) : fw_H l cy ad wr cr D 253 1 sp_m_isHow := fw_mk hinj (⟨"NameNotesModel", "isHow", "(I)Z"⟩, prog_14_method_61_code, 1, (Option.some Jvm.ClassFile.FieldType.boolean), 1, false, 1) rfl rfl nn_KI20_ok nn_KJ20_ok nn_PF20_ok nn_PS20_ok (by decide +kernel) rfl rfl (List.forall_mem_cons.mpr ⟨fw_row nn_PM20_ok (x := 171) (k := 0) (mn := 226) (np := 3) (ob := false) (ci := 0) (⟨"NameNotesModel", "isIn", "(III)Z"⟩, prog_14_method_8_code, 3, (Option.some Jvm.ClassFile.FieldType.boolean), 3, false, 1) rfl (by decide +kernel) rfl rfl (by decide) (fun q => by cases q) (fm_m_isIn hinj), (fun _ h => absurd h List.not_mem_nil)⟩) (fun as σ K h => by
  obtain ⟨w, rfl, ew, h⟩ := h
  refine ⟨rfl, fun G hG => fs_m_isHow_0 hG ⟨w, 0, 3, rfl, fs_m_isHow_6 hG ⟨fw_bo_in, ?_⟩⟩⟩
  by_cases q : 0 ≤ w ∧ w ≤ 3
  · rw [fw_bo_t q] at h
    rw [fw_bo_t (by rw [ew, fw_c0, fw_s (x := 3) (by decide) (by decide)]; exact q)]
    exact h
  · rw [fw_bo_f q] at h
    rw [fw_bo_f (by rw [ew, fw_c0, fw_s (x := 3) (by decide) (by decide)]; exact q)]
    exact h)
theorem fm_m_isLeft (hinj : nn_inj ad) : fw_H l cy ad wr cr D 254 1 sp_m_isLeft := fw_mk hinj (⟨"NameNotesModel", "isLeft", "(I)Z"⟩, prog_14_method_48_code, 2, (Option.some Jvm.ClassFile.FieldType.boolean), 1, true, 1) rfl rfl nn_KI20_ok nn_KJ20_ok nn_PF20_ok nn_PS20_ok (by decide +kernel) rfl rfl (List.forall_mem_cons.mpr ⟨fw_row nn_PM20_ok (x := 264) (k := 0) (mn := 247) (np := 1) (ob := true) (ci := 11) (⟨"NameNotesModel", "isClue", "(I)Z"⟩, prog_14_method_43_code, 2, (Option.some Jvm.ClassFile.FieldType.boolean), 1, true, 1) rfl (by decide +kernel) rfl rfl (by decide) (fun _ => ⟨_, _, rfl⟩) (fm_m_isClue hinj), (fun _ h => absurd h List.not_mem_nil)⟩) (fun as σ K h => by
  obtain ⟨A, c, rfl, ec, hN, h⟩ := h
  have n := N_n hN.1
  refine ⟨rfl, fun G hG => fs_m_isLeft_0 hG ?_⟩
  rw [ec, fw_s (x := -1) (by decide) (by decide)]
  refine ⟨fun q => ⟨by rw [fw_c1]; decide, ?_⟩, fun q => ⟨A, c, rfl, ec, hN, fs_m_isLeft_10 hG ⟨fun z => ⟨fw_01, ?_⟩, fun z => ⟨by rw [fw_c1]; decide, ?_⟩⟩⟩⟩
  · rw [fw_bo_t ⟨by omega, by omega⟩] at h
    exact h
  · have := fw_bo_eq z
    rw [fw_bo_f (fun y => this ⟨by omega, y.2⟩)] at h
    exact h
  · have := fw_bo_ne z
    rw [fw_bo_t ⟨by omega, this.2⟩] at h
    exact h)
theorem fm_m_left (hinj : nn_inj ad) : fw_H l cy ad wr cr D 255 1 sp_m_left := fw_mk hinj (⟨"NameNotesModel", "left", "(I)I"⟩, prog_14_method_47_code, 2, (Option.some Jvm.ClassFile.FieldType.int), 1, true, 0) rfl rfl nn_KI20_ok nn_KJ20_ok nn_PF20_ok nn_PS20_ok (by decide +kernel) rfl rfl (List.forall_mem_cons.mpr ⟨fw_row nn_PM20_ok (x := 261) (k := 0) (mn := 240) (np := 0) (ob := true) (ci := 11) (⟨"NameNotesModel", "tunes", "()I"⟩, prog_14_method_41_code, 1, (Option.some Jvm.ClassFile.FieldType.int), 0, true, 0) rfl (by decide +kernel) rfl rfl (by decide) (fun _ => ⟨_, _, rfl⟩) (fm_m_tunes hinj), (fun _ h => absurd h List.not_mem_nil)⟩) (fun as σ K h => by
  obtain ⟨A, c, rfl, hN, ⟨c0, c1⟩, h⟩ := h
  have n := N_n hN.1
  unfold v_set at h
  refine ⟨rfl, fun G hG => fs_m_left_0 hG ?_⟩
  rw [fw_s (x := c) (by omega) (by omega), fw_s (x := -1) (by decide) (by decide)]
  refine ⟨fun q => ?_, fun q => ⟨rfl, fs_m_left_10 hG ?_⟩⟩
  · obtain ⟨c', rfl⟩ := Int.eq_ofNat_of_zero_le (show 0 ≤ c by omega)
    rw [if_neg q, Int.toNat_natCast] at h
    have e : fw_c (176 + (c' : Int)) = ((176 + c' : Nat) : Int) := by rw [fw_c_id (by omega) (by omega)]; omega
    rw [e, Int.toNat_natCast, NM_cl hN c1]
    exact ⟨⟨Int.natCast_nonneg _, by omega⟩, h⟩
  · obtain ⟨N, eN⟩ := Int.eq_ofNat_of_zero_le n.1.1
    rw [if_pos q] at h
    rw [(NM_n hN).1, eN, p2_sh N (by omega), ← eN]
    exact h)
theorem fm_m_begins (hinj : nn_inj ad) : fw_H l cy ad wr cr D 252 6 sp_m_begins := fw_mk hinj (⟨"NameNotesModel", "begins", "(IIII)I"⟩, prog_14_method_62_code, 5, (Option.some Jvm.ClassFile.FieldType.int), 4, true, 0) rfl rfl nn_KI20_ok nn_KJ20_ok nn_PF20_ok nn_PS20_ok (by decide +kernel) rfl rfl (List.forall_mem_cons.mpr ⟨fw_row nn_PM20_ok (x := 171) (k := 0) (mn := 226) (np := 3) (ob := false) (ci := 0) (⟨"NameNotesModel", "isIn", "(III)Z"⟩, prog_14_method_8_code, 3, (Option.some Jvm.ClassFile.FieldType.boolean), 3, false, 1) rfl (by decide +kernel) rfl rfl (by decide) (fun q => by cases q) (fm_m_isIn hinj), (List.forall_mem_cons.mpr ⟨fw_row nn_PM20_ok (x := 267) (k := 0) (mn := 239) (np := 1) (ob := true) (ci := 11) (⟨"NameNotesModel", "isTune", "(I)Z"⟩, prog_14_method_42_code, 2, (Option.some Jvm.ClassFile.FieldType.boolean), 1, true, 1) rfl (by decide +kernel) rfl rfl (by decide) (fun _ => ⟨_, _, rfl⟩) (fm_m_isTune hinj), (List.forall_mem_cons.mpr ⟨fw_row nn_PM20_ok (x := 297) (k := 0) (mn := 253) (np := 1) (ob := false) (ci := 0) (⟨"NameNotesModel", "isHow", "(I)Z"⟩, prog_14_method_61_code, 1, (Option.some Jvm.ClassFile.FieldType.boolean), 1, false, 1) rfl (by decide +kernel) rfl rfl (by decide) (fun q => by cases q) (fm_m_isHow hinj), (List.forall_mem_cons.mpr ⟨fw_row nn_PM20_ok (x := 300) (k := 0) (mn := 254) (np := 1) (ob := true) (ci := 11) (⟨"NameNotesModel", "isLeft", "(I)Z"⟩, prog_14_method_48_code, 2, (Option.some Jvm.ClassFile.FieldType.boolean), 1, true, 1) rfl (by decide +kernel) rfl rfl (by decide) (fun _ => ⟨_, _, rfl⟩) (fm_m_isLeft hinj), (List.forall_mem_cons.mpr ⟨fw_row nn_PM20_ok (x := 303) (k := 0) (mn := 255) (np := 1) (ob := true) (ci := 11) (⟨"NameNotesModel", "left", "(I)I"⟩, prog_14_method_47_code, 2, (Option.some Jvm.ClassFile.FieldType.int), 1, true, 0) rfl (by decide +kernel) rfl rfl (by decide) (fun _ => ⟨_, _, rfl⟩) (fm_m_left hinj), (List.forall_mem_cons.mpr ⟨fw_row nn_PM20_ok (x := 306) (k := 0) (mn := 256) (np := 4) (ob := true) (ci := 11) (⟨"NameNotesModel", "likes", "(IIII)I"⟩, prog_14_method_60_code, 7, (Option.some Jvm.ClassFile.FieldType.int), 4, true, 0) rfl (by decide +kernel) rfl rfl (by decide) (fun _ => ⟨_, _, rfl⟩) (fm_m_likes hinj), (fun _ h => absurd h List.not_mem_nil)⟩)⟩)⟩)⟩)⟩)⟩) (fun as σ K h => by
  obtain ⟨A, x, n, w, c, rfl, ⟨ex, en, ew, ec⟩, hN, h⟩ := h
  have hU := NM_ups (v := 0) hN
  unfold v_begins at h
  refine ⟨rfl, fun G hG => fs_m_begins_0 hG ?_⟩
  rw [fw_c0]
  refine ⟨x, rfl, fs_m_begins_10 hG ?_⟩
  rw [m_tu_v hU ex]
  refine ⟨fun q => ?_, fun q1 => ⟨n, 1, 9, rfl, fs_m_begins_20 hG ?_⟩⟩
  · rw [if_neg (fun z => fw_bo_eq q z.1)] at h
    exact h
  rw [en, fw_c1, fw_s (x := 9) (by decide) (by decide)]
  refine ⟨fun q => ?_, fun q2 => ⟨w, rfl, ew, fs_m_begins_27 hG ⟨fun q => ?_, fun q3 => ⟨A, c, rfl, ec, hU, fs_m_begins_36 hG ⟨fun q => ?_, fun q4 => ?_⟩⟩⟩⟩⟩
  · rw [if_neg (fun z => fw_bo_eq q z.2.1)] at h
    exact h
  · rw [if_neg (fun z => fw_bo_eq q z.2.2.1)] at h
    exact h
  · rw [if_neg (fun z => fw_bo_eq q z.2.2.2)] at h
    exact h
  · have h1 := fw_bo_ne q1
    have h2 := fw_bo_ne q2
    have h3 := fw_bo_ne q3
    have h4 := fw_bo_ne q4
    rw [if_pos ⟨h1, h2, h3, h4⟩] at h
    obtain ⟨x', rfl⟩ := Int.eq_ofNat_of_zero_le h1.1
    obtain ⟨w', rfl⟩ := Int.eq_ofNat_of_zero_le h3.1
    exact ⟨A, c, rfl, hU, h4, fs_m_begins_49 hG ⟨A, x', n, w', _, rfl, hU, h1.2, h2, by omega, fs_m_begins_52 hG h⟩⟩)
theorem fm_m_alike (hinj : nn_inj ad) : fw_H l cy ad wr cr D 265 4 sp_m_alike := fw_mk hinj (⟨"NameNotesModel", "alike", "(III)I"⟩, prog_14_method_68_code, 4, (Option.some Jvm.ClassFile.FieldType.int), 3, true, 0) rfl rfl nn_KI20_ok nn_KJ20_ok nn_PF20_ok nn_PS20_ok (by decide +kernel) rfl rfl (List.forall_mem_cons.mpr ⟨fw_row nn_PM20_ok (x := 267) (k := 0) (mn := 239) (np := 1) (ob := true) (ci := 11) (⟨"NameNotesModel", "isTune", "(I)Z"⟩, prog_14_method_42_code, 2, (Option.some Jvm.ClassFile.FieldType.boolean), 1, true, 1) rfl (by decide +kernel) rfl rfl (by decide) (fun _ => ⟨_, _, rfl⟩) (fm_m_isTune hinj), (List.forall_mem_cons.mpr ⟨fw_row nn_PM20_ok (x := 291) (k := 0) (mn := 258) (np := 3) (ob := true) (ci := 11) (⟨"NameNotesModel", "likeNotes", "(III)I"⟩, prog_14_method_58_code, 5, (Option.some Jvm.ClassFile.FieldType.int), 3, true, 0) rfl (by decide +kernel) rfl rfl (by decide) (fun _ => ⟨_, _, rfl⟩) (fm_m_likeNotes hinj), (List.forall_mem_cons.mpr ⟨fw_row nn_PM20_ok (x := 297) (k := 0) (mn := 253) (np := 1) (ob := false) (ci := 0) (⟨"NameNotesModel", "isHow", "(I)Z"⟩, prog_14_method_61_code, 1, (Option.some Jvm.ClassFile.FieldType.boolean), 1, false, 1) rfl (by decide +kernel) rfl rfl (by decide) (fun q => by cases q) (fm_m_isHow hinj), (fun _ h => absurd h List.not_mem_nil)⟩)⟩)⟩) (fun as σ K h => by
  obtain ⟨A, x, y, w, rfl, ⟨ex, ey, ew⟩, hN, h⟩ := h
  have hU := NM_ups (v := 0) hN
  unfold v_alike at h
  refine ⟨rfl, fun G hG => fs_m_alike_0 hG ?_⟩
  rw [fw_c0]
  refine ⟨x, rfl, fs_m_alike_10 hG ?_⟩
  rw [m_tu_v hU ex]
  refine ⟨fun q => ?_, fun q1 => ⟨y, rfl, fs_m_alike_18 hG ?_⟩⟩
  · rw [if_neg (fun z => fw_bo_eq q z.1)] at h
    exact h
  rw [m_tu_v hU ey]
  refine ⟨fun q => ?_, fun q2 => ⟨w, rfl, ew, fs_m_alike_25 hG ⟨fun q => ?_, fun q3 => ?_⟩⟩⟩
  · rw [if_neg (fun z => fw_bo_eq q z.2.1)] at h
    exact h
  · rw [if_neg (fun z => fw_bo_eq q z.2.2)] at h
    exact h
  · have h1 := fw_bo_ne q1
    have h2 := fw_bo_ne q2
    have h3 := fw_bo_ne q3
    rw [if_pos ⟨h1, h2, h3⟩] at h
    obtain ⟨x', rfl⟩ := Int.eq_ofNat_of_zero_le h1.1
    obtain ⟨y', rfl⟩ := Int.eq_ofNat_of_zero_le h2.1
    obtain ⟨w', rfl⟩ := Int.eq_ofNat_of_zero_le h3.1
    exact ⟨A, x', y', w', rfl, hU, h1.2, h2.2, by omega, fs_m_alike_35 hG h⟩)
end
