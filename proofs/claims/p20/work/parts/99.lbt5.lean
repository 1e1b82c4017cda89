/-! what is asked of a studio: notes, times, clues, tunes -/
def NC (σ A : ab_SG) : Prop := RI A ∧ nb_is A ∧ cn_is σ 3 A
def NM (σ A : ab_SG) : Prop := RI A ∧ nb_is A ∧ sr_is (mlN σ) (σ 99) A
theorem mlN_j {σ : ab_SG} {j : Nat} (h : j ≠ 3) : mlN σ j = σ 95 j := by
  unfold mlN
  exact if_neg (fun z => h z.2)
theorem NM_ups {σ A : ab_SG} {v : Int} (h : NM σ A) : NM (ab_ups σ 93 0 v) A := by
  obtain ⟨a, b, c⟩ := h
  refine ⟨a, b, ?_⟩
  have e : mlN (ab_ups σ 93 0 v) = mlN σ := by
    funext j
    unfold mlN
    rw [ab_ups_ne (fun z => absurd z.2 (by decide)), ab_ups_ne (fun z => absurd z.1 (by decide))]
  rw [e, ab_ups_row (by decide)]
  exact c
theorem NM_W {σ σm A : ab_SG} (hc : cN σ) (hi : RI A) (hn : nb_is A) (hs : sr_is (mlN σ) (σ 99) A) (hv : vW σm σ) : NM σm A := by
  have s1 := okM_self [] σ
  exact ⟨hi, hn, sr_cong hi (fun j hj _ => mlN_same (xm_at hc s1 hv (Or.inl (su93 (Or.inr rfl))) rfl) (fun j hj => xm_at hc s1 hv (Or.inr (swr (by decide) hj)) rfl) j hj) (fun j hj => xm_l hc s1 hv (slr (by decide) hj) rfl) hs⟩
theorem N_n {A : ab_SG} (h : RI A) : (0 ≤ A 49 11 ∧ A 49 11 ≤ 9) ∧ (0 ≤ A 49 12 ∧ A 49 12 ≤ 6) ∧ (0 ≤ A 49 13 ∧ A 49 13 ≤ 5) := ⟨h.1, h.2.1, h.2.2.1⟩
theorem N_sz {A : ab_SG} {x : Nat} (h : RI A) (hb : nb_is A) (hx : (x : Int) < A 49 11) : x < 9 ∧ 1 ≤ A 52 x ∧ A 52 x ≤ 9 := by
  have n := N_n h
  have a := h.2.2.2.2.2.2.1 x (by omega)
  exact ⟨by omega, (hb.1 x hx).1, a.2⟩
theorem N_nt {A : ab_SG} {x i : Nat} (hb : nb_is A) (hx : (x : Int) < A 49 11) (hi : (i : Int) < A 52 x) : (0 ≤ A 50 (x * 9 + i) ∧ A 50 (x * 9 + i) ≤ 24) ∧ (1 ≤ A 51 (x * 9 + i) ∧ A 51 (x * 9 + i) ≤ 9) := (hb.1 x hx).2 i hi
theorem N_cl {A : ab_SG} {c : Nat} (h : RI A) (hb : nb_is A) (hc : (c : Int) < A 49 12) : 1 ≤ A 54 c ∧ A 54 c < 512 := by
  have n := N_n h
  have a := hb.2.1 c hc
  have b := (p2_le (A 49 11).toNat (by omega)).1
  rw [show (((A 49 11).toNat : Nat) : Int) = A 49 11 by omega] at b
  exact ⟨a.1, by omega⟩
theorem NC_n {σ A : ab_SG} (h : NC σ A) : σ 3 11 = A 49 11 ∧ σ 3 12 = A 49 12 ∧ σ 3 13 = A 49 13 := ⟨h.2.2.1, h.2.2.2.1, h.2.2.2.2.1⟩
theorem NC_sz {σ A : ab_SG} {x : Nat} (h : NC σ A) (hx : (x : Int) < A 49 11) : σ 6 x = A 52 x := (h.2.2.2.2.2.2.1 x hx).1
theorem NC_nt {σ A : ab_SG} {x i : Nat} (h : NC σ A) (hx : (x : Int) < A 49 11) (hi : (i : Int) < A 52 x) : σ 4 (x * 9 + i) = A 50 (x * 9 + i) ∧ σ 5 (x * 9 + i) = A 51 (x * 9 + i) := (h.2.2.2.2.2.2.1 x hx).2.2 i hi
theorem NC_cl {σ A : ab_SG} {c : Nat} (h : NC σ A) (hc : (c : Int) < A 49 12) : σ 8 c = A 54 c := (h.2.2.2.2.2.2.2.1 c hc).1
theorem NM_n {σ A : ab_SG} (h : NM σ A) : σ 95 0 = A 49 11 ∧ σ 95 1 = A 49 12 ∧ σ 95 2 = A 49 13 := by
  obtain ⟨-, -, a, b, c, -⟩ := h
  rw [mlN_j (by decide)] at a b c
  exact ⟨a, b, c⟩
theorem NM_sz {σ A : ab_SG} {x : Nat} (h : NM σ A) (hx : (x : Int) < A 49 11) : σ 95 (5 + 19 * x) = A 52 x := by
  have a := (h.2.2.2.2.2.2.1 x hx).1
  rw [mlN_j (by omega)] at a
  exact a
theorem NM_nt {σ A : ab_SG} {x i : Nat} (h : NM σ A) (hx : (x : Int) < A 49 11) (hi : (i : Int) < A 52 x) : σ 95 (6 + 19 * x + 2 * i) = A 50 (x * 9 + i) ∧ σ 95 (7 + 19 * x + 2 * i) = A 51 (x * 9 + i) := by
  have a := (h.2.2.2.2.2.2.1 x hx).2 i hi
  rw [mlN_j (by omega), mlN_j (by omega)] at a
  exact a
theorem NM_cl {σ A : ab_SG} {c : Nat} (h : NM σ A) (hc : (c : Int) < A 49 12) : σ 95 (176 + c) = A 54 c := by
  have a := h.2.2.2.2.2.2.2.1 c hc
  rw [mlN_j (by omega)] at a
  exact a
theorem fw_s {x : Int} (h1 : -2000 ≤ x) (h2 : x ≤ 2000) : fw_c x = x := fw_c_id (by omega) (by omega)
theorem c_tu_v {σ A : ab_SG} (h : NC σ A) {x : Int} (hx : fw_c x = x) : m_b (c_tu σ x) = fw_bo (0 ≤ x ∧ x < A 49 11) := by
  have n := N_n h.1
  unfold c_tu
  rw [hx, (NC_n h).1, fw_s (x := A 49 11) (by omega) (by omega)]
  by_cases q : 0 ≤ x ∧ x < A 49 11
  · rw [fw_bo_t q, m_b1 q.1 q.2]
  · rw [fw_bo_f q, m_b0 q]
theorem m_tu_v {σ A : ab_SG} (h : NM σ A) {x : Int} (hx : fw_c x = x) : m_b (m_tu σ x) = fw_bo (0 ≤ x ∧ x < A 49 11) := by
  have n := N_n h.1
  unfold m_tu
  rw [hx, (NM_n h).1, fw_s (x := A 49 11) (by omega) (by omega)]
  by_cases q : 0 ≤ x ∧ x < A 49 11
  · rw [fw_bo_t q, m_b1 q.1 q.2]
  · rw [fw_bo_f q, m_b0 q]
abbrev nt_has (A : ab_SG) (x i : Int) : Prop := (0 ≤ x ∧ x < A 49 11) ∧ (0 ≤ i ∧ i < A 52 x.toNat)
def v_note (A : ab_SG) (x i w : Int) : Int := if nt_has A x i ∧ (w = 0 ∨ w = 1) then (if w = 0 then A 50 (x.toNat * 9 + i.toNat) else A 51 (x.toNat * 9 + i.toNat)) else -1
def v_sum (A : ab_SG) (x : Nat) : Nat → Int
  | 0 => 0
  | n + 1 => v_sum A x n + A 51 (x * 9 + n)
theorem v_sum_s (A : ab_SG) (x n : Nat) : v_sum A x (n + 1) = v_sum A x n + A 51 (x * 9 + n) := rfl
theorem v_sum_b {A : ab_SG} {x : Nat} (hb : nb_is A) (hx : (x : Int) < A 49 11) : ∀ n : Nat, (n : Int) ≤ A 52 x → 0 ≤ v_sum A x n ∧ v_sum A x n ≤ 9 * n
  | 0, _ => ⟨Int.le_refl 0, Int.le_refl 0⟩
  | n + 1, h => by
    have a := v_sum_b hb hx n (by omega)
    have b := (N_nt hb hx (i := n) (by omega)).2
    rw [v_sum_s]
    omega
def v_max (A : ab_SG) (x : Nat) : Nat → Int
  | 0 => 0
  | n + 1 => if v_max A x n < A 50 (x * 9 + n) then A 50 (x * 9 + n) else v_max A x n
theorem v_max_s (A : ab_SG) (x n : Nat) : v_max A x (n + 1) = if v_max A x n < A 50 (x * 9 + n) then A 50 (x * 9 + n) else v_max A x n := rfl
theorem v_max_b {A : ab_SG} {x : Nat} (hb : nb_is A) (hx : (x : Int) < A 49 11) : ∀ n : Nat, (n : Int) ≤ A 52 x → 0 ≤ v_max A x n ∧ v_max A x n ≤ 24
  | 0, _ => ⟨Int.le_refl 0, by show (0 : Int) ≤ 24; decide⟩
  | n + 1, h => by
    have a := v_max_b hb hx n (by omega)
    have b := (N_nt hb hx (i := n) (by omega)).1
    rw [v_max_s]
    split <;> omega
def v_min (A : ab_SG) (x : Nat) : Nat → Int
  | 0 => 24
  | n + 1 => if A 50 (x * 9 + n) < v_min A x n then A 50 (x * 9 + n) else v_min A x n
theorem v_min_s (A : ab_SG) (x n : Nat) : v_min A x (n + 1) = if A 50 (x * 9 + n) < v_min A x n then A 50 (x * 9 + n) else v_min A x n := rfl
theorem v_min_b {A : ab_SG} {x : Nat} (hb : nb_is A) (hx : (x : Int) < A 49 11) : ∀ n : Nat, (n : Int) ≤ A 52 x → 0 ≤ v_min A x n ∧ v_min A x n ≤ 24
  | 0, _ => ⟨by show (0 : Int) ≤ 24; decide, Int.le_refl 24⟩
  | n + 1, h => by
    have a := v_min_b hb hx n (by omega)
    have b := (N_nt hb hx (i := n) (by omega)).1
    rw [v_min_s]
    split <;> omega
def v_when (A : ab_SG) (x i : Int) : Int := if nt_has A x i then v_sum A x.toNat i.toNat else -1
def v_clue (A : ab_SG) (c : Int) : Int := if 0 ≤ c ∧ c < A 49 12 then A 54 c.toNat else -1
def v_meas (A : ab_SG) (x : Nat) (w : Int) : Int := if w = 0 then A 52 x else if w = 1 then v_max A x (A 52 x).toNat else if w = 2 then v_min A x (A 52 x).toNat else v_sum A x (A 52 x).toNat
def v_tune (A : ab_SG) (x w : Int) : Int := if (0 ≤ x ∧ x < A 49 11) ∧ (0 ≤ w ∧ w ≤ 3) then v_meas A x.toNat w else -1
def nq_T : List (Nat × Nat) := [(4, 81), (5, 81), (6, 9), (7, 324), (8, 6)]
def sp_atn : fw_SP := sp_of at_k nq_T
def sp_hasNote3 : fw_SP := fun as σ K => ∃ (A : ab_SG) (x i : Int), as = [(2, 3, 0), (0, 0, x), (0, 0, i)] ∧ (fw_c x = x ∧ fw_c i = i) ∧ NC σ A ∧ K (some (0, 0, fw_bo (nt_has A x i))) σ
def sp_pitch3 : fw_SP := fun as σ K => ∃ (A : ab_SG) (x i : Nat), as = [(2, 3, 0), (0, 0, (x : Int)), (0, 0, (i : Int))] ∧ NC σ A ∧ (x : Int) < A 49 11 ∧ (i : Int) < A 52 x ∧ K (some (0, 0, A 50 (x * 9 + i))) σ
def sp_beat3 : fw_SP := fun as σ K => ∃ (A : ab_SG) (x i : Nat), as = [(2, 3, 0), (0, 0, (x : Int)), (0, 0, (i : Int))] ∧ NC σ A ∧ (x : Int) < A 49 11 ∧ (i : Int) < A 52 x ∧ K (some (0, 0, A 51 (x * 9 + i))) σ
def sp_isPart : fw_SP := fun as σ K => ∃ w : Int, as = [(0, 0, w)] ∧ fw_c w = w ∧ K (some (0, 0, fw_bo (w = 0 ∨ w = 1))) σ
def sp_isMeasure : fw_SP := fun as σ K => ∃ w : Int, as = [(0, 0, w)] ∧ fw_c w = w ∧ K (some (0, 0, fw_bo (0 ≤ w ∧ w ≤ 3))) σ
def sp_note : fw_SP := fun as σ K => ∃ (A : ab_SG) (x i w : Int), as = [(2, 0, 0), (0, 0, x), (0, 0, i), (0, 0, w)] ∧ (fw_c x = x ∧ fw_c i = i ∧ fw_c w = w) ∧ NC σ A ∧ K (some (0, 0, v_note A x i w)) σ
def sp_when : fw_SP := fun as σ K => ∃ (A : ab_SG) (x i : Int), as = [(2, 0, 0), (0, 0, x), (0, 0, i)] ∧ (fw_c x = x ∧ fw_c i = i) ∧ NC σ A ∧ K (some (0, 0, v_when A x i)) σ
def sp_measure3 : fw_SP := fun as σ K => ∃ (A : ab_SG) (x : Nat) (w : Int), as = [(2, 3, 0), (0, 0, (x : Int)), (0, 0, w)] ∧ NC σ A ∧ (x : Int) < A 49 11 ∧ (0 ≤ w ∧ w ≤ 3) ∧ K (some (0, 0, v_meas A x w)) σ
def sp_tune : fw_SP := fun as σ K => ∃ (A : ab_SG) (x w : Int), as = [(2, 0, 0), (0, 0, x), (0, 0, w)] ∧ (fw_c x = x ∧ fw_c w = w) ∧ NC σ A ∧ K (some (0, 0, v_tune A x w)) σ
def sp_isClue3 : fw_SP := fun as σ K => ∃ (A : ab_SG) (c : Int), as = [(2, 3, 0), (0, 0, c)] ∧ fw_c c = c ∧ NC σ A ∧ K (some (0, 0, fw_bo (0 ≤ c ∧ c < A 49 12))) σ
/-- the tunes that a clue leaves; all of them -/
def v_set (A : ab_SG) (c : Int) : Int := if c = -1 then p2_n (A 49 11) - 1 else A 54 c.toNat
def sp_allTunes3 : fw_SP := fun as σ K => ∃ A : ab_SG, as = [(2, 3, 0)] ∧ NC σ A ∧ K (some (0, 0, p2_n (A 49 11) - 1)) σ
def sp_setOf3 : fw_SP := fun as σ K => ∃ (A : ab_SG) (c : Int), as = [(2, 3, 0), (0, 0, c)] ∧ NC σ A ∧ (-1 ≤ c ∧ c < A 49 12) ∧ K (some (0, 0, v_set A c)) σ
def sp_clue : fw_SP := fun as σ K => ∃ (A : ab_SG) (c : Int), as = [(2, 0, 0), (0, 0, c)] ∧ fw_c c = c ∧ NC σ A ∧ K (some (0, 0, v_clue A c)) σ
def sp_m_notes : fw_SP := fun as σ K => ∃ x : Nat, as = [(2, 93, 0), (0, 0, (x : Int))] ∧ x < 9 ∧ K (some (0, 0, σ 95 (5 + 19 * x))) σ
def sp_m_noteOf : fw_SP := fun as σ K => ∃ x i w : Nat, as = [(2, 93, 0), (0, 0, (x : Int)), (0, 0, (i : Int)), (0, 0, (w : Int))] ∧ x < 9 ∧ i < 9 ∧ w < 2 ∧ K (some (0, 0, σ 95 (6 + w + 19 * x + 2 * i))) σ
def sp_m_note : fw_SP := fun as σ K => ∃ (A : ab_SG) (x i w : Int), as = [(2, 93, 0), (0, 0, x), (0, 0, i), (0, 0, w)] ∧ (fw_c x = x ∧ fw_c i = i ∧ fw_c w = w) ∧ NM σ A ∧ K (some (0, 0, v_note A x i w)) (ab_ups σ 93 0 0)
def sp_m_when : fw_SP := fun as σ K => ∃ (A : ab_SG) (x i : Int), as = [(2, 93, 0), (0, 0, x), (0, 0, i)] ∧ (fw_c x = x ∧ fw_c i = i) ∧ NM σ A ∧ K (some (0, 0, v_when A x i)) (ab_ups σ 93 0 0)
def sp_m_tell : fw_SP := fun as σ K => ∃ (A : ab_SG) (x : Nat) (w : Int), as = [(2, 93, 0), (0, 0, (x : Int)), (0, 0, w)] ∧ NM σ A ∧ (x : Int) < A 49 11 ∧ (0 ≤ w ∧ w ≤ 3) ∧ K (some (0, 0, v_meas A x w)) σ
def sp_m_tune : fw_SP := fun as σ K => ∃ (A : ab_SG) (x w : Int), as = [(2, 93, 0), (0, 0, x), (0, 0, w)] ∧ (fw_c x = x ∧ fw_c w = w) ∧ NM σ A ∧ K (some (0, 0, v_tune A x w)) (ab_ups σ 93 0 0)
def sp_m_isClue : fw_SP := fun as σ K => ∃ (A : ab_SG) (c : Int), as = [(2, 93, 0), (0, 0, c)] ∧ fw_c c = c ∧ NM σ A ∧ K (some (0, 0, fw_bo (0 ≤ c ∧ c < A 49 12))) σ
def sp_m_clue : fw_SP := fun as σ K => ∃ (A : ab_SG) (c : Int), as = [(2, 93, 0), (0, 0, c)] ∧ fw_c c = c ∧ NM σ A ∧ K (some (0, 0, v_clue A c)) (ab_ups σ 93 0 0)
theorem p2_sh : ∀ n : Nat, n ≤ 9 → fw_op 5 1 (n : Int) = p2_n (n : Int) := by decide +kernel
abbrev fk_at4 : List fw_CR := []
abbrev st_at4 : fw_K → fw_KR → fw_K := fw_st vwCl nn_sh nn_kd fw_kv fw_wc (nn_KI1.map (fun x => x.1)) (nn_KJ1.map (fun x => x.1)) (nn_PF1.map (fun x => x.1)) (nn_PS1.map (fun x => x.1)) fk_at4 0 nn_dt29 2 0
theorem fs_at4_0 {G : fw_K} {R : fw_KR} (hG : fw_cls st_at4 R G) {x : Int} {σ : ab_SG} (h : (fw_c x < 0 → R (some (0, 0, 0)) σ) ∧ (0 ≤ fw_c x → (fw_c ((81 : Nat) : Int) ≤ fw_c x → R (some (0, 0, 0)) σ) ∧ (fw_c x < fw_c ((81 : Nat) : Int) → (0 ≤ fw_c x ∧ fw_c x < ((81 : Nat) : Int)) ∧ (R (some (0, 0, σ 4 (fw_c x).toNat)) σ)))) : G 0 [some (2, 4, 0), some (0, 0, x)] [] σ := fw_on hG [] 200 h
abbrev fk_at5 : List fw_CR := []
abbrev st_at5 : fw_K → fw_KR → fw_K := fw_st vwCl nn_sh nn_kd fw_kv fw_wc (nn_KI1.map (fun x => x.1)) (nn_KJ1.map (fun x => x.1)) (nn_PF1.map (fun x => x.1)) (nn_PS1.map (fun x => x.1)) fk_at5 0 nn_dt29 2 0
theorem fs_at5_0 {G : fw_K} {R : fw_KR} (hG : fw_cls st_at5 R G) {x : Int} {σ : ab_SG} (h : (fw_c x < 0 → R (some (0, 0, 0)) σ) ∧ (0 ≤ fw_c x → (fw_c ((81 : Nat) : Int) ≤ fw_c x → R (some (0, 0, 0)) σ) ∧ (fw_c x < fw_c ((81 : Nat) : Int) → (0 ≤ fw_c x ∧ fw_c x < ((81 : Nat) : Int)) ∧ (R (some (0, 0, σ 5 (fw_c x).toNat)) σ)))) : G 0 [some (2, 5, 0), some (0, 0, x)] [] σ := fw_on hG [] 200 h
abbrev fk_at6 : List fw_CR := []
abbrev st_at6 : fw_K → fw_KR → fw_K := fw_st vwCl nn_sh nn_kd fw_kv fw_wc (nn_KI1.map (fun x => x.1)) (nn_KJ1.map (fun x => x.1)) (nn_PF1.map (fun x => x.1)) (nn_PS1.map (fun x => x.1)) fk_at6 0 nn_dt29 2 0
theorem fs_at6_0 {G : fw_K} {R : fw_KR} (hG : fw_cls st_at6 R G) {x : Int} {σ : ab_SG} (h : (fw_c x < 0 → R (some (0, 0, 0)) σ) ∧ (0 ≤ fw_c x → (fw_c ((9 : Nat) : Int) ≤ fw_c x → R (some (0, 0, 0)) σ) ∧ (fw_c x < fw_c ((9 : Nat) : Int) → (0 ≤ fw_c x ∧ fw_c x < ((9 : Nat) : Int)) ∧ (R (some (0, 0, σ 6 (fw_c x).toNat)) σ)))) : G 0 [some (2, 6, 0), some (0, 0, x)] [] σ := fw_on hG [] 200 h
abbrev fk_at7 : List fw_CR := []
abbrev st_at7 : fw_K → fw_KR → fw_K := fw_st vwCl nn_sh nn_kd fw_kv fw_wc (nn_KI1.map (fun x => x.1)) (nn_KJ1.map (fun x => x.1)) (nn_PF1.map (fun x => x.1)) (nn_PS1.map (fun x => x.1)) fk_at7 0 nn_dt29 2 0
theorem fs_at7_0 {G : fw_K} {R : fw_KR} (hG : fw_cls st_at7 R G) {x : Int} {σ : ab_SG} (h : (fw_c x < 0 → R (some (0, 0, 0)) σ) ∧ (0 ≤ fw_c x → (fw_c ((324 : Nat) : Int) ≤ fw_c x → R (some (0, 0, 0)) σ) ∧ (fw_c x < fw_c ((324 : Nat) : Int) → (0 ≤ fw_c x ∧ fw_c x < ((324 : Nat) : Int)) ∧ (R (some (0, 0, σ 7 (fw_c x).toNat)) σ)))) : G 0 [some (2, 7, 0), some (0, 0, x)] [] σ := fw_on hG [] 200 h
abbrev fk_at8 : List fw_CR := []
abbrev st_at8 : fw_K → fw_KR → fw_K := fw_st vwCl nn_sh nn_kd fw_kv fw_wc (nn_KI1.map (fun x => x.1)) (nn_KJ1.map (fun x => x.1)) (nn_PF1.map (fun x => x.1)) (nn_PS1.map (fun x => x.1)) fk_at8 0 nn_dt29 2 0
theorem fs_at8_0 {G : fw_K} {R : fw_KR} (hG : fw_cls st_at8 R G) {x : Int} {σ : ab_SG} (h : (fw_c x < 0 → R (some (0, 0, 0)) σ) ∧ (0 ≤ fw_c x → (fw_c ((6 : Nat) : Int) ≤ fw_c x → R (some (0, 0, 0)) σ) ∧ (fw_c x < fw_c ((6 : Nat) : Int) → (0 ≤ fw_c x ∧ fw_c x < ((6 : Nat) : Int)) ∧ (R (some (0, 0, σ 8 (fw_c x).toNat)) σ)))) : G 0 [some (2, 8, 0), some (0, 0, x)] [] σ := fw_on hG [] 200 h
abbrev fk_hasNote3 : List fw_CR := [(92, 2, false, 0, 0, sp_atn), (96, 1, true, 6, 0, sp_isTune3)]
abbrev st_hasNote3 : fw_K → fw_KR → fw_K := fw_st vwCl nn_sh nn_kd fw_kv fw_wc (nn_KI6.map (fun x => x.1)) (nn_KJ6.map (fun x => x.1)) (nn_PF6.map (fun x => x.1)) (nn_PS6.map (fun x => x.1)) fk_hasNote3 1 nn_dt45 3 1
theorem fs_hasNote3_0 {G : fw_K} {R : fw_KR} (hG : fw_cls st_hasNote3 R G) {x i : Int} {σ : ab_SG} (h : sp_isTune3 [(2, 3, 0), (0, 0, x)] σ (fun rv σ2 => G 5 [some (2, 3, 0), some (0, 0, x), some (0, 0, i)] (rv.toList ++ []) σ2)) : G 0 [some (2, 3, 0), some (0, 0, x), some (0, 0, i)] [] σ := fw_on hG [5, 21] 200 h
theorem fs_hasNote3_5 {G : fw_K} {R : fw_KR} (hG : fw_cls st_hasNote3 R G) {a1 a2 b0 : Int} {σ : ab_SG} (h : (fw_c b0 = 0 → (0 ≤ fw_c 0 ∧ fw_c 0 ≤ 1) ∧ R (some (0, 0, 0)) σ) ∧ (fw_c b0 ≠ 0 → (fw_c a2 < 0 → (0 ≤ fw_c 0 ∧ fw_c 0 ≤ 1) ∧ R (some (0, 0, 0)) σ) ∧ (0 ≤ fw_c a2 → sp_atn [(2, 6, 0), (0, 0, a1)] σ (fun rv σ2 => G 21 [some (2, 3, 0), some (0, 0, a1), some (0, 0, a2)] (rv.toList ++ [(0, 0, a2)]) σ2)))) : G 5 [some (2, 3, 0), some (0, 0, a1), some (0, 0, a2)] [(0, 0, b0)] σ := fw_on hG [5, 21] 200 h
theorem fs_hasNote3_21 {G : fw_K} {R : fw_KR} (hG : fw_cls st_hasNote3 R G) {a1 a2 b0 b1 : Int} {σ : ab_SG} (h : (fw_c b0 ≤ fw_c b1 → (0 ≤ fw_c 0 ∧ fw_c 0 ≤ 1) ∧ R (some (0, 0, 0)) σ) ∧ (fw_c b1 < fw_c b0 → (0 ≤ fw_c 1 ∧ fw_c 1 ≤ 1) ∧ R (some (0, 0, 1)) σ)) : G 21 [some (2, 3, 0), some (0, 0, a1), some (0, 0, a2)] [(0, 0, b0), (0, 0, b1)] σ := fw_on hG [5, 21] 200 h
abbrev fk_pitch3 : List fw_CR := [(92, 2, false, 0, 0, sp_atn)]
abbrev st_pitch3 : fw_K → fw_KR → fw_K := fw_st vwCl nn_sh nn_kd fw_kv fw_wc (nn_KI6.map (fun x => x.1)) (nn_KJ6.map (fun x => x.1)) (nn_PF6.map (fun x => x.1)) (nn_PS6.map (fun x => x.1)) fk_pitch3 1 nn_dt47 3 0
theorem fs_pitch3_0 {G : fw_K} {R : fw_KR} (hG : fw_cls st_pitch3 R G) {x i : Int} {σ : ab_SG} (h : sp_atn [(2, 4, 0), (0, 0, (x * 9) + i)] σ (fun rv σ2 => G 13 [some (2, 3, 0), some (0, 0, x), some (0, 0, i)] (rv.toList ++ []) σ2)) : G 0 [some (2, 3, 0), some (0, 0, x), some (0, 0, i)] [] σ := fw_on hG [13] 200 h
theorem fs_pitch3_13 {G : fw_K} {R : fw_KR} (hG : fw_cls st_pitch3 R G) {a1 a2 b0 : Int} {σ : ab_SG} (h : R (some (0, 0, b0)) σ) : G 13 [some (2, 3, 0), some (0, 0, a1), some (0, 0, a2)] [(0, 0, b0)] σ := fw_on hG [13] 200 h
abbrev fk_beat3 : List fw_CR := [(92, 2, false, 0, 0, sp_atn)]
abbrev st_beat3 : fw_K → fw_KR → fw_K := fw_st vwCl nn_sh nn_kd fw_kv fw_wc (nn_KI6.map (fun x => x.1)) (nn_KJ6.map (fun x => x.1)) (nn_PF6.map (fun x => x.1)) (nn_PS6.map (fun x => x.1)) fk_beat3 1 nn_dt48 3 0
theorem fs_beat3_0 {G : fw_K} {R : fw_KR} (hG : fw_cls st_beat3 R G) {x i : Int} {σ : ab_SG} (h : sp_atn [(2, 5, 0), (0, 0, (x * 9) + i)] σ (fun rv σ2 => G 13 [some (2, 3, 0), some (0, 0, x), some (0, 0, i)] (rv.toList ++ []) σ2)) : G 0 [some (2, 3, 0), some (0, 0, x), some (0, 0, i)] [] σ := fw_on hG [13] 200 h
theorem fs_beat3_13 {G : fw_K} {R : fw_KR} (hG : fw_cls st_beat3 R G) {a1 a2 b0 : Int} {σ : ab_SG} (h : R (some (0, 0, b0)) σ) : G 13 [some (2, 3, 0), some (0, 0, a1), some (0, 0, a2)] [(0, 0, b0)] σ := fw_on hG [13] 200 h
abbrev fk_isPart : List fw_CR := []
abbrev st_isPart : fw_K → fw_KR → fw_K := fw_st vwCl nn_sh nn_kd fw_kv fw_wc (nn_KI1.map (fun x => x.1)) (nn_KJ1.map (fun x => x.1)) (nn_PF1.map (fun x => x.1)) (nn_PS1.map (fun x => x.1)) fk_isPart 0 nn_dt55 1 1
theorem fs_isPart_0 {G : fw_K} {R : fw_KR} (hG : fw_cls st_isPart R G) {w : Int} {σ : ab_SG} (h : (fw_c w = 0 → (0 ≤ fw_c 1 ∧ fw_c 1 ≤ 1) ∧ R (some (0, 0, 1)) σ) ∧ (fw_c w ≠ 0 → (fw_c w ≠ fw_c 1 → (0 ≤ fw_c 0 ∧ fw_c 0 ≤ 1) ∧ R (some (0, 0, 0)) σ) ∧ (fw_c w = fw_c 1 → (0 ≤ fw_c 1 ∧ fw_c 1 ≤ 1) ∧ R (some (0, 0, 1)) σ))) : G 0 [some (0, 0, w)] [] σ := fw_on hG [] 200 h
abbrev fk_isMeasure : List fw_CR := []
abbrev st_isMeasure : fw_K → fw_KR → fw_K := fw_st vwCl nn_sh nn_kd fw_kv fw_wc (nn_KI1.map (fun x => x.1)) (nn_KJ1.map (fun x => x.1)) (nn_PF1.map (fun x => x.1)) (nn_PS1.map (fun x => x.1)) fk_isMeasure 0 nn_dt57 1 1
theorem fs_isMeasure_0 {G : fw_K} {R : fw_KR} (hG : fw_cls st_isMeasure R G) {w : Int} {σ : ab_SG} (h : (fw_c w < 0 → (0 ≤ fw_c 0 ∧ fw_c 0 ≤ 1) ∧ R (some (0, 0, 0)) σ) ∧ (0 ≤ fw_c w → (fw_c 4 ≤ fw_c w → (0 ≤ fw_c 0 ∧ fw_c 0 ≤ 1) ∧ R (some (0, 0, 0)) σ) ∧ (fw_c w < fw_c 4 → (0 ≤ fw_c 1 ∧ fw_c 1 ≤ 1) ∧ R (some (0, 0, 1)) σ))) : G 0 [some (0, 0, w)] [] σ := fw_on hG [] 200 h
abbrev fk_note : List fw_CR := [(142, 2, true, 6, 1, sp_hasNote3), (146, 1, false, 0, 0, sp_isPart), (150, 2, true, 6, 1, sp_pitch3), (154, 2, true, 6, 1, sp_beat3)]
abbrev st_note : fw_K → fw_KR → fw_K := fw_st vwCl nn_sh nn_kd fw_kv fw_wc (nn_KI1.map (fun x => x.1)) (nn_KJ1.map (fun x => x.1)) (nn_PF1.map (fun x => x.1)) (nn_PS1.map (fun x => x.1)) fk_note 2 nn_dt54 4 0
theorem fs_note_0 {G : fw_K} {R : fw_KR} (hG : fw_cls st_note R G) {x i w : Int} {σ : ab_SG} (h : sp_hasNote3 [(2, 3, 0), (0, 0, x), (0, 0, i)] σ (fun rv σ2 => G 9 [some (2, 0, 0), some (0, 0, x), some (0, 0, i), some (0, 0, w)] (rv.toList ++ []) σ2)) : G 0 [some (2, 0, 0), some (0, 0, x), some (0, 0, i), some (0, 0, w)] [] σ := fw_on hG [9, 16, 34, 46] 200 h
theorem fs_note_9 {G : fw_K} {R : fw_KR} (hG : fw_cls st_note R G) {a1 a2 a3 b0 : Int} {σ : ab_SG} (h : (fw_c b0 = 0 → R (some (0, 0, (-1))) σ) ∧ (fw_c b0 ≠ 0 → sp_isPart [(0, 0, a3)] σ (fun rv σ2 => G 16 [some (2, 0, 0), some (0, 0, a1), some (0, 0, a2), some (0, 0, a3)] (rv.toList ++ []) σ2))) : G 9 [some (2, 0, 0), some (0, 0, a1), some (0, 0, a2), some (0, 0, a3)] [(0, 0, b0)] σ := fw_on hG [9, 16, 34, 46] 200 h
theorem fs_note_16 {G : fw_K} {R : fw_KR} (hG : fw_cls st_note R G) {a1 a2 a3 b0 : Int} {σ : ab_SG} (h : (fw_c b0 ≠ 0 → (fw_c a3 ≠ 0 → sp_beat3 [(2, 3, 0), (0, 0, a1), (0, 0, a2)] σ (fun rv σ2 => G 46 [some (2, 0, 0), some (0, 0, a1), some (0, 0, a2), some (0, 0, a3)] (rv.toList ++ []) σ2)) ∧ (fw_c a3 = 0 → sp_pitch3 [(2, 3, 0), (0, 0, a1), (0, 0, a2)] σ (fun rv σ2 => G 34 [some (2, 0, 0), some (0, 0, a1), some (0, 0, a2), some (0, 0, a3)] (rv.toList ++ []) σ2))) ∧ (fw_c b0 = 0 → R (some (0, 0, (-1))) σ)) : G 16 [some (2, 0, 0), some (0, 0, a1), some (0, 0, a2), some (0, 0, a3)] [(0, 0, b0)] σ := fw_on hG [9, 16, 34, 46] 200 h
theorem fs_note_46 {G : fw_K} {R : fw_KR} (hG : fw_cls st_note R G) {a1 a2 a3 b0 : Int} {σ : ab_SG} (h : R (some (0, 0, b0)) σ) : G 46 [some (2, 0, 0), some (0, 0, a1), some (0, 0, a2), some (0, 0, a3)] [(0, 0, b0)] σ := fw_on hG [9, 16, 34, 46] 200 h
theorem fs_note_34 {G : fw_K} {R : fw_KR} (hG : fw_cls st_note R G) {a1 a2 a3 b0 : Int} {σ : ab_SG} (h : G 46 [some (2, 0, 0), some (0, 0, a1), some (0, 0, a2), some (0, 0, a3)] [(0, 0, b0)] σ) : G 34 [some (2, 0, 0), some (0, 0, a1), some (0, 0, a2), some (0, 0, a3)] [(0, 0, b0)] σ := fw_on hG [9, 16, 34, 46] 200 h
abbrev fk_when : List fw_CR := [(142, 2, true, 6, 1, sp_hasNote3), (154, 2, true, 6, 1, sp_beat3)]
abbrev st_when : fw_K → fw_KR → fw_K := fw_st vwCl nn_sh nn_kd fw_kv fw_wc (nn_KI1.map (fun x => x.1)) (nn_KJ1.map (fun x => x.1)) (nn_PF1.map (fun x => x.1)) (nn_PS1.map (fun x => x.1)) fk_when 2 nn_dt61 5 0
theorem fs_when_0 {G : fw_K} {R : fw_KR} (hG : fw_cls st_when R G) {x i : Int} {σ : ab_SG} (h : sp_hasNote3 [(2, 3, 0), (0, 0, x), (0, 0, i)] σ (fun rv σ2 => G 9 [some (2, 0, 0), some (0, 0, x), some (0, 0, i), none, none] (rv.toList ++ []) σ2)) : G 0 [some (2, 0, 0), some (0, 0, x), some (0, 0, i), none, none] [] σ := fw_on hG [9, 19, 36] 200 h
theorem fs_when_9 {G : fw_K} {R : fw_KR} (hG : fw_cls st_when R G) {a1 a2 b0 : Int} {σ : ab_SG} (h : (fw_c b0 ≠ 0 → G 19 [some (2, 0, 0), some (0, 0, a1), some (0, 0, a2), some (0, 0, 0), some (0, 0, 0)] [] σ) ∧ (fw_c b0 = 0 → R (some (0, 0, (-1))) σ)) : G 9 [some (2, 0, 0), some (0, 0, a1), some (0, 0, a2), none, none] [(0, 0, b0)] σ := fw_on hG [9, 19, 36] 200 h
theorem fs_when_19 {G : fw_K} {R : fw_KR} (hG : fw_cls st_when R G) {a1 a2 a3 a4 : Int} {σ : ab_SG} (h : (fw_c a2 ≤ fw_c a4 → R (some (0, 0, a3)) σ) ∧ (fw_c a4 < fw_c a2 → sp_beat3 [(2, 3, 0), (0, 0, a1), (0, 0, a4)] σ (fun rv σ2 => G 36 [some (2, 0, 0), some (0, 0, a1), some (0, 0, a2), some (0, 0, a3), some (0, 0, a4)] (rv.toList ++ [(0, 0, a3)]) σ2))) : G 19 [some (2, 0, 0), some (0, 0, a1), some (0, 0, a2), some (0, 0, a3), some (0, 0, a4)] [] σ := fw_on hG [9, 19, 36] 200 h
theorem fs_when_36 {G : fw_K} {R : fw_KR} (hG : fw_cls st_when R G) {a1 a2 a3 a4 b0 b1 : Int} {σ : ab_SG} (h : G 19 [some (2, 0, 0), some (0, 0, a1), some (0, 0, a2), some (0, 0, b1 + b0), some (0, 0, a4 + 1)] [] σ) : G 36 [some (2, 0, 0), some (0, 0, a1), some (0, 0, a2), some (0, 0, a3), some (0, 0, a4)] [(0, 0, b0), (0, 0, b1)] σ := fw_on hG [9, 19, 36] 200 h
abbrev fk_measure3 : List fw_CR := [(92, 2, false, 0, 0, sp_atn), (103, 2, true, 6, 1, sp_pitch3), (115, 2, true, 6, 1, sp_beat3)]
abbrev st_measure3 : fw_K → fw_KR → fw_K := fw_st vwCl nn_sh nn_kd fw_kv fw_wc (nn_KI6.map (fun x => x.1)) (nn_KJ6.map (fun x => x.1)) (nn_PF6.map (fun x => x.1)) (nn_PS6.map (fun x => x.1)) fk_measure3 2 nn_dt58 8 0
theorem fs_measure3_0 {G : fw_K} {R : fw_KR} (hG : fw_cls st_measure3 R G) {x w : Int} {σ : ab_SG} (h : sp_atn [(2, 6, 0), (0, 0, x)] σ (fun rv σ2 => G 8 [some (2, 3, 0), some (0, 0, x), some (0, 0, w), none, none, none, none, none] (rv.toList ++ []) σ2)) : G 0 [some (2, 3, 0), some (0, 0, x), some (0, 0, w), none, none, none, none, none] [] σ := fw_on hG [8, 22, 37, 51, 65] 200 h
theorem fs_measure3_8 {G : fw_K} {R : fw_KR} (hG : fw_cls st_measure3 R G) {a1 a2 b0 : Int} {σ : ab_SG} (h : G 22 [some (2, 3, 0), some (0, 0, a1), some (0, 0, a2), some (0, 0, b0), some (0, 0, 0), some (0, 0, 24), some (0, 0, 0), some (0, 0, 0)] [] σ) : G 8 [some (2, 3, 0), some (0, 0, a1), some (0, 0, a2), none, none, none, none, none] [(0, 0, b0)] σ := fw_on hG [8, 22, 37, 51, 65] 200 h
theorem fs_measure3_22 {G : fw_K} {R : fw_KR} (hG : fw_cls st_measure3 R G) {a1 a2 a3 a4 a5 a6 a7 : Int} {σ : ab_SG} (h : (fw_c a3 ≤ fw_c a7 → (fw_c a2 ≠ 0 → (fw_c a2 ≠ fw_c 1 → (fw_c a2 ≠ fw_c 2 → R (some (0, 0, a6)) σ) ∧ (fw_c a2 = fw_c 2 → R (some (0, 0, a5)) σ)) ∧ (fw_c a2 = fw_c 1 → R (some (0, 0, a4)) σ)) ∧ (fw_c a2 = 0 → R (some (0, 0, a3)) σ)) ∧ (fw_c a7 < fw_c a3 → sp_pitch3 [(2, 3, 0), (0, 0, a1), (0, 0, a7)] σ (fun rv σ2 => G 37 [some (2, 3, 0), some (0, 0, a1), some (0, 0, a2), some (0, 0, a3), some (0, 0, a4), some (0, 0, a5), some (0, 0, a6), some (0, 0, a7)] (rv.toList ++ [(0, 0, a4)]) σ2))) : G 22 [some (2, 3, 0), some (0, 0, a1), some (0, 0, a2), some (0, 0, a3), some (0, 0, a4), some (0, 0, a5), some (0, 0, a6), some (0, 0, a7)] [] σ := fw_on hG [8, 22, 37, 51, 65] 200 h
theorem fs_measure3_37 {G : fw_K} {R : fw_KR} (hG : fw_cls st_measure3 R G) {a1 a2 a3 a4 a5 a6 a7 b0 b1 : Int} {σ : ab_SG} (h : sp_pitch3 [(2, 3, 0), (0, 0, a1), (0, 0, a7)] σ (fun rv σ2 => G 51 [some (2, 3, 0), some (0, 0, a1), some (0, 0, a2), some (0, 0, a3), some (0, 0, if fw_c b1 < fw_c b0 then fw_c b0 else fw_c b1), some (0, 0, a5), some (0, 0, a6), some (0, 0, a7)] (rv.toList ++ [(0, 0, a5)]) σ2)) : G 37 [some (2, 3, 0), some (0, 0, a1), some (0, 0, a2), some (0, 0, a3), some (0, 0, a4), some (0, 0, a5), some (0, 0, a6), some (0, 0, a7)] [(0, 0, b0), (0, 0, b1)] σ := fw_on hG [8, 22, 37, 51, 65] 200 h
theorem fs_measure3_51 {G : fw_K} {R : fw_KR} (hG : fw_cls st_measure3 R G) {a1 a2 a3 a4 a5 a6 a7 b0 b1 : Int} {σ : ab_SG} (h : sp_beat3 [(2, 3, 0), (0, 0, a1), (0, 0, a7)] σ (fun rv σ2 => G 65 [some (2, 3, 0), some (0, 0, a1), some (0, 0, a2), some (0, 0, a3), some (0, 0, a4), some (0, 0, if fw_c b0 < fw_c b1 then fw_c b0 else fw_c b1), some (0, 0, a6), some (0, 0, a7)] (rv.toList ++ [(0, 0, a6)]) σ2)) : G 51 [some (2, 3, 0), some (0, 0, a1), some (0, 0, a2), some (0, 0, a3), some (0, 0, a4), some (0, 0, a5), some (0, 0, a6), some (0, 0, a7)] [(0, 0, b0), (0, 0, b1)] σ := fw_on hG [8, 22, 37, 51, 65] 200 h
theorem fs_measure3_65 {G : fw_K} {R : fw_KR} (hG : fw_cls st_measure3 R G) {a1 a2 a3 a4 a5 a6 a7 b0 b1 : Int} {σ : ab_SG} (h : G 22 [some (2, 3, 0), some (0, 0, a1), some (0, 0, a2), some (0, 0, a3), some (0, 0, a4), some (0, 0, a5), some (0, 0, b1 + b0), some (0, 0, a7 + 1)] [] σ) : G 65 [some (2, 3, 0), some (0, 0, a1), some (0, 0, a2), some (0, 0, a3), some (0, 0, a4), some (0, 0, a5), some (0, 0, a6), some (0, 0, a7)] [(0, 0, b0), (0, 0, b1)] σ := fw_on hG [8, 22, 37, 51, 65] 200 h
abbrev fk_tune : List fw_CR := [(157, 1, true, 6, 0, sp_isTune3), (160, 1, false, 0, 0, sp_isMeasure), (163, 2, true, 6, 2, sp_measure3)]
abbrev st_tune : fw_K → fw_KR → fw_K := fw_st vwCl nn_sh nn_kd fw_kv fw_wc (nn_KI1.map (fun x => x.1)) (nn_KJ1.map (fun x => x.1)) (nn_PF1.map (fun x => x.1)) (nn_PS1.map (fun x => x.1)) fk_tune 3 nn_dt56 3 0
theorem fs_tune_0 {G : fw_K} {R : fw_KR} (hG : fw_cls st_tune R G) {x w : Int} {σ : ab_SG} (h : sp_isTune3 [(2, 3, 0), (0, 0, x)] σ (fun rv σ2 => G 8 [some (2, 0, 0), some (0, 0, x), some (0, 0, w)] (rv.toList ++ []) σ2)) : G 0 [some (2, 0, 0), some (0, 0, x), some (0, 0, w)] [] σ := fw_on hG [8, 15, 27] 200 h
theorem fs_tune_8 {G : fw_K} {R : fw_KR} (hG : fw_cls st_tune R G) {a1 a2 b0 : Int} {σ : ab_SG} (h : (fw_c b0 = 0 → R (some (0, 0, (-1))) σ) ∧ (fw_c b0 ≠ 0 → sp_isMeasure [(0, 0, a2)] σ (fun rv σ2 => G 15 [some (2, 0, 0), some (0, 0, a1), some (0, 0, a2)] (rv.toList ++ []) σ2))) : G 8 [some (2, 0, 0), some (0, 0, a1), some (0, 0, a2)] [(0, 0, b0)] σ := fw_on hG [8, 15, 27] 200 h
theorem fs_tune_15 {G : fw_K} {R : fw_KR} (hG : fw_cls st_tune R G) {a1 a2 b0 : Int} {σ : ab_SG} (h : (fw_c b0 = 0 → R (some (0, 0, (-1))) σ) ∧ (fw_c b0 ≠ 0 → sp_measure3 [(2, 3, 0), (0, 0, a1), (0, 0, a2)] σ (fun rv σ2 => G 27 [some (2, 0, 0), some (0, 0, a1), some (0, 0, a2)] (rv.toList ++ []) σ2))) : G 15 [some (2, 0, 0), some (0, 0, a1), some (0, 0, a2)] [(0, 0, b0)] σ := fw_on hG [8, 15, 27] 200 h
theorem fs_tune_27 {G : fw_K} {R : fw_KR} (hG : fw_cls st_tune R G) {a1 a2 b0 : Int} {σ : ab_SG} (h : R (some (0, 0, b0)) σ) : G 27 [some (2, 0, 0), some (0, 0, a1), some (0, 0, a2)] [(0, 0, b0)] σ := fw_on hG [8, 15, 27] 200 h
abbrev fk_isClue3 : List fw_CR := []
abbrev st_isClue3 : fw_K → fw_KR → fw_K := fw_st vwCl nn_sh nn_kd fw_kv fw_wc (nn_KI6.map (fun x => x.1)) (nn_KJ6.map (fun x => x.1)) (nn_PF6.map (fun x => x.1)) (nn_PS6.map (fun x => x.1)) fk_isClue3 0 nn_dt63 2 1
theorem fs_isClue3_0 {G : fw_K} {R : fw_KR} (hG : fw_cls st_isClue3 R G) {c : Int} {σ : ab_SG} (h : (fw_c c < 0 → (0 ≤ fw_c 0 ∧ fw_c 0 ≤ 1) ∧ R (some (0, 0, 0)) σ) ∧ (0 ≤ fw_c c → (fw_c (σ 3 12) ≤ fw_c c → (0 ≤ fw_c 0 ∧ fw_c 0 ≤ 1) ∧ R (some (0, 0, 0)) σ) ∧ (fw_c c < fw_c (σ 3 12) → (0 ≤ fw_c 1 ∧ fw_c 1 ≤ 1) ∧ R (some (0, 0, 1)) σ))) : G 0 [some (2, 3, 0), some (0, 0, c)] [] σ := fw_on hG [] 200 h
abbrev fk_allTunes3 : List fw_CR := []
abbrev st_allTunes3 : fw_K → fw_KR → fw_K := fw_st vwCl nn_sh nn_kd fw_kv fw_wc (nn_KI6.map (fun x => x.1)) (nn_KJ6.map (fun x => x.1)) (nn_PF6.map (fun x => x.1)) (nn_PS6.map (fun x => x.1)) fk_allTunes3 0 nn_dt65 1 0
theorem fs_allTunes3_0 {G : fw_K} {R : fw_KR} (hG : fw_cls st_allTunes3 R G) {σ : ab_SG} (h : R (some (0, 0, (fw_op 5 1 (σ 3 11)) - 1)) σ) : G 0 [some (2, 3, 0)] [] σ := fw_on hG [] 200 h
abbrev fk_setOf3 : List fw_CR := [(88, 0, true, 6, 0, sp_allTunes3), (92, 2, false, 0, 0, sp_atn)]
abbrev st_setOf3 : fw_K → fw_KR → fw_K := fw_st vwCl nn_sh nn_kd fw_kv fw_wc (nn_KI6.map (fun x => x.1)) (nn_KJ6.map (fun x => x.1)) (nn_PF6.map (fun x => x.1)) (nn_PS6.map (fun x => x.1)) fk_setOf3 1 nn_dt64 2 0
theorem fs_setOf3_0 {G : fw_K} {R : fw_KR} (hG : fw_cls st_setOf3 R G) {c : Int} {σ : ab_SG} (h : (fw_c c ≠ fw_c (-1) → sp_atn [(2, 8, 0), (0, 0, c)] σ (fun rv σ2 => G 20 [some (2, 3, 0), some (0, 0, c)] (rv.toList ++ []) σ2)) ∧ (fw_c c = fw_c (-1) → sp_allTunes3 [(2, 3, 0)] σ (fun rv σ2 => G 9 [some (2, 3, 0), some (0, 0, c)] (rv.toList ++ []) σ2))) : G 0 [some (2, 3, 0), some (0, 0, c)] [] σ := fw_on hG [9, 20] 200 h
theorem fs_setOf3_20 {G : fw_K} {R : fw_KR} (hG : fw_cls st_setOf3 R G) {a1 b0 : Int} {σ : ab_SG} (h : R (some (0, 0, b0)) σ) : G 20 [some (2, 3, 0), some (0, 0, a1)] [(0, 0, b0)] σ := fw_on hG [9, 20] 200 h
theorem fs_setOf3_9 {G : fw_K} {R : fw_KR} (hG : fw_cls st_setOf3 R G) {a1 b0 : Int} {σ : ab_SG} (h : G 20 [some (2, 3, 0), some (0, 0, a1)] [(0, 0, b0)] σ) : G 9 [some (2, 3, 0), some (0, 0, a1)] [(0, 0, b0)] σ := fw_on hG [9, 20] 200 h
abbrev fk_clue : List fw_CR := [(166, 1, true, 6, 0, sp_isClue3), (169, 1, true, 6, 1, sp_setOf3)]
abbrev st_clue : fw_K → fw_KR → fw_K := fw_st vwCl nn_sh nn_kd fw_kv fw_wc (nn_KI1.map (fun x => x.1)) (nn_KJ1.map (fun x => x.1)) (nn_PF1.map (fun x => x.1)) (nn_PS1.map (fun x => x.1)) fk_clue 2 nn_dt62 2 0
theorem fs_clue_0 {G : fw_K} {R : fw_KR} (hG : fw_cls st_clue R G) {c : Int} {σ : ab_SG} (h : sp_isClue3 [(2, 3, 0), (0, 0, c)] σ (fun rv σ2 => G 8 [some (2, 0, 0), some (0, 0, c)] (rv.toList ++ []) σ2)) : G 0 [some (2, 0, 0), some (0, 0, c)] [] σ := fw_on hG [8, 19] 200 h
theorem fs_clue_8 {G : fw_K} {R : fw_KR} (hG : fw_cls st_clue R G) {a1 b0 : Int} {σ : ab_SG} (h : (fw_c b0 = 0 → R (some (0, 0, (-1))) σ) ∧ (fw_c b0 ≠ 0 → sp_setOf3 [(2, 3, 0), (0, 0, a1)] σ (fun rv σ2 => G 19 [some (2, 0, 0), some (0, 0, a1)] (rv.toList ++ []) σ2))) : G 8 [some (2, 0, 0), some (0, 0, a1)] [(0, 0, b0)] σ := fw_on hG [8, 19] 200 h
theorem fs_clue_19 {G : fw_K} {R : fw_KR} (hG : fw_cls st_clue R G) {a1 b0 : Int} {σ : ab_SG} (h : R (some (0, 0, b0)) σ) : G 19 [some (2, 0, 0), some (0, 0, a1)] [(0, 0, b0)] σ := fw_on hG [8, 19] 200 h
abbrev fk_m_notes : List fw_CR := []
abbrev st_m_notes : fw_K → fw_KR → fw_K := fw_st vwCl nn_sh nn_kd fw_kv fw_wc (nn_KI20.map (fun x => x.1)) (nn_KJ20.map (fun x => x.1)) (nn_PF20.map (fun x => x.1)) (nn_PS20.map (fun x => x.1)) fk_m_notes 1 nn_dt241 2 0
theorem fs_m_notes_0 {G : fw_K} {R : fw_KR} (hG : fw_cls st_m_notes R G) {x : Int} {σ : ab_SG} (h : (0 ≤ fw_c (5 + (19 * x)) ∧ fw_c (5 + (19 * x)) < ((474 : Nat) : Int)) ∧ (R (some (0, 0, σ 95 (fw_c (5 + (19 * x))).toNat)) σ)) : G 0 [some (2, 93, 0), some (0, 0, x)] [] σ := fw_on hG [] 200 h
abbrev fk_m_noteOf : List fw_CR := []
abbrev st_m_noteOf : fw_K → fw_KR → fw_K := fw_st vwCl nn_sh nn_kd fw_kv fw_wc (nn_KI20.map (fun x => x.1)) (nn_KJ20.map (fun x => x.1)) (nn_PF20.map (fun x => x.1)) (nn_PS20.map (fun x => x.1)) fk_m_noteOf 1 nn_dt242 4 0
theorem fs_m_noteOf_0 {G : fw_K} {R : fw_KR} (hG : fw_cls st_m_noteOf R G) {x i w : Int} {σ : ab_SG} (h : (0 ≤ fw_c ((((5 + (19 * x)) + 1) + (2 * i)) + w) ∧ fw_c ((((5 + (19 * x)) + 1) + (2 * i)) + w) < ((474 : Nat) : Int)) ∧ (R (some (0, 0, σ 95 (fw_c ((((5 + (19 * x)) + 1) + (2 * i)) + w)).toNat)) σ)) : G 0 [some (2, 93, 0), some (0, 0, x), some (0, 0, i), some (0, 0, w)] [] σ := fw_on hG [] 200 h
abbrev fk_m_note : List fw_CR := [(171, 3, false, 0, 0, sp_m_isIn), (267, 1, true, 11, 1, sp_m_isTune), (270, 1, true, 11, 1, sp_m_notes), (273, 3, true, 11, 1, sp_m_noteOf)]
abbrev st_m_note : fw_K → fw_KR → fw_K := fw_st vwCl nn_sh nn_kd fw_kv fw_wc (nn_KI20.map (fun x => x.1)) (nn_KJ20.map (fun x => x.1)) (nn_PF20.map (fun x => x.1)) (nn_PS20.map (fun x => x.1)) fk_m_note 3 nn_dt238 4 0
theorem fs_m_note_0 {G : fw_K} {R : fw_KR} (hG : fw_cls st_m_note R G) {x i w : Int} {σ : ab_SG} (h : sp_m_isTune [(2, 93, 0), (0, 0, x)] (ab_ups σ 93 0 (fw_c 0)) (fun rv σ2 => G 10 [some (2, 93, 0), some (0, 0, x), some (0, 0, i), some (0, 0, w)] (rv.toList ++ []) σ2)) : G 0 [some (2, 93, 0), some (0, 0, x), some (0, 0, i), some (0, 0, w)] [] σ := fw_on hG [10, 23, 32, 42] 200 h
theorem fs_m_note_10 {G : fw_K} {R : fw_KR} (hG : fw_cls st_m_note R G) {a1 a2 a3 b0 : Int} {σ : ab_SG} (h : (fw_c b0 = 0 → R (some (0, 0, (-1))) σ) ∧ (fw_c b0 ≠ 0 → (fw_c a2 < 0 → R (some (0, 0, (-1))) σ) ∧ (0 ≤ fw_c a2 → sp_m_notes [(2, 93, 0), (0, 0, a1)] σ (fun rv σ2 => G 23 [some (2, 93, 0), some (0, 0, a1), some (0, 0, a2), some (0, 0, a3)] (rv.toList ++ [(0, 0, a2)]) σ2)))) : G 10 [some (2, 93, 0), some (0, 0, a1), some (0, 0, a2), some (0, 0, a3)] [(0, 0, b0)] σ := fw_on hG [10, 23, 32, 42] 200 h
theorem fs_m_note_23 {G : fw_K} {R : fw_KR} (hG : fw_cls st_m_note R G) {a1 a2 a3 b0 b1 : Int} {σ : ab_SG} (h : (fw_c b0 ≤ fw_c b1 → R (some (0, 0, (-1))) σ) ∧ (fw_c b1 < fw_c b0 → sp_m_isIn [(0, 0, a3), (0, 0, 0), (0, 0, 1)] σ (fun rv σ2 => G 32 [some (2, 93, 0), some (0, 0, a1), some (0, 0, a2), some (0, 0, a3)] (rv.toList ++ []) σ2))) : G 23 [some (2, 93, 0), some (0, 0, a1), some (0, 0, a2), some (0, 0, a3)] [(0, 0, b0), (0, 0, b1)] σ := fw_on hG [10, 23, 32, 42] 200 h
theorem fs_m_note_32 {G : fw_K} {R : fw_KR} (hG : fw_cls st_m_note R G) {a1 a2 a3 b0 : Int} {σ : ab_SG} (h : (fw_c b0 = 0 → R (some (0, 0, (-1))) σ) ∧ (fw_c b0 ≠ 0 → sp_m_noteOf [(2, 93, 0), (0, 0, a1), (0, 0, a2), (0, 0, a3)] σ (fun rv σ2 => G 42 [some (2, 93, 0), some (0, 0, a1), some (0, 0, a2), some (0, 0, a3)] (rv.toList ++ []) σ2))) : G 32 [some (2, 93, 0), some (0, 0, a1), some (0, 0, a2), some (0, 0, a3)] [(0, 0, b0)] σ := fw_on hG [10, 23, 32, 42] 200 h
theorem fs_m_note_42 {G : fw_K} {R : fw_KR} (hG : fw_cls st_m_note R G) {a1 a2 a3 b0 : Int} {σ : ab_SG} (h : R (some (0, 0, b0)) σ) : G 42 [some (2, 93, 0), some (0, 0, a1), some (0, 0, a2), some (0, 0, a3)] [(0, 0, b0)] σ := fw_on hG [10, 23, 32, 42] 200 h
abbrev fk_m_when : List fw_CR := [(267, 1, true, 11, 1, sp_m_isTune), (270, 1, true, 11, 1, sp_m_notes), (273, 3, true, 11, 1, sp_m_noteOf)]
abbrev st_m_when : fw_K → fw_KR → fw_K := fw_st vwCl nn_sh nn_kd fw_kv fw_wc (nn_KI20.map (fun x => x.1)) (nn_KJ20.map (fun x => x.1)) (nn_PF20.map (fun x => x.1)) (nn_PS20.map (fun x => x.1)) fk_m_when 2 nn_dt245 5 0
theorem fs_m_when_0 {G : fw_K} {R : fw_KR} (hG : fw_cls st_m_when R G) {x i : Int} {σ : ab_SG} (h : sp_m_isTune [(2, 93, 0), (0, 0, x)] (ab_ups σ 93 0 (fw_c 0)) (fun rv σ2 => G 10 [some (2, 93, 0), some (0, 0, x), some (0, 0, i), none, none] (rv.toList ++ []) σ2)) : G 0 [some (2, 93, 0), some (0, 0, x), some (0, 0, i), none, none] [] σ := fw_on hG [10, 23, 33, 48] 200 h
theorem fs_m_when_10 {G : fw_K} {R : fw_KR} (hG : fw_cls st_m_when R G) {a1 a2 b0 : Int} {σ : ab_SG} (h : (fw_c b0 = 0 → R (some (0, 0, (-1))) σ) ∧ (fw_c b0 ≠ 0 → (fw_c a2 < 0 → R (some (0, 0, (-1))) σ) ∧ (0 ≤ fw_c a2 → sp_m_notes [(2, 93, 0), (0, 0, a1)] σ (fun rv σ2 => G 23 [some (2, 93, 0), some (0, 0, a1), some (0, 0, a2), none, none] (rv.toList ++ [(0, 0, a2)]) σ2)))) : G 10 [some (2, 93, 0), some (0, 0, a1), some (0, 0, a2), none, none] [(0, 0, b0)] σ := fw_on hG [10, 23, 33, 48] 200 h
theorem fs_m_when_23 {G : fw_K} {R : fw_KR} (hG : fw_cls st_m_when R G) {a1 a2 b0 b1 : Int} {σ : ab_SG} (h : (fw_c b1 < fw_c b0 → G 33 [some (2, 93, 0), some (0, 0, a1), some (0, 0, a2), some (0, 0, 0), some (0, 0, 0)] [] σ) ∧ (fw_c b0 ≤ fw_c b1 → R (some (0, 0, (-1))) σ)) : G 23 [some (2, 93, 0), some (0, 0, a1), some (0, 0, a2), none, none] [(0, 0, b0), (0, 0, b1)] σ := fw_on hG [10, 23, 33, 48] 200 h
theorem fs_m_when_33 {G : fw_K} {R : fw_KR} (hG : fw_cls st_m_when R G) {a1 a2 a3 a4 : Int} {σ : ab_SG} (h : (fw_c a2 ≤ fw_c a4 → R (some (0, 0, a3)) σ) ∧ (fw_c a4 < fw_c a2 → sp_m_noteOf [(2, 93, 0), (0, 0, a1), (0, 0, a4), (0, 0, 1)] σ (fun rv σ2 => G 48 [some (2, 93, 0), some (0, 0, a1), some (0, 0, a2), some (0, 0, a3), some (0, 0, a4)] (rv.toList ++ [(0, 0, a3)]) σ2))) : G 33 [some (2, 93, 0), some (0, 0, a1), some (0, 0, a2), some (0, 0, a3), some (0, 0, a4)] [] σ := fw_on hG [10, 23, 33, 48] 200 h
theorem fs_m_when_48 {G : fw_K} {R : fw_KR} (hG : fw_cls st_m_when R G) {a1 a2 a3 a4 b0 b1 : Int} {σ : ab_SG} (h : G 33 [some (2, 93, 0), some (0, 0, a1), some (0, 0, a2), some (0, 0, b1 + b0), some (0, 0, a4 + 1)] [] σ) : G 48 [some (2, 93, 0), some (0, 0, a1), some (0, 0, a2), some (0, 0, a3), some (0, 0, a4)] [(0, 0, b0), (0, 0, b1)] σ := fw_on hG [10, 23, 33, 48] 200 h
abbrev fk_m_tell : List fw_CR := [(270, 1, true, 11, 1, sp_m_notes), (273, 3, true, 11, 1, sp_m_noteOf)]
abbrev st_m_tell : fw_K → fw_KR → fw_K := fw_st vwCl nn_sh nn_kd fw_kv fw_wc (nn_KI20.map (fun x => x.1)) (nn_KJ20.map (fun x => x.1)) (nn_PF20.map (fun x => x.1)) (nn_PS20.map (fun x => x.1)) fk_m_tell 2 nn_dt244 6 0
theorem fs_m_tell_0 {G : fw_K} {R : fw_KR} (hG : fw_cls st_m_tell R G) {x w : Int} {σ : ab_SG} (h : (fw_c w ≠ 0 → (fw_c w ≠ fw_c 3 → sp_m_noteOf [(2, 93, 0), (0, 0, x), (0, 0, 0), (0, 0, 0)] σ (fun rv σ2 => G 26 [some (2, 93, 0), some (0, 0, x), some (0, 0, w), none, none, none] (rv.toList ++ []) σ2)) ∧ (fw_c w = fw_c 3 → G 26 [some (2, 93, 0), some (0, 0, x), some (0, 0, w), none, none, none] [(0, 0, 0)] σ)) ∧ (fw_c w = 0 → sp_m_notes [(2, 93, 0), (0, 0, x)] σ (fun rv σ2 => G 9 [some (2, 93, 0), some (0, 0, x), some (0, 0, w), none, none, none] (rv.toList ++ []) σ2))) : G 0 [some (2, 93, 0), some (0, 0, x), some (0, 0, w), none, none, none] [] σ := fw_on hG [9, 26, 30, 37, 48, 64, 89, 92] 200 h
theorem fs_m_tell_26 {G : fw_K} {R : fw_KR} (hG : fw_cls st_m_tell R G) {a1 a2 b0 : Int} {σ : ab_SG} (h : G 30 [some (2, 93, 0), some (0, 0, a1), some (0, 0, a2), some (0, 0, b0), some (0, 0, 0), none] [] σ) : G 26 [some (2, 93, 0), some (0, 0, a1), some (0, 0, a2), none, none, none] [(0, 0, b0)] σ := fw_on hG [9, 26, 30, 37, 48, 64, 89, 92] 200 h
theorem fs_m_tell_9 {G : fw_K} {R : fw_KR} (hG : fw_cls st_m_tell R G) {a1 a2 b0 : Int} {σ : ab_SG} (h : R (some (0, 0, b0)) σ) : G 9 [some (2, 93, 0), some (0, 0, a1), some (0, 0, a2), none, none, none] [(0, 0, b0)] σ := fw_on hG [9, 26, 30, 37, 48, 64, 89, 92] 200 h
theorem fs_m_tell_30 {G : fw_K} {R : fw_KR} (hG : fw_cls st_m_tell R G) {a1 a2 a3 a4 : Int} {σ : ab_SG} (h : sp_m_notes [(2, 93, 0), (0, 0, a1)] σ (fun rv σ2 => G 37 [some (2, 93, 0), some (0, 0, a1), some (0, 0, a2), some (0, 0, a3), some (0, 0, a4), none] (rv.toList ++ [(0, 0, a4)]) σ2)) : G 30 [some (2, 93, 0), some (0, 0, a1), some (0, 0, a2), some (0, 0, a3), some (0, 0, a4), none] [] σ := fw_on hG [9, 26, 30, 37, 48, 64, 89, 92] 200 h
theorem fs_m_tell_37 {G : fw_K} {R : fw_KR} (hG : fw_cls st_m_tell R G) {a1 a2 a3 a4 b0 b1 : Int} {σ : ab_SG} (h : (fw_c b0 ≤ fw_c b1 → R (some (0, 0, a3)) σ) ∧ (fw_c b1 < fw_c b0 → sp_m_noteOf [(2, 93, 0), (0, 0, a1), (0, 0, a4), (0, 0, 0)] σ (fun rv σ2 => G 48 [some (2, 93, 0), some (0, 0, a1), some (0, 0, a2), some (0, 0, a3), some (0, 0, a4), none] (rv.toList ++ []) σ2))) : G 37 [some (2, 93, 0), some (0, 0, a1), some (0, 0, a2), some (0, 0, a3), some (0, 0, a4), none] [(0, 0, b0), (0, 0, b1)] σ := fw_on hG [9, 26, 30, 37, 48, 64, 89, 92] 200 h
theorem fs_m_tell_48 {G : fw_K} {R : fw_KR} (hG : fw_cls st_m_tell R G) {a1 a2 a3 a4 b0 : Int} {σ : ab_SG} (h : (fw_c a2 ≠ fw_c 3 → (fw_c a2 ≠ fw_c 1 → (fw_c a3 ≤ fw_c b0 → G 92 [some (2, 93, 0), some (0, 0, a1), some (0, 0, a2), some (0, 0, a3), some (0, 0, a4), some (0, 0, b0)] [] σ) ∧ (fw_c b0 < fw_c a3 → G 89 [some (2, 93, 0), some (0, 0, a1), some (0, 0, a2), some (0, 0, a3), some (0, 0, a4), some (0, 0, b0)] [] σ)) ∧ (fw_c a2 = fw_c 1 → (fw_c b0 ≤ fw_c a3 → G 92 [some (2, 93, 0), some (0, 0, a1), some (0, 0, a2), some (0, 0, a3), some (0, 0, a4), some (0, 0, b0)] [] σ) ∧ (fw_c a3 < fw_c b0 → G 89 [some (2, 93, 0), some (0, 0, a1), some (0, 0, a2), some (0, 0, a3), some (0, 0, a4), some (0, 0, b0)] [] σ))) ∧ (fw_c a2 = fw_c 3 → sp_m_noteOf [(2, 93, 0), (0, 0, a1), (0, 0, a4), (0, 0, 1)] σ (fun rv σ2 => G 64 [some (2, 93, 0), some (0, 0, a1), some (0, 0, a2), some (0, 0, a3), some (0, 0, a4), some (0, 0, b0)] (rv.toList ++ [(0, 0, a3)]) σ2))) : G 48 [some (2, 93, 0), some (0, 0, a1), some (0, 0, a2), some (0, 0, a3), some (0, 0, a4), none] [(0, 0, b0)] σ := fw_on hG [9, 26, 30, 37, 48, 64, 89, 92] 200 h
theorem fs_m_tell_92 {G : fw_K} {R : fw_KR} (hG : fw_cls st_m_tell R G) {a1 a2 a3 a4 a5 : Int} {σ : ab_SG} (h : G 30 [some (2, 93, 0), some (0, 0, a1), some (0, 0, a2), some (0, 0, a3), some (0, 0, a4 + 1), some (0, 0, a5)] [] σ) : G 92 [some (2, 93, 0), some (0, 0, a1), some (0, 0, a2), some (0, 0, a3), some (0, 0, a4), some (0, 0, a5)] [] σ := fw_on hG [9, 26, 30, 37, 48, 64, 89, 92] 200 h
theorem fs_m_tell_89 {G : fw_K} {R : fw_KR} (hG : fw_cls st_m_tell R G) {a1 a2 a3 a4 a5 : Int} {σ : ab_SG} (h : G 92 [some (2, 93, 0), some (0, 0, a1), some (0, 0, a2), some (0, 0, a5), some (0, 0, a4), some (0, 0, a5)] [] σ) : G 89 [some (2, 93, 0), some (0, 0, a1), some (0, 0, a2), some (0, 0, a3), some (0, 0, a4), some (0, 0, a5)] [] σ := fw_on hG [9, 26, 30, 37, 48, 64, 89, 92] 200 h
theorem fs_m_tell_64 {G : fw_K} {R : fw_KR} (hG : fw_cls st_m_tell R G) {a1 a2 a3 a4 a5 b0 b1 : Int} {σ : ab_SG} (h : G 92 [some (2, 93, 0), some (0, 0, a1), some (0, 0, a2), some (0, 0, b1 + b0), some (0, 0, a4), some (0, 0, a5)] [] σ) : G 64 [some (2, 93, 0), some (0, 0, a1), some (0, 0, a2), some (0, 0, a3), some (0, 0, a4), some (0, 0, a5)] [(0, 0, b0), (0, 0, b1)] σ := fw_on hG [9, 26, 30, 37, 48, 64, 89, 92] 200 h
theorem fs_m_tell_30a {G : fw_K} {R : fw_KR} (hG : fw_cls st_m_tell R G) {a1 a2 a3 a4 a5 : Int} {σ : ab_SG} (h : sp_m_notes [(2, 93, 0), (0, 0, a1)] σ (fun rv σ2 => G 37 [some (2, 93, 0), some (0, 0, a1), some (0, 0, a2), some (0, 0, a3), some (0, 0, a4), some (0, 0, a5)] (rv.toList ++ [(0, 0, a4)]) σ2)) : G 30 [some (2, 93, 0), some (0, 0, a1), some (0, 0, a2), some (0, 0, a3), some (0, 0, a4), some (0, 0, a5)] [] σ := fw_on hG [9, 26, 30, 37, 48, 64, 89, 92] 200 h
theorem fs_m_tell_37a {G : fw_K} {R : fw_KR} (hG : fw_cls st_m_tell R G) {a1 a2 a3 a4 a5 b0 b1 : Int} {σ : ab_SG} (h : (fw_c b0 ≤ fw_c b1 → R (some (0, 0, a3)) σ) ∧ (fw_c b1 < fw_c b0 → sp_m_noteOf [(2, 93, 0), (0, 0, a1), (0, 0, a4), (0, 0, 0)] σ (fun rv σ2 => G 48 [some (2, 93, 0), some (0, 0, a1), some (0, 0, a2), some (0, 0, a3), some (0, 0, a4), some (0, 0, a5)] (rv.toList ++ []) σ2))) : G 37 [some (2, 93, 0), some (0, 0, a1), some (0, 0, a2), some (0, 0, a3), some (0, 0, a4), some (0, 0, a5)] [(0, 0, b0), (0, 0, b1)] σ := fw_on hG [9, 26, 30, 37, 48, 64, 89, 92] 200 h
theorem fs_m_tell_48a {G : fw_K} {R : fw_KR} (hG : fw_cls st_m_tell R G) {a1 a2 a3 a4 a5 b0 : Int} {σ : ab_SG} (h : (fw_c a2 ≠ fw_c 3 → (fw_c a2 ≠ fw_c 1 → (fw_c a3 ≤ fw_c b0 → G 92 [some (2, 93, 0), some (0, 0, a1), some (0, 0, a2), some (0, 0, a3), some (0, 0, a4), some (0, 0, b0)] [] σ) ∧ (fw_c b0 < fw_c a3 → G 89 [some (2, 93, 0), some (0, 0, a1), some (0, 0, a2), some (0, 0, a3), some (0, 0, a4), some (0, 0, b0)] [] σ)) ∧ (fw_c a2 = fw_c 1 → (fw_c b0 ≤ fw_c a3 → G 92 [some (2, 93, 0), some (0, 0, a1), some (0, 0, a2), some (0, 0, a3), some (0, 0, a4), some (0, 0, b0)] [] σ) ∧ (fw_c a3 < fw_c b0 → G 89 [some (2, 93, 0), some (0, 0, a1), some (0, 0, a2), some (0, 0, a3), some (0, 0, a4), some (0, 0, b0)] [] σ))) ∧ (fw_c a2 = fw_c 3 → sp_m_noteOf [(2, 93, 0), (0, 0, a1), (0, 0, a4), (0, 0, 1)] σ (fun rv σ2 => G 64 [some (2, 93, 0), some (0, 0, a1), some (0, 0, a2), some (0, 0, a3), some (0, 0, a4), some (0, 0, b0)] (rv.toList ++ [(0, 0, a3)]) σ2))) : G 48 [some (2, 93, 0), some (0, 0, a1), some (0, 0, a2), some (0, 0, a3), some (0, 0, a4), some (0, 0, a5)] [(0, 0, b0)] σ := fw_on hG [9, 26, 30, 37, 48, 64, 89, 92] 200 h
abbrev fk_m_tune : List fw_CR := [(171, 3, false, 0, 0, sp_m_isIn), (267, 1, true, 11, 1, sp_m_isTune), (277, 2, true, 11, 2, sp_m_tell)]
abbrev st_m_tune : fw_K → fw_KR → fw_K := fw_st vwCl nn_sh nn_kd fw_kv fw_wc (nn_KI20.map (fun x => x.1)) (nn_KJ20.map (fun x => x.1)) (nn_PF20.map (fun x => x.1)) (nn_PS20.map (fun x => x.1)) fk_m_tune 3 nn_dt243 3 0
theorem fs_m_tune_0 {G : fw_K} {R : fw_KR} (hG : fw_cls st_m_tune R G) {x w : Int} {σ : ab_SG} (h : sp_m_isTune [(2, 93, 0), (0, 0, x)] (ab_ups σ 93 0 (fw_c 0)) (fun rv σ2 => G 10 [some (2, 93, 0), some (0, 0, x), some (0, 0, w)] (rv.toList ++ []) σ2)) : G 0 [some (2, 93, 0), some (0, 0, x), some (0, 0, w)] [] σ := fw_on hG [10, 19, 28] 200 h
theorem fs_m_tune_10 {G : fw_K} {R : fw_KR} (hG : fw_cls st_m_tune R G) {a1 a2 b0 : Int} {σ : ab_SG} (h : (fw_c b0 = 0 → R (some (0, 0, (-1))) σ) ∧ (fw_c b0 ≠ 0 → sp_m_isIn [(0, 0, a2), (0, 0, 0), (0, 0, 3)] σ (fun rv σ2 => G 19 [some (2, 93, 0), some (0, 0, a1), some (0, 0, a2)] (rv.toList ++ []) σ2))) : G 10 [some (2, 93, 0), some (0, 0, a1), some (0, 0, a2)] [(0, 0, b0)] σ := fw_on hG [10, 19, 28] 200 h
theorem fs_m_tune_19 {G : fw_K} {R : fw_KR} (hG : fw_cls st_m_tune R G) {a1 a2 b0 : Int} {σ : ab_SG} (h : (fw_c b0 = 0 → R (some (0, 0, (-1))) σ) ∧ (fw_c b0 ≠ 0 → sp_m_tell [(2, 93, 0), (0, 0, a1), (0, 0, a2)] σ (fun rv σ2 => G 28 [some (2, 93, 0), some (0, 0, a1), some (0, 0, a2)] (rv.toList ++ []) σ2))) : G 19 [some (2, 93, 0), some (0, 0, a1), some (0, 0, a2)] [(0, 0, b0)] σ := fw_on hG [10, 19, 28] 200 h
theorem fs_m_tune_28 {G : fw_K} {R : fw_KR} (hG : fw_cls st_m_tune R G) {a1 a2 b0 : Int} {σ : ab_SG} (h : R (some (0, 0, b0)) σ) : G 28 [some (2, 93, 0), some (0, 0, a1), some (0, 0, a2)] [(0, 0, b0)] σ := fw_on hG [10, 19, 28] 200 h
abbrev fk_m_isClue : List fw_CR := []
abbrev st_m_isClue : fw_K → fw_KR → fw_K := fw_st vwCl nn_sh nn_kd fw_kv fw_wc (nn_KI20.map (fun x => x.1)) (nn_KJ20.map (fun x => x.1)) (nn_PF20.map (fun x => x.1)) (nn_PS20.map (fun x => x.1)) fk_m_isClue 0 nn_dt247 2 1
theorem fs_m_isClue_0 {G : fw_K} {R : fw_KR} (hG : fw_cls st_m_isClue R G) {c : Int} {σ : ab_SG} (h : (fw_c c < 0 → (0 ≤ fw_c 0 ∧ fw_c 0 ≤ 1) ∧ R (some (0, 0, 0)) σ) ∧ (0 ≤ fw_c c → (0 ≤ fw_c 1 ∧ fw_c 1 < ((474 : Nat) : Int)) ∧ ((fw_c (σ 95 (fw_c 1).toNat) ≤ fw_c c → (0 ≤ fw_c 0 ∧ fw_c 0 ≤ 1) ∧ R (some (0, 0, 0)) σ) ∧ (fw_c c < fw_c (σ 95 (fw_c 1).toNat) → (0 ≤ fw_c 1 ∧ fw_c 1 ≤ 1) ∧ R (some (0, 0, 1)) σ)))) : G 0 [some (2, 93, 0), some (0, 0, c)] [] σ := fw_on hG [] 200 h
abbrev fk_m_clue : List fw_CR := [(264, 1, true, 11, 0, sp_m_isClue)]
abbrev st_m_clue : fw_K → fw_KR → fw_K := fw_st vwCl nn_sh nn_kd fw_kv fw_wc (nn_KI20.map (fun x => x.1)) (nn_KJ20.map (fun x => x.1)) (nn_PF20.map (fun x => x.1)) (nn_PS20.map (fun x => x.1)) fk_m_clue 2 nn_dt246 2 0
theorem fs_m_clue_0 {G : fw_K} {R : fw_KR} (hG : fw_cls st_m_clue R G) {c : Int} {σ : ab_SG} (h : sp_m_isClue [(2, 93, 0), (0, 0, c)] (ab_ups σ 93 0 (fw_c 0)) (fun rv σ2 => G 10 [some (2, 93, 0), some (0, 0, c)] (rv.toList ++ []) σ2)) : G 0 [some (2, 93, 0), some (0, 0, c)] [] σ := fw_on hG [10] 200 h
theorem fs_m_clue_10 {G : fw_K} {R : fw_KR} (hG : fw_cls st_m_clue R G) {a1 b0 : Int} {σ : ab_SG} (h : (fw_c b0 = 0 → R (some (0, 0, (-1))) σ) ∧ (fw_c b0 ≠ 0 → (0 ≤ fw_c (176 + a1) ∧ fw_c (176 + a1) < ((474 : Nat) : Int)) ∧ (R (some (0, 0, σ 95 (fw_c (176 + a1)).toNat)) σ))) : G 10 [some (2, 93, 0), some (0, 0, a1)] [(0, 0, b0)] σ := fw_on hG [10] 200 h
section
variable {l : Launch} {cy : Nat → ClassId} {ad wr cr : Nat → Nat} {D : va_G}
theorem fm_at4 (hinj : nn_inj ad) : fw_H l cy ad wr cr D 29 0 (at_k 4 81) := fw_mk hinj (⟨"NameNotes", "at", "([II)I"⟩, prog_1_method_84_code, 2, (Option.some Jvm.ClassFile.FieldType.int), 2, false, 0) rfl rfl nn_KI1_ok nn_KJ1_ok nn_PF1_ok nn_PS1_ok (by decide +kernel) rfl rfl (fun _ h => absurd h List.not_mem_nil) (fun as σ K h => by
  obtain ⟨x, rfl, h1, h2⟩ := h
  exact ⟨rfl, fun G hG => at_gen (k := 4) (n := 81) (K := K) (σ := σ) (x := x) (by decide) (fs_at4_0 hG) h1 h2⟩)
theorem fm_at5 (hinj : nn_inj ad) : fw_H l cy ad wr cr D 29 0 (at_k 5 81) := fw_mk hinj (⟨"NameNotes", "at", "([II)I"⟩, prog_1_method_84_code, 2, (Option.some Jvm.ClassFile.FieldType.int), 2, false, 0) rfl rfl nn_KI1_ok nn_KJ1_ok nn_PF1_ok nn_PS1_ok (by decide +kernel) rfl rfl (fun _ h => absurd h List.not_mem_nil) (fun as σ K h => by
  obtain ⟨x, rfl, h1, h2⟩ := h
  exact ⟨rfl, fun G hG => at_gen (k := 5) (n := 81) (K := K) (σ := σ) (x := x) (by decide) (fs_at5_0 hG) h1 h2⟩)
theorem fm_at6 (hinj : nn_inj ad) : fw_H l cy ad wr cr D 29 0 (at_k 6 9) := fw_mk hinj (⟨"NameNotes", "at", "([II)I"⟩, prog_1_method_84_code, 2, (Option.some Jvm.ClassFile.FieldType.int), 2, false, 0) rfl rfl nn_KI1_ok nn_KJ1_ok nn_PF1_ok nn_PS1_ok (by decide +kernel) rfl rfl (fun _ h => absurd h List.not_mem_nil) (fun as σ K h => by
  obtain ⟨x, rfl, h1, h2⟩ := h
  exact ⟨rfl, fun G hG => at_gen (k := 6) (n := 9) (K := K) (σ := σ) (x := x) (by decide) (fs_at6_0 hG) h1 h2⟩)
theorem fm_at7 (hinj : nn_inj ad) : fw_H l cy ad wr cr D 29 0 (at_k 7 324) := fw_mk hinj (⟨"NameNotes", "at", "([II)I"⟩, prog_1_method_84_code, 2, (Option.some Jvm.ClassFile.FieldType.int), 2, false, 0) rfl rfl nn_KI1_ok nn_KJ1_ok nn_PF1_ok nn_PS1_ok (by decide +kernel) rfl rfl (fun _ h => absurd h List.not_mem_nil) (fun as σ K h => by
  obtain ⟨x, rfl, h1, h2⟩ := h
  exact ⟨rfl, fun G hG => at_gen (k := 7) (n := 324) (K := K) (σ := σ) (x := x) (by decide) (fs_at7_0 hG) h1 h2⟩)
theorem fm_at8 (hinj : nn_inj ad) : fw_H l cy ad wr cr D 29 0 (at_k 8 6) := fw_mk hinj (⟨"NameNotes", "at", "([II)I"⟩, prog_1_method_84_code, 2, (Option.some Jvm.ClassFile.FieldType.int), 2, false, 0) rfl rfl nn_KI1_ok nn_KJ1_ok nn_PF1_ok nn_PS1_ok (by decide +kernel) rfl rfl (fun _ h => absurd h List.not_mem_nil) (fun as σ K h => by
  obtain ⟨x, rfl, h1, h2⟩ := h
  exact ⟨rfl, fun G hG => at_gen (k := 8) (n := 6) (K := K) (σ := σ) (x := x) (by decide) (fs_at8_0 hG) h1 h2⟩)
theorem fm_atn (hinj : nn_inj ad) : fw_H l cy ad wr cr D 29 0 sp_atn := fw_H_of (List.forall_mem_cons.mpr ⟨fm_at4 hinj, (List.forall_mem_cons.mpr ⟨fm_at5 hinj, (List.forall_mem_cons.mpr ⟨fm_at6 hinj, (List.forall_mem_cons.mpr ⟨fm_at7 hinj, (List.forall_mem_cons.mpr ⟨fm_at8 hinj, (fun _ h => absurd h List.not_mem_nil)⟩)⟩)⟩)⟩)⟩)
theorem fm_hasNote3 (hinj : nn_inj ad) : fw_H l cy ad wr cr D 45 1 sp_hasNote3 := fw_mk hinj (⟨"NameNotes$Studio", "hasNote", "(II)Z"⟩, prog_8_method_10_code, 3, (Option.some Jvm.ClassFile.FieldType.boolean), 2, true, 1) rfl rfl nn_KI6_ok nn_KJ6_ok nn_PF6_ok nn_PS6_ok (by decide +kernel) rfl rfl (List.forall_mem_cons.mpr ⟨fw_row nn_PM6_ok (x := 92) (k := 2) (mn := 29) (np := 2) (ob := false) (ci := 0) (⟨"NameNotes", "at", "([II)I"⟩, prog_1_method_84_code, 2, (Option.some Jvm.ClassFile.FieldType.int), 2, false, 0) rfl (by decide +kernel) rfl rfl (by decide) (fun q => by cases q) (fm_atn hinj), (List.forall_mem_cons.mpr ⟨fw_row nn_PM6_ok (x := 96) (k := 0) (mn := 46) (np := 1) (ob := true) (ci := 6) (⟨"NameNotes$Studio", "isTune", "(I)Z"⟩, prog_8_method_4_code, 2, (Option.some Jvm.ClassFile.FieldType.boolean), 1, true, 1) rfl (by decide +kernel) rfl rfl (by decide) (fun _ => ⟨_, _, rfl⟩) (fm_isTune3 hinj), (fun _ h => absurd h List.not_mem_nil)⟩)⟩) (fun as σ K h => by
  obtain ⟨A, x, i, rfl, ⟨ex, ei⟩, hN, h⟩ := h
  have n := N_n hN.1
  refine ⟨rfl, fun G hG => fs_hasNote3_0 hG ⟨x, rfl, fs_hasNote3_5 hG ?_⟩⟩
  rw [c_tu_v hN ex, ei]
  refine ⟨fun q => ⟨fw_01, ?_⟩, fun q => ⟨fun q2 => ⟨fw_01, ?_⟩, fun q2 => ?_⟩⟩
  · rw [fw_bo_f (fun z => fw_bo_eq q z.1)] at h
    exact h
  · rw [fw_bo_f (fun z => absurd z.2.1 (by omega))] at h
    exact h
  · have qx := fw_bo_ne q
    obtain ⟨x', rfl⟩ := Int.eq_ofNat_of_zero_le qx.1
    obtain ⟨s9, s1, s2⟩ := N_sz hN.1 hN.2.1 qx.2
    refine ⟨(6, 9), by decide, _, rfl, fun _ => fs_hasNote3_21 hG ?_, fun z => absurd (by rw [ex]; exact ⟨qx.1, by omega⟩) z⟩
    rw [ex, Int.toNat_natCast, NC_sz hN qx.2, ei, fw_s (x := A 52 x') (by omega) (by omega)]
    refine ⟨fun z => ⟨fw_01, ?_⟩, fun z => ⟨by rw [fw_c1]; decide, ?_⟩⟩
    · rw [fw_bo_f (fun y => absurd y.2.2 (by rw [Int.toNat_natCast]; omega))] at h
      exact h
    · rw [fw_bo_t ⟨qx, q2, by rw [Int.toNat_natCast]; exact z⟩] at h
      exact h)
theorem fm_pitch3 (hinj : nn_inj ad) : fw_H l cy ad wr cr D 47 1 sp_pitch3 := fw_mk hinj (⟨"NameNotes$Studio", "pitch", "(II)I"⟩, prog_8_method_11_code, 3, (Option.some Jvm.ClassFile.FieldType.int), 2, true, 0) rfl rfl nn_KI6_ok nn_KJ6_ok nn_PF6_ok nn_PS6_ok (by decide +kernel) rfl rfl (List.forall_mem_cons.mpr ⟨fw_row nn_PM6_ok (x := 92) (k := 2) (mn := 29) (np := 2) (ob := false) (ci := 0) (⟨"NameNotes", "at", "([II)I"⟩, prog_1_method_84_code, 2, (Option.some Jvm.ClassFile.FieldType.int), 2, false, 0) rfl (by decide +kernel) rfl rfl (by decide) (fun q => by cases q) (fm_atn hinj), (fun _ h => absurd h List.not_mem_nil)⟩) (fun as σ K h => by
  obtain ⟨A, x, i, rfl, hN, hx, hi, h⟩ := h
  obtain ⟨s9, s1, s2⟩ := N_sz hN.1 hN.2.1 hx
  have e : fw_c ((x : Int) * 9 + (i : Int)) = ((x * 9 + i : Nat) : Int) := by rw [fw_c_id (by omega) (by omega)]; omega
  refine ⟨rfl, fun G hG => fs_pitch3_0 hG ⟨(4, 81), by decide, _, rfl, fun _ => fs_pitch3_13 hG ?_, fun z => absurd (by rw [e]; exact ⟨Int.natCast_nonneg _, by omega⟩) z⟩⟩
  rw [e, Int.toNat_natCast, (NC_nt hN hx hi).1]
  exact h)
theorem fm_beat3 (hinj : nn_inj ad) : fw_H l cy ad wr cr D 48 1 sp_beat3 := fw_mk hinj (⟨"NameNotes$Studio", "beat", "(II)I"⟩, prog_8_method_12_code, 3, (Option.some Jvm.ClassFile.FieldType.int), 2, true, 0) rfl rfl nn_KI6_ok nn_KJ6_ok nn_PF6_ok nn_PS6_ok (by decide +kernel) rfl rfl (List.forall_mem_cons.mpr ⟨fw_row nn_PM6_ok (x := 92) (k := 2) (mn := 29) (np := 2) (ob := false) (ci := 0) (⟨"NameNotes", "at", "([II)I"⟩, prog_1_method_84_code, 2, (Option.some Jvm.ClassFile.FieldType.int), 2, false, 0) rfl (by decide +kernel) rfl rfl (by decide) (fun q => by cases q) (fm_atn hinj), (fun _ h => absurd h List.not_mem_nil)⟩) (fun as σ K h => by
  obtain ⟨A, x, i, rfl, hN, hx, hi, h⟩ := h
  obtain ⟨s9, s1, s2⟩ := N_sz hN.1 hN.2.1 hx
  have e : fw_c ((x : Int) * 9 + (i : Int)) = ((x * 9 + i : Nat) : Int) := by rw [fw_c_id (by omega) (by omega)]; omega
  refine ⟨rfl, fun G hG => fs_beat3_0 hG ⟨(5, 81), by decide, _, rfl, fun _ => fs_beat3_13 hG ?_, fun z => absurd (by rw [e]; exact ⟨Int.natCast_nonneg _, by omega⟩) z⟩⟩
  rw [e, Int.toNat_natCast, (NC_nt hN hx hi).2]
  exact h)
theorem fm_isPart (hinj : nn_inj ad) : fw_H l cy ad wr cr D 55 0 sp_isPart := fw_mk hinj (⟨"NameNotes", "isPart", "(I)Z"⟩, prog_1_method_77_code, 1, (Option.some Jvm.ClassFile.FieldType.boolean), 1, false, 1) rfl rfl nn_KI1_ok nn_KJ1_ok nn_PF1_ok nn_PS1_ok (by decide +kernel) rfl rfl (fun _ h => absurd h List.not_mem_nil) (fun as σ K h => by
  obtain ⟨w, rfl, ew, h⟩ := h
  refine ⟨rfl, fun G hG => fs_isPart_0 hG ?_⟩
  rw [ew, fw_c1]
  refine ⟨fun q => ⟨by decide, ?_⟩, fun q => ⟨fun q2 => ⟨fw_01, ?_⟩, fun q2 => ⟨by decide, ?_⟩⟩⟩
  · rw [fw_bo_t (Or.inl q)] at h
    exact h
  · rw [fw_bo_f (fun z => z.elim q q2)] at h
    exact h
  · rw [fw_bo_t (Or.inr q2)] at h
    exact h)
theorem fm_isMeasure (hinj : nn_inj ad) : fw_H l cy ad wr cr D 57 0 sp_isMeasure := fw_mk hinj (⟨"NameNotes", "isMeasure", "(I)Z"⟩, prog_1_method_74_code, 1, (Option.some Jvm.ClassFile.FieldType.boolean), 1, false, 1) rfl rfl nn_KI1_ok nn_KJ1_ok nn_PF1_ok nn_PS1_ok (by decide +kernel) rfl rfl (fun _ h => absurd h List.not_mem_nil) (fun as σ K h => by
  obtain ⟨w, rfl, ew, h⟩ := h
  refine ⟨rfl, fun G hG => fs_isMeasure_0 hG ?_⟩
  rw [ew, fw_s (x := 4) (by decide) (by decide)]
  refine ⟨fun q => ⟨fw_01, ?_⟩, fun q => ⟨fun q2 => ⟨fw_01, ?_⟩, fun q2 => ⟨by rw [fw_c1]; decide, ?_⟩⟩⟩
  · rw [fw_bo_f (fun z => by omega)] at h
    exact h
  · rw [fw_bo_f (fun z => by omega)] at h
    exact h
  · rw [fw_bo_t ⟨q, by omega⟩] at h
    exact h)
theorem fm_note (hinj : nn_inj ad) : fw_H l cy ad wr cr D 54 2 sp_note := fw_mk hinj (⟨"NameNotes", "note", "(III)I"⟩, prog_1_method_6_code, 4, (Option.some Jvm.ClassFile.FieldType.int), 3, true, 0) rfl rfl nn_KI1_ok nn_KJ1_ok nn_PF1_ok nn_PS1_ok (by decide +kernel) rfl rfl (List.forall_mem_cons.mpr ⟨fw_row nn_PM1_ok (x := 142) (k := 0) (mn := 45) (np := 2) (ob := true) (ci := 6) (⟨"NameNotes$Studio", "hasNote", "(II)Z"⟩, prog_8_method_10_code, 3, (Option.some Jvm.ClassFile.FieldType.boolean), 2, true, 1) rfl (by decide +kernel) rfl rfl (by decide) (fun _ => ⟨_, _, rfl⟩) (fm_hasNote3 hinj), (List.forall_mem_cons.mpr ⟨fw_row nn_PM1_ok (x := 146) (k := 0) (mn := 55) (np := 1) (ob := false) (ci := 0) (⟨"NameNotes", "isPart", "(I)Z"⟩, prog_1_method_77_code, 1, (Option.some Jvm.ClassFile.FieldType.boolean), 1, false, 1) rfl (by decide +kernel) rfl rfl (by decide) (fun q => by cases q) (fm_isPart hinj), (List.forall_mem_cons.mpr ⟨fw_row nn_PM1_ok (x := 150) (k := 0) (mn := 47) (np := 2) (ob := true) (ci := 6) (⟨"NameNotes$Studio", "pitch", "(II)I"⟩, prog_8_method_11_code, 3, (Option.some Jvm.ClassFile.FieldType.int), 2, true, 0) rfl (by decide +kernel) rfl rfl (by decide) (fun _ => ⟨_, _, rfl⟩) (fm_pitch3 hinj), (List.forall_mem_cons.mpr ⟨fw_row nn_PM1_ok (x := 154) (k := 0) (mn := 48) (np := 2) (ob := true) (ci := 6) (⟨"NameNotes$Studio", "beat", "(II)I"⟩, prog_8_method_12_code, 3, (Option.some Jvm.ClassFile.FieldType.int), 2, true, 0) rfl (by decide +kernel) rfl rfl (by decide) (fun _ => ⟨_, _, rfl⟩) (fm_beat3 hinj), (fun _ h => absurd h List.not_mem_nil)⟩)⟩)⟩)⟩) (fun as σ K h => by
  obtain ⟨A, x, i, w, rfl, ⟨ex, ei, ew⟩, hN, h⟩ := h
  unfold v_note at h
  refine ⟨rfl, fun G hG => fs_note_0 hG ⟨A, x, i, rfl, ⟨ex, ei⟩, hN, fs_note_9 hG ⟨fun q => ?_, fun q => ⟨w, rfl, ew, fs_note_16 hG ⟨fun q2 => ?_, fun q2 => ?_⟩⟩⟩⟩⟩
  · rw [if_neg (fun z => fw_bo_eq q z.1)] at h
    exact h
  · have hh := fw_bo_ne q
    have hw := fw_bo_ne q2
    rw [if_pos ⟨hh, hw⟩] at h
    obtain ⟨⟨x0, x1⟩, ⟨i0, i1⟩⟩ := hh
    obtain ⟨x', rfl⟩ := Int.eq_ofNat_of_zero_le x0
    obtain ⟨i', rfl⟩ := Int.eq_ofNat_of_zero_le i0
    rw [Int.toNat_natCast] at i1 h
    rw [Int.toNat_natCast] at h
    rw [ew]
    refine ⟨fun q3 => ⟨A, x', i', rfl, hN, x1, i1, fs_note_46 hG ?_⟩, fun q3 => ⟨A, x', i', rfl, hN, x1, i1, fs_note_34 hG (fs_note_46 hG ?_)⟩⟩
    · rw [if_neg q3] at h
      exact h
    · rw [if_pos q3] at h
      exact h
  · rw [if_neg (fun z => fw_bo_eq q2 z.2)] at h
    exact h)
theorem fm_when (hinj : nn_inj ad) : fw_H l cy ad wr cr D 61 2 sp_when := fw_mk hinj (⟨"NameNotes", "when", "(II)I"⟩, prog_1_method_8_code, 5, (Option.some Jvm.ClassFile.FieldType.int), 2, true, 0) rfl rfl nn_KI1_ok nn_KJ1_ok nn_PF1_ok nn_PS1_ok (by decide +kernel) rfl rfl (List.forall_mem_cons.mpr ⟨fw_row nn_PM1_ok (x := 142) (k := 0) (mn := 45) (np := 2) (ob := true) (ci := 6) (⟨"NameNotes$Studio", "hasNote", "(II)Z"⟩, prog_8_method_10_code, 3, (Option.some Jvm.ClassFile.FieldType.boolean), 2, true, 1) rfl (by decide +kernel) rfl rfl (by decide) (fun _ => ⟨_, _, rfl⟩) (fm_hasNote3 hinj), (List.forall_mem_cons.mpr ⟨fw_row nn_PM1_ok (x := 154) (k := 0) (mn := 48) (np := 2) (ob := true) (ci := 6) (⟨"NameNotes$Studio", "beat", "(II)I"⟩, prog_8_method_12_code, 3, (Option.some Jvm.ClassFile.FieldType.int), 2, true, 0) rfl (by decide +kernel) rfl rfl (by decide) (fun _ => ⟨_, _, rfl⟩) (fm_beat3 hinj), (fun _ h => absurd h List.not_mem_nil)⟩)⟩) (fun as σ K h => by
  obtain ⟨A, x, i, rfl, ⟨ex, ei⟩, hN, h⟩ := h
  unfold v_when at h
  refine ⟨rfl, fun G hG => fs_when_0 hG ⟨A, x, i, rfl, ⟨ex, ei⟩, hN, fs_when_9 hG ⟨fun q => ?_, fun q => ?_⟩⟩⟩
  · have hh := fw_bo_ne q
    rw [if_pos hh] at h
    obtain ⟨⟨x0, x1⟩, ⟨i0, i1⟩⟩ := hh
    obtain ⟨x', rfl⟩ := Int.eq_ofNat_of_zero_le x0
    obtain ⟨i', rfl⟩ := Int.eq_ofNat_of_zero_le i0
    rw [Int.toNat_natCast] at i1 h
    rw [Int.toNat_natCast] at h
    obtain ⟨s9, s1, s2⟩ := N_sz hN.1 hN.2.1 x1
    have loop : ∀ (f n : Nat), n + f = i' → G 19 [some (2, 0, 0), some (0, 0, (x' : Int)), some (0, 0, (i' : Int)), some (0, 0, v_sum A x' n), some (0, 0, (n : Int))] [] σ := by
      intro f
      induction f with
      | zero =>
        intro n hn
        have e : n = i' := by omega
        subst e
        exact fs_when_19 hG ⟨fun _ => h, fun z => absurd z (Int.lt_irrefl _)⟩
      | succ f ih =>
        intro n hn
        refine fs_when_19 hG ⟨fun z => ?_, fun _ => ⟨A, x', n, rfl, hN, x1, by omega, fs_when_36 hG (ih (n + 1) (by omega))⟩⟩
        rw [fw_s (x := (i' : Int)) (by omega) (by omega), fw_s (x := (n : Int)) (by omega) (by omega)] at z
        omega
    exact loop i' 0 (Nat.zero_add _)
  · rw [if_neg (fw_bo_eq q)] at h
    exact h)
theorem fm_measure3 (hinj : nn_inj ad) : fw_H l cy ad wr cr D 58 2 sp_measure3 := fw_mk hinj (⟨"NameNotes$Studio", "measure", "(II)I"⟩, prog_8_method_15_code, 8, (Option.some Jvm.ClassFile.FieldType.int), 2, true, 0) rfl rfl nn_KI6_ok nn_KJ6_ok nn_PF6_ok nn_PS6_ok (by decide +kernel) rfl rfl (List.forall_mem_cons.mpr ⟨fw_row nn_PM6_ok (x := 92) (k := 2) (mn := 29) (np := 2) (ob := false) (ci := 0) (⟨"NameNotes", "at", "([II)I"⟩, prog_1_method_84_code, 2, (Option.some Jvm.ClassFile.FieldType.int), 2, false, 0) rfl (by decide +kernel) rfl rfl (by decide) (fun q => by cases q) (fm_atn hinj), (List.forall_mem_cons.mpr ⟨fw_row nn_PM6_ok (x := 103) (k := 0) (mn := 47) (np := 2) (ob := true) (ci := 6) (⟨"NameNotes$Studio", "pitch", "(II)I"⟩, prog_8_method_11_code, 3, (Option.some Jvm.ClassFile.FieldType.int), 2, true, 0) rfl (by decide +kernel) rfl rfl (by decide) (fun _ => ⟨_, _, rfl⟩) (fm_pitch3 hinj), (List.forall_mem_cons.mpr ⟨fw_row nn_PM6_ok (x := 115) (k := 0) (mn := 48) (np := 2) (ob := true) (ci := 6) (⟨"NameNotes$Studio", "beat", "(II)I"⟩, prog_8_method_12_code, 3, (Option.some Jvm.ClassFile.FieldType.int), 2, true, 0) rfl (by decide +kernel) rfl rfl (by decide) (fun _ => ⟨_, _, rfl⟩) (fm_beat3 hinj), (fun _ h => absurd h List.not_mem_nil)⟩)⟩)⟩) (fun as σ K h => by
  obtain ⟨A, x, w, rfl, hN, hx, ⟨w0, w3⟩, h⟩ := h
  obtain ⟨s9, s1, s2⟩ := N_sz hN.1 hN.2.1 hx
  have ex : fw_c (x : Int) = (x : Int) := fw_s (by omega) (by omega)
  obtain ⟨N, eN⟩ := Int.eq_ofNat_of_zero_le (show 0 ≤ A 52 x by omega)
  unfold v_meas at h
  rw [eN, Int.toNat_natCast] at h
  refine ⟨rfl, fun G hG => fs_measure3_0 hG ⟨(6, 9), by decide, _, rfl, fun _ => fs_measure3_8 hG ?_, fun z => absurd (by rw [ex]; exact ⟨Int.natCast_nonneg _, by omega⟩) z⟩⟩
  rw [ex, Int.toNat_natCast, NC_sz hN hx, eN]
  have loop : ∀ (f n : Nat), n + f = N → G 22 [some (2, 3, 0), some (0, 0, (x : Int)), some (0, 0, w), some (0, 0, (N : Int)), some (0, 0, v_max A x n), some (0, 0, v_min A x n), some (0, 0, v_sum A x n), some (0, 0, (n : Int))] [] σ := by
    intro f
    induction f with
    | zero =>
      intro n hn
      have e : n = N := by omega
      subst e
      refine fs_measure3_22 hG ⟨fun _ => ⟨fun q0 => ⟨fun q1 => ⟨fun q2 => ?_, fun q2 => ?_⟩, fun q1 => ?_⟩, fun q0 => ?_⟩, fun z => absurd z (Int.lt_irrefl _)⟩
      · rw [fw_s (x := w) (by omega) (by omega)] at q0 q1 q2
        rw [fw_c1] at q1
        rw [fw_s (x := 2) (by decide) (by decide)] at q2
        rw [if_neg q0, if_neg q1, if_neg q2] at h
        exact h
      · rw [fw_s (x := w) (by omega) (by omega)] at q0 q1 q2
        rw [fw_c1] at q1
        rw [fw_s (x := 2) (by decide) (by decide)] at q2
        rw [if_neg q0, if_neg q1, if_pos q2] at h
        exact h
      · rw [fw_s (x := w) (by omega) (by omega)] at q0 q1
        rw [fw_c1] at q1
        rw [if_neg q0, if_pos q1] at h
        exact h
      · rw [fw_s (x := w) (by omega) (by omega)] at q0
        rw [if_pos q0] at h
        exact h
    | succ f ih =>
      intro n hn
      have a1 := v_max_b hN.2.1 hx n (by omega)
      have a2 := v_min_b hN.2.1 hx n (by omega)
      have a3 := (N_nt hN.2.1 hx (i := n) (by omega)).1
      refine fs_measure3_22 hG ⟨fun z => ?_, fun _ => ⟨A, x, n, rfl, hN, hx, by omega, fs_measure3_37 hG ⟨A, x, n, rfl, hN, hx, by omega, fs_measure3_51 hG ⟨A, x, n, rfl, hN, hx, by omega, fs_measure3_65 hG ?_⟩⟩⟩⟩
      · rw [fw_s (x := (N : Int)) (by omega) (by omega), fw_s (x := (n : Int)) (by omega) (by omega)] at z
        omega
      · have hn := ih (n + 1) (by omega)
        rw [v_max_s, v_min_s, v_sum_s] at hn
        rw [fw_s (x := v_max A x n) (by omega) (by omega), fw_s (x := v_min A x n) (by omega) (by omega), fw_s (x := A 50 (x * 9 + n)) (by omega) (by omega)]
        exact hn
  exact loop N 0 (Nat.zero_add _))
theorem fm_tune (hinj : nn_inj ad) : fw_H l cy ad wr cr D 56 3 sp_tune := fw_mk hinj (⟨"NameNotes", "tune", "(II)I"⟩, prog_1_method_7_code, 3, (Option.some Jvm.ClassFile.FieldType.int), 2, true, 0) rfl rfl nn_KI1_ok nn_KJ1_ok nn_PF1_ok nn_PS1_ok (by decide +kernel) rfl rfl (List.forall_mem_cons.mpr ⟨fw_row nn_PM1_ok (x := 157) (k := 0) (mn := 46) (np := 1) (ob := true) (ci := 6) (⟨"NameNotes$Studio", "isTune", "(I)Z"⟩, prog_8_method_4_code, 2, (Option.some Jvm.ClassFile.FieldType.boolean), 1, true, 1) rfl (by decide +kernel) rfl rfl (by decide) (fun _ => ⟨_, _, rfl⟩) (fm_isTune3 hinj), (List.forall_mem_cons.mpr ⟨fw_row nn_PM1_ok (x := 160) (k := 0) (mn := 57) (np := 1) (ob := false) (ci := 0) (⟨"NameNotes", "isMeasure", "(I)Z"⟩, prog_1_method_74_code, 1, (Option.some Jvm.ClassFile.FieldType.boolean), 1, false, 1) rfl (by decide +kernel) rfl rfl (by decide) (fun q => by cases q) (fm_isMeasure hinj), (List.forall_mem_cons.mpr ⟨fw_row nn_PM1_ok (x := 163) (k := 0) (mn := 58) (np := 2) (ob := true) (ci := 6) (⟨"NameNotes$Studio", "measure", "(II)I"⟩, prog_8_method_15_code, 8, (Option.some Jvm.ClassFile.FieldType.int), 2, true, 0) rfl (by decide +kernel) rfl rfl (by decide) (fun _ => ⟨_, _, rfl⟩) (fm_measure3 hinj), (fun _ h => absurd h List.not_mem_nil)⟩)⟩)⟩) (fun as σ K h => by
  obtain ⟨A, x, w, rfl, ⟨ex, ew⟩, hN, h⟩ := h
  unfold v_tune at h
  refine ⟨rfl, fun G hG => fs_tune_0 hG ⟨x, rfl, fs_tune_8 hG ?_⟩⟩
  rw [c_tu_v hN ex]
  refine ⟨fun q => ?_, fun q => ⟨w, rfl, ew, fs_tune_15 hG ⟨fun q2 => ?_, fun q2 => ?_⟩⟩⟩
  · rw [if_neg (fun z => fw_bo_eq q z.1)] at h
    exact h
  · rw [if_neg (fun z => fw_bo_eq q2 z.2)] at h
    exact h
  · have hh := fw_bo_ne q
    have hw := fw_bo_ne q2
    rw [if_pos ⟨hh, hw⟩] at h
    obtain ⟨x', rfl⟩ := Int.eq_ofNat_of_zero_le hh.1
    rw [Int.toNat_natCast] at h
    exact ⟨A, x', w, rfl, hN, hh.2, hw, fs_tune_27 hG h⟩)
theorem fm_isClue3 (hinj : nn_inj ad) : fw_H l cy ad wr cr D 63 0 sp_isClue3 := fw_mk hinj (⟨"NameNotes$Studio", "isClue", "(I)Z"⟩, prog_8_method_5_code, 2, (Option.some Jvm.ClassFile.FieldType.boolean), 1, true, 1) rfl rfl nn_KI6_ok nn_KJ6_ok nn_PF6_ok nn_PS6_ok (by decide +kernel) rfl rfl (fun _ h => absurd h List.not_mem_nil) (fun as σ K h => by
  obtain ⟨A, c, rfl, ec, hN, h⟩ := h
  have n := N_n hN.1
  refine ⟨rfl, fun G hG => fs_isClue3_0 hG ?_⟩
  rw [ec, (NC_n hN).2.1, fw_s (x := A 49 12) (by omega) (by omega)]
  refine ⟨fun q => ⟨fw_01, ?_⟩, fun q => ⟨fun q2 => ⟨fw_01, ?_⟩, fun q2 => ⟨by rw [fw_c1]; decide, ?_⟩⟩⟩
  · rw [fw_bo_f (fun z => by omega)] at h
    exact h
  · rw [fw_bo_f (fun z => by omega)] at h
    exact h
  · rw [fw_bo_t ⟨q, q2⟩] at h
    exact h)
theorem fm_allTunes3 (hinj : nn_inj ad) : fw_H l cy ad wr cr D 65 0 sp_allTunes3 := fw_mk hinj (⟨"NameNotes$Studio", "allTunes", "()I"⟩, prog_8_method_9_code, 1, (Option.some Jvm.ClassFile.FieldType.int), 0, true, 0) rfl rfl nn_KI6_ok nn_KJ6_ok nn_PF6_ok nn_PS6_ok (by decide +kernel) rfl rfl (fun _ h => absurd h List.not_mem_nil) (fun as σ K h => by
  obtain ⟨A, rfl, hN, h⟩ := h
  have n := N_n hN.1
  obtain ⟨N, eN⟩ := Int.eq_ofNat_of_zero_le n.1.1
  refine ⟨rfl, fun G hG => fs_allTunes3_0 hG ?_⟩
  rw [(NC_n hN).1, eN, p2_sh N (by omega), ← eN]
  exact h)
theorem fm_setOf3 (hinj : nn_inj ad) : fw_H l cy ad wr cr D 64 1 sp_setOf3 := fw_mk hinj (⟨"NameNotes$Studio", "setOf", "(I)I"⟩, prog_8_method_8_code, 2, (Option.some Jvm.ClassFile.FieldType.int), 1, true, 0) rfl rfl nn_KI6_ok nn_KJ6_ok nn_PF6_ok nn_PS6_ok (by decide +kernel) rfl rfl (List.forall_mem_cons.mpr ⟨fw_row nn_PM6_ok (x := 88) (k := 0) (mn := 65) (np := 0) (ob := true) (ci := 6) (⟨"NameNotes$Studio", "allTunes", "()I"⟩, prog_8_method_9_code, 1, (Option.some Jvm.ClassFile.FieldType.int), 0, true, 0) rfl (by decide +kernel) rfl rfl (by decide) (fun _ => ⟨_, _, rfl⟩) (fm_allTunes3 hinj), (List.forall_mem_cons.mpr ⟨fw_row nn_PM6_ok (x := 92) (k := 2) (mn := 29) (np := 2) (ob := false) (ci := 0) (⟨"NameNotes", "at", "([II)I"⟩, prog_1_method_84_code, 2, (Option.some Jvm.ClassFile.FieldType.int), 2, false, 0) rfl (by decide +kernel) rfl rfl (by decide) (fun q => by cases q) (fm_atn hinj), (fun _ h => absurd h List.not_mem_nil)⟩)⟩) (fun as σ K h => by
  obtain ⟨A, c, rfl, hN, ⟨c0, c1⟩, h⟩ := h
  have n := N_n hN.1
  unfold v_set at h
  refine ⟨rfl, fun G hG => fs_setOf3_0 hG ?_⟩
  rw [fw_s (x := c) (by omega) (by omega), fw_s (x := -1) (by decide) (by decide)]
  refine ⟨fun q => ?_, fun q => ⟨A, rfl, hN, fs_setOf3_9 hG (fs_setOf3_20 hG ?_)⟩⟩
  · obtain ⟨c', rfl⟩ := Int.eq_ofNat_of_zero_le (show 0 ≤ c by omega)
    have ec : fw_c (c' : Int) = (c' : Int) := fw_s (by omega) (by omega)
    rw [if_neg q, Int.toNat_natCast] at h
    refine ⟨(8, 6), by decide, _, rfl, fun _ => fs_setOf3_20 hG ?_, fun z => absurd (by rw [ec]; exact ⟨Int.natCast_nonneg _, by omega⟩) z⟩
    rw [ec, Int.toNat_natCast, NC_cl hN c1]
    exact h
  · rw [if_pos q] at h
    exact h)
theorem fm_clue (hinj : nn_inj ad) : fw_H l cy ad wr cr D 62 2 sp_clue := fw_mk hinj (⟨"NameNotes", "clue", "(I)I"⟩, prog_1_method_9_code, 2, (Option.some Jvm.ClassFile.FieldType.int), 1, true, 0) rfl rfl nn_KI1_ok nn_KJ1_ok nn_PF1_ok nn_PS1_ok (by decide +kernel) rfl rfl (List.forall_mem_cons.mpr ⟨fw_row nn_PM1_ok (x := 166) (k := 0) (mn := 63) (np := 1) (ob := true) (ci := 6) (⟨"NameNotes$Studio", "isClue", "(I)Z"⟩, prog_8_method_5_code, 2, (Option.some Jvm.ClassFile.FieldType.boolean), 1, true, 1) rfl (by decide +kernel) rfl rfl (by decide) (fun _ => ⟨_, _, rfl⟩) (fm_isClue3 hinj), (List.forall_mem_cons.mpr ⟨fw_row nn_PM1_ok (x := 169) (k := 0) (mn := 64) (np := 1) (ob := true) (ci := 6) (⟨"NameNotes$Studio", "setOf", "(I)I"⟩, prog_8_method_8_code, 2, (Option.some Jvm.ClassFile.FieldType.int), 1, true, 0) rfl (by decide +kernel) rfl rfl (by decide) (fun _ => ⟨_, _, rfl⟩) (fm_setOf3 hinj), (fun _ h => absurd h List.not_mem_nil)⟩)⟩) (fun as σ K h => by
  obtain ⟨A, c, rfl, ec, hN, h⟩ := h
  unfold v_clue at h
  refine ⟨rfl, fun G hG => fs_clue_0 hG ⟨A, c, rfl, ec, hN, fs_clue_8 hG ⟨fun q => ?_, fun q => ?_⟩⟩⟩
  · rw [if_neg (fw_bo_eq q)] at h
    exact h
  · have hh := fw_bo_ne q
    rw [if_pos hh] at h
    refine ⟨A, c, rfl, hN, ⟨by omega, hh.2⟩, fs_clue_19 hG ?_⟩
    unfold v_set
    rw [if_neg (by omega)]
    exact h)
theorem fm_m_notes (hinj : nn_inj ad) : fw_H l cy ad wr cr D 241 1 sp_m_notes := fw_mk hinj (⟨"NameNotesModel", "notes", "(I)I"⟩, prog_14_method_45_code, 2, (Option.some Jvm.ClassFile.FieldType.int), 1, true, 0) rfl rfl nn_KI20_ok nn_KJ20_ok nn_PF20_ok nn_PS20_ok (by decide +kernel) rfl rfl (fun _ h => absurd h List.not_mem_nil) (fun as σ K h => by
  obtain ⟨x, rfl, hx, h⟩ := h
  have e : fw_c (5 + 19 * (x : Int)) = ((5 + 19 * x : Nat) : Int) := by rw [fw_c_id (by omega) (by omega)]; omega
  refine ⟨rfl, fun G hG => fs_m_notes_0 hG ?_⟩
  rw [e, Int.toNat_natCast]
  exact ⟨⟨Int.natCast_nonneg _, by omega⟩, h⟩)
theorem fm_m_noteOf (hinj : nn_inj ad) : fw_H l cy ad wr cr D 242 1 sp_m_noteOf := fw_mk hinj (⟨"NameNotesModel", "noteOf", "(III)I"⟩, prog_14_method_46_code, 4, (Option.some Jvm.ClassFile.FieldType.int), 3, true, 0) rfl rfl nn_KI20_ok nn_KJ20_ok nn_PF20_ok nn_PS20_ok (by decide +kernel) rfl rfl (fun _ h => absurd h List.not_mem_nil) (fun as σ K h => by
  obtain ⟨x, i, w, rfl, hx, hi, hw, h⟩ := h
  have e : fw_c ((((5 + 19 * (x : Int)) + 1) + 2 * (i : Int)) + (w : Int)) = ((6 + w + 19 * x + 2 * i : Nat) : Int) := by rw [fw_c_id (by omega) (by omega)]; omega
  refine ⟨rfl, fun G hG => fs_m_noteOf_0 hG ?_⟩
  rw [e, Int.toNat_natCast]
  exact ⟨⟨Int.natCast_nonneg _, by omega⟩, h⟩)
theorem fm_m_note (hinj : nn_inj ad) : fw_H l cy ad wr cr D 238 3 sp_m_note := fw_mk hinj (⟨"NameNotesModel", "note", "(III)I"⟩, prog_14_method_49_code, 4, (Option.some Jvm.ClassFile.FieldType.int), 3, true, 0) rfl rfl nn_KI20_ok nn_KJ20_ok nn_PF20_ok nn_PS20_ok (by decide +kernel) rfl rfl (List.forall_mem_cons.mpr ⟨fw_row nn_PM20_ok (x := 171) (k := 0) (mn := 226) (np := 3) (ob := false) (ci := 0) (⟨"NameNotesModel", "isIn", "(III)Z"⟩, prog_14_method_8_code, 3, (Option.some Jvm.ClassFile.FieldType.boolean), 3, false, 1) rfl (by decide +kernel) rfl rfl (by decide) (fun q => by cases q) (fm_m_isIn hinj), (List.forall_mem_cons.mpr ⟨fw_row nn_PM20_ok (x := 267) (k := 0) (mn := 239) (np := 1) (ob := true) (ci := 11) (⟨"NameNotesModel", "isTune", "(I)Z"⟩, prog_14_method_42_code, 2, (Option.some Jvm.ClassFile.FieldType.boolean), 1, true, 1) rfl (by decide +kernel) rfl rfl (by decide) (fun _ => ⟨_, _, rfl⟩) (fm_m_isTune hinj), (List.forall_mem_cons.mpr ⟨fw_row nn_PM20_ok (x := 270) (k := 0) (mn := 241) (np := 1) (ob := true) (ci := 11) (⟨"NameNotesModel", "notes", "(I)I"⟩, prog_14_method_45_code, 2, (Option.some Jvm.ClassFile.FieldType.int), 1, true, 0) rfl (by decide +kernel) rfl rfl (by decide) (fun _ => ⟨_, _, rfl⟩) (fm_m_notes hinj), (List.forall_mem_cons.mpr ⟨fw_row nn_PM20_ok (x := 273) (k := 0) (mn := 242) (np := 3) (ob := true) (ci := 11) (⟨"NameNotesModel", "noteOf", "(III)I"⟩, prog_14_method_46_code, 4, (Option.some Jvm.ClassFile.FieldType.int), 3, true, 0) rfl (by decide +kernel) rfl rfl (by decide) (fun _ => ⟨_, _, rfl⟩) (fm_m_noteOf hinj), (fun _ h => absurd h List.not_mem_nil)⟩)⟩)⟩)⟩) (fun as σ K h => by
  obtain ⟨A, x, i, w, rfl, ⟨ex, ei, ew⟩, hN, h⟩ := h
  have n := N_n hN.1
  have hU := NM_ups (v := 0) hN
  unfold v_note at h
  refine ⟨rfl, fun G hG => fs_m_note_0 hG ?_⟩
  rw [fw_c0]
  refine ⟨x, rfl, fs_m_note_10 hG ?_⟩
  rw [m_tu_v hU ex, ei]
  refine ⟨fun q => ?_, fun q => ⟨fun q2 => ?_, fun q2 => ?_⟩⟩
  · rw [if_neg (fun z => fw_bo_eq q z.1.1)] at h
    exact h
  · rw [if_neg (fun z => absurd z.1.2.1 (by omega))] at h
    exact h
  · have qx := fw_bo_ne q
    obtain ⟨x', rfl⟩ := Int.eq_ofNat_of_zero_le qx.1
    obtain ⟨i', rfl⟩ := Int.eq_ofNat_of_zero_le q2
    obtain ⟨s9, s1, s2⟩ := N_sz hN.1 hN.2.1 qx.2
    refine ⟨x', rfl, s9, fs_m_note_23 hG ?_⟩
    rw [NM_sz hU qx.2, ei, fw_s (x := A 52 x') (by omega) (by omega)]
    refine ⟨fun q3 => ?_, fun q3 => ⟨w, 0, 1, rfl, fs_m_note_32 hG ?_⟩⟩
    · rw [if_neg (fun z => absurd z.1.2.2 (by rw [Int.toNat_natCast]; omega))] at h
      exact h
    · rw [ew, fw_c0, fw_c1]
      refine ⟨fun q4 => ?_, fun q4 => ?_⟩
      · have := fw_bo_eq q4
        rw [if_neg (fun z => this (by omega))] at h
        exact h
      · have hw := fw_bo_ne q4
        rw [if_pos ⟨⟨qx, q2, by rw [Int.toNat_natCast]; exact q3⟩, by omega⟩] at h
        rw [Int.toNat_natCast, Int.toNat_natCast] at h
        obtain ⟨w', rfl⟩ := Int.eq_ofNat_of_zero_le hw.1
        refine ⟨x', i', w', rfl, s9, by omega, by omega, fs_m_note_42 hG ?_⟩
        have hv := NM_nt hU qx.2 q3
        rcases (show w' = 0 ∨ w' = 1 by omega) with rfl | rfl
        · rw [if_pos (show ((0 : Nat) : Int) = 0 from rfl)] at h
          rw [show 6 + 0 + 19 * x' + 2 * i' = 6 + 19 * x' + 2 * i' by omega, hv.1]
          exact h
        · rw [if_neg (show ¬ ((1 : Nat) : Int) = 0 by decide)] at h
          rw [show 6 + 1 + 19 * x' + 2 * i' = 7 + 19 * x' + 2 * i' by omega, hv.2]
          exact h)
theorem fm_m_when (hinj : nn_inj ad) : fw_H l cy ad wr cr D 245 2 sp_m_when := fw_mk hinj (⟨"NameNotesModel", "when", "(II)I"⟩, prog_14_method_52_code, 5, (Option.some Jvm.ClassFile.FieldType.int), 2, true, 0) rfl rfl nn_KI20_ok nn_KJ20_ok nn_PF20_ok nn_PS20_ok (by decide +kernel) rfl rfl (List.forall_mem_cons.mpr ⟨fw_row nn_PM20_ok (x := 267) (k := 0) (mn := 239) (np := 1) (ob := true) (ci := 11) (⟨"NameNotesModel", "isTune", "(I)Z"⟩, prog_14_method_42_code, 2, (Option.some Jvm.ClassFile.FieldType.boolean), 1, true, 1) rfl (by decide +kernel) rfl rfl (by decide) (fun _ => ⟨_, _, rfl⟩) (fm_m_isTune hinj), (List.forall_mem_cons.mpr ⟨fw_row nn_PM20_ok (x := 270) (k := 0) (mn := 241) (np := 1) (ob := true) (ci := 11) (⟨"NameNotesModel", "notes", "(I)I"⟩, prog_14_method_45_code, 2, (Option.some Jvm.ClassFile.FieldType.int), 1, true, 0) rfl (by decide +kernel) rfl rfl (by decide) (fun _ => ⟨_, _, rfl⟩) (fm_m_notes hinj), (List.forall_mem_cons.mpr ⟨fw_row nn_PM20_ok (x := 273) (k := 0) (mn := 242) (np := 3) (ob := true) (ci := 11) (⟨"NameNotesModel", "noteOf", "(III)I"⟩, prog_14_method_46_code, 4, (Option.some Jvm.ClassFile.FieldType.int), 3, true, 0) rfl (by decide +kernel) rfl rfl (by decide) (fun _ => ⟨_, _, rfl⟩) (fm_m_noteOf hinj), (fun _ h => absurd h List.not_mem_nil)⟩)⟩)⟩) (fun as σ K h => by
  obtain ⟨A, x, i, rfl, ⟨ex, ei⟩, hN, h⟩ := h
  have n := N_n hN.1
  have hU := NM_ups (v := 0) hN
  unfold v_when at h
  refine ⟨rfl, fun G hG => fs_m_when_0 hG ?_⟩
  rw [fw_c0]
  refine ⟨x, rfl, fs_m_when_10 hG ?_⟩
  rw [m_tu_v hU ex, ei]
  refine ⟨fun q => ?_, fun q => ⟨fun q2 => ?_, fun q2 => ?_⟩⟩
  · rw [if_neg (fun z => fw_bo_eq q z.1)] at h
    exact h
  · rw [if_neg (fun z => absurd z.2.1 (by omega))] at h
    exact h
  · have qx := fw_bo_ne q
    obtain ⟨x', rfl⟩ := Int.eq_ofNat_of_zero_le qx.1
    obtain ⟨i', rfl⟩ := Int.eq_ofNat_of_zero_le q2
    obtain ⟨s9, s1, s2⟩ := N_sz hN.1 hN.2.1 qx.2
    refine ⟨x', rfl, s9, fs_m_when_23 hG ?_⟩
    rw [NM_sz hU qx.2, ei, fw_s (x := A 52 x') (by omega) (by omega)]
    refine ⟨fun q3 => ?_, fun q3 => ?_⟩
    · rw [if_pos ⟨qx, q2, by rw [Int.toNat_natCast]; exact q3⟩] at h
      rw [Int.toNat_natCast, Int.toNat_natCast] at h
      have loop : ∀ (f n : Nat), n + f = i' → G 33 [some (2, 93, 0), some (0, 0, (x' : Int)), some (0, 0, (i' : Int)), some (0, 0, v_sum A x' n), some (0, 0, (n : Int))] [] (ab_ups σ 93 0 0) := by
        intro f
        induction f with
        | zero =>
          intro n hn
          have e : n = i' := by omega
          subst e
          exact fs_m_when_33 hG ⟨fun _ => h, fun z => absurd z (Int.lt_irrefl _)⟩
        | succ f ih =>
          intro n hn
          have hn2 := ih (n + 1) (by omega)
          rw [v_sum_s, ← (NM_nt hU qx.2 (i := n) (by omega)).2] at hn2
          refine fs_m_when_33 hG ⟨fun z => ?_, fun _ => ⟨x', n, 1, rfl, s9, by omega, by decide, fs_m_when_48 hG ?_⟩⟩
          · rw [fw_s (x := (i' : Int)) (by omega) (by omega), fw_s (x := (n : Int)) (by omega) (by omega)] at z
            omega
          · rw [show 6 + 1 + 19 * x' + 2 * n = 7 + 19 * x' + 2 * n by omega]
            exact hn2
      exact loop i' 0 (Nat.zero_add _)
    · rw [if_neg (fun z => absurd z.2.2 (by rw [Int.toNat_natCast]; omega))] at h
      exact h)
theorem fm_m_tell (hinj : nn_inj ad) : fw_H l cy ad wr cr D 244 2 sp_m_tell := fw_mk hinj (⟨"NameNotesModel", "tell", "(II)I"⟩, prog_14_method_50_code, 6, (Option.some Jvm.ClassFile.FieldType.int), 2, true, 0) rfl rfl nn_KI20_ok nn_KJ20_ok nn_PF20_ok nn_PS20_ok (by decide +kernel) rfl rfl (List.forall_mem_cons.mpr ⟨fw_row nn_PM20_ok (x := 270) (k := 0) (mn := 241) (np := 1) (ob := true) (ci := 11) (⟨"NameNotesModel", "notes", "(I)I"⟩, prog_14_method_45_code, 2, (Option.some Jvm.ClassFile.FieldType.int), 1, true, 0) rfl (by decide +kernel) rfl rfl (by decide) (fun _ => ⟨_, _, rfl⟩) (fm_m_notes hinj), (List.forall_mem_cons.mpr ⟨fw_row nn_PM20_ok (x := 273) (k := 0) (mn := 242) (np := 3) (ob := true) (ci := 11) (⟨"NameNotesModel", "noteOf", "(III)I"⟩, prog_14_method_46_code, 4, (Option.some Jvm.ClassFile.FieldType.int), 3, true, 0) rfl (by decide +kernel) rfl rfl (by decide) (fun _ => ⟨_, _, rfl⟩) (fm_m_noteOf hinj), (fun _ h => absurd h List.not_mem_nil)⟩)⟩) (fun as σ K h => by
  obtain ⟨A, x, w, rfl, hN, hx, ⟨w0, w3⟩, h⟩ := h
  obtain ⟨s9, s1, s2⟩ := N_sz hN.1 hN.2.1 hx
  obtain ⟨N, eN⟩ := Int.eq_ofNat_of_zero_le (show 0 ≤ A 52 x by omega)
  have ew : fw_c w = w := fw_s (by omega) (by omega)
  have e3 : fw_c 3 = 3 := fw_s (by decide) (by decide)
  have eNc : fw_c (N : Int) = (N : Int) := fw_s (by omega) (by omega)
  have zN : σ 95 (5 + 19 * x) = (N : Int) := (NM_sz hN hx).trans eN
  unfold v_meas at h
  rw [eN, Int.toNat_natCast] at h
  have v50 : ∀ n : Nat, n < N → σ 95 (6 + 0 + 19 * x + 2 * n) = A 50 (x * 9 + n) := fun n hn => by
    rw [show 6 + 0 + 19 * x + 2 * n = 6 + 19 * x + 2 * n by omega]
    exact (NM_nt hN hx (by omega)).1
  have v51 : ∀ n : Nat, n < N → σ 95 (6 + 1 + 19 * x + 2 * n) = A 51 (x * 9 + n) := fun n hn => by
    rw [show 6 + 1 + 19 * x + 2 * n = 7 + 19 * x + 2 * n by omega]
    exact (NM_nt hN hx (by omega)).2
  refine ⟨rfl, fun G hG => fs_m_tell_0 hG ?_⟩
  rw [ew, e3]
  -- the value ahead of note n
  have key : ∀ V : Nat → Int, (∀ n : Nat, n ≤ N → -2000 ≤ V n ∧ V n ≤ 2000) → w ≠ 0 → K (some (0, 0, V N)) σ → (w = 3 → ∀ n : Nat, n < N → V (n + 1) = V n + A 51 (x * 9 + n)) → (w = 1 → ∀ n : Nat, n < N → V (n + 1) = if V n < A 50 (x * 9 + n) then A 50 (x * 9 + n) else V n) → (w = 2 → ∀ n : Nat, n < N → V (n + 1) = if A 50 (x * 9 + n) < V n then A 50 (x * 9 + n) else V n) →
      (∀ (f n : Nat) (a5 : Int), n + f = N → G 30 [some (2, 93, 0), some (0, 0, (x : Int)), some (0, 0, w), some (0, 0, V n), some (0, 0, (n : Int)), some (0, 0, a5)] [] σ) ∧ (∀ (n f : Nat), n + f = N → G 30 [some (2, 93, 0), some (0, 0, (x : Int)), some (0, 0, w), some (0, 0, V n), some (0, 0, (n : Int)), none] [] σ) := by
    intro V hV hw hk k3 k1 k2
    -- one turn, whatever the last local holds
    have turn : ∀ (n : Nat) (b0 : Int), n < N → b0 = A 50 (x * 9 + n) → (∀ a5 : Int, G 30 [some (2, 93, 0), some (0, 0, (x : Int)), some (0, 0, w), some (0, 0, V (n + 1)), some (0, 0, ((n + 1 : Nat) : Int)), some (0, 0, a5)] [] σ) →
        (fw_c w ≠ fw_c 3 → (fw_c w ≠ fw_c 1 → (fw_c (V n) ≤ fw_c b0 → G 92 [some (2, 93, 0), some (0, 0, (x : Int)), some (0, 0, w), some (0, 0, V n), some (0, 0, (n : Int)), some (0, 0, b0)] [] σ) ∧ (fw_c b0 < fw_c (V n) → G 89 [some (2, 93, 0), some (0, 0, (x : Int)), some (0, 0, w), some (0, 0, V n), some (0, 0, (n : Int)), some (0, 0, b0)] [] σ)) ∧ (fw_c w = fw_c 1 → (fw_c b0 ≤ fw_c (V n) → G 92 [some (2, 93, 0), some (0, 0, (x : Int)), some (0, 0, w), some (0, 0, V n), some (0, 0, (n : Int)), some (0, 0, b0)] [] σ) ∧ (fw_c (V n) < fw_c b0 → G 89 [some (2, 93, 0), some (0, 0, (x : Int)), some (0, 0, w), some (0, 0, V n), some (0, 0, (n : Int)), some (0, 0, b0)] [] σ))) ∧ (fw_c w = fw_c 3 → sp_m_noteOf [(2, 93, 0), (0, 0, (x : Int)), (0, 0, (n : Int)), (0, 0, 1)] σ (fun rv σ2 => G 64 [some (2, 93, 0), some (0, 0, (x : Int)), some (0, 0, w), some (0, 0, V n), some (0, 0, (n : Int)), some (0, 0, b0)] (rv.toList ++ [(0, 0, V n)]) σ2)) := by
      intro n b0 hn hb ih
      have n1 := (N_nt hN.2.1 hx (i := n) (by omega)).1
      have vn := hV n (by omega)
      rw [ew, e3, fw_c1, fw_s (x := V n) vn.1 vn.2, hb, fw_s (x := A 50 (x * 9 + n)) (by omega) (by omega)]
      refine ⟨fun q3 => ⟨fun q1 => ⟨fun z => fs_m_tell_92 hG ?_, fun z => fs_m_tell_89 hG (fs_m_tell_92 hG ?_)⟩, fun q1 => ⟨fun z => fs_m_tell_92 hG ?_, fun z => fs_m_tell_89 hG (fs_m_tell_92 hG ?_)⟩⟩, fun q3 => ⟨x, n, 1, rfl, s9, by omega, by decide, fs_m_tell_64 hG (fs_m_tell_92 hG ?_)⟩⟩
      · have e := k2 (by omega) n hn
        rw [if_neg (by omega)] at e
        rw [← e]
        exact ih _
      · have e := k2 (by omega) n hn
        rw [if_pos z] at e
        rw [← e]
        exact ih _
      · have e := k1 q1 n hn
        rw [if_neg (by omega)] at e
        rw [← e]
        exact ih _
      · have e := k1 q1 n hn
        rw [if_pos z] at e
        rw [← e]
        exact ih _
      · have e := k3 q3 n hn
        rw [v51 n hn, ← e]
        exact ih _
    have A5 : ∀ (f n : Nat) (a5 : Int), n + f = N → G 30 [some (2, 93, 0), some (0, 0, (x : Int)), some (0, 0, w), some (0, 0, V n), some (0, 0, (n : Int)), some (0, 0, a5)] [] σ := by
      intro f
      induction f with
      | zero =>
        intro n a5 hn
        have e : n = N := by omega
        subst e
        refine fs_m_tell_30a hG ⟨x, rfl, s9, fs_m_tell_37a hG ?_⟩
        rw [zN]
        exact ⟨fun _ => hk, fun z => absurd z (Int.lt_irrefl _)⟩
      | succ f ih =>
        intro n a5 hn
        refine fs_m_tell_30a hG ⟨x, rfl, s9, fs_m_tell_37a hG ?_⟩
        rw [zN, eNc, fw_s (x := (n : Int)) (by omega) (by omega)]
        exact ⟨fun z => absurd z (by omega), fun _ => ⟨x, n, 0, rfl, s9, by omega, by decide, fs_m_tell_48a hG (turn n _ (by omega) (v50 n (by omega)) (fun a5 => ih (n + 1) a5 (by omega)))⟩⟩
    refine ⟨A5, fun n f hn => ?_⟩
    cases f with
    | zero =>
      have e : n = N := by omega
      subst e
      refine fs_m_tell_30 hG ⟨x, rfl, s9, fs_m_tell_37 hG ?_⟩
      rw [zN]
      exact ⟨fun _ => hk, fun z => absurd z (Int.lt_irrefl _)⟩
    | succ f =>
      refine fs_m_tell_30 hG ⟨x, rfl, s9, fs_m_tell_37 hG ?_⟩
      rw [zN, eNc, fw_s (x := (n : Int)) (by omega) (by omega)]
      exact ⟨fun z => absurd z (by omega), fun _ => ⟨x, n, 0, rfl, s9, by omega, by decide, fs_m_tell_48 hG (turn n _ (by omega) (v50 n (by omega)) (fun a5 => A5 f (n + 1) a5 (by omega)))⟩⟩
  have p0 := (N_nt hN.2.1 hx (i := 0) (by omega)).1
  refine ⟨fun q0 => ⟨fun q3 => ⟨x, 0, 0, rfl, s9, by decide, by decide, fs_m_tell_26 hG ?_⟩, fun q3 => fs_m_tell_26 hG ?_⟩, fun q0 => ⟨x, rfl, s9, fs_m_tell_9 hG ?_⟩⟩
  · rw [v50 0 (by omega)]
    rw [if_neg q0] at h
    by_cases q1 : w = 1
    · rw [if_pos q1] at h
      have ez : v_max A x 1 = A 50 (x * 9 + 0) := by
        rw [v_max_s]
        show (if (0 : Int) < A 50 (x * 9 + 0) then A 50 (x * 9 + 0) else 0) = _
        split <;> omega
      -- the first value is the first note's own, as behind it
      have k := (key (fun n => if n = 0 then A 50 (x * 9 + 0) else v_max A x n) (fun n hn => by
        show -2000 ≤ (if n = 0 then A 50 (x * 9 + 0) else v_max A x n) ∧ (if n = 0 then A 50 (x * 9 + 0) else v_max A x n) ≤ 2000
        have := v_max_b hN.2.1 hx n (by omega)
        split <;> omega) q0 (by
          show K (some (0, 0, if N = 0 then A 50 (x * 9 + 0) else v_max A x N)) σ
          rw [if_neg (by omega)]
          exact h) (fun z => absurd z (by omega)) (fun _ n hn => by
            show (if n + 1 = 0 then A 50 (x * 9 + 0) else v_max A x (n + 1)) = if (if n = 0 then A 50 (x * 9 + 0) else v_max A x n) < A 50 (x * 9 + n) then A 50 (x * 9 + n) else (if n = 0 then A 50 (x * 9 + 0) else v_max A x n)
            rw [if_neg (Nat.succ_ne_zero n)]
            by_cases n0 : n = 0
            · subst n0
              rw [if_pos rfl, ez, if_neg (Int.lt_irrefl _)]
            · rw [if_neg n0, v_max_s]) (fun z => absurd z (by omega))).2 0 N (Nat.zero_add _)
      exact k
    · rw [if_neg q1, if_pos (by omega)] at h
      have ez : v_min A x 1 = A 50 (x * 9 + 0) := by
        rw [v_min_s]
        show (if A 50 (x * 9 + 0) < (24 : Int) then A 50 (x * 9 + 0) else 24) = _
        split <;> omega
      have k := (key (fun n => if n = 0 then A 50 (x * 9 + 0) else v_min A x n) (fun n hn => by
        show -2000 ≤ (if n = 0 then A 50 (x * 9 + 0) else v_min A x n) ∧ (if n = 0 then A 50 (x * 9 + 0) else v_min A x n) ≤ 2000
        have := v_min_b hN.2.1 hx n (by omega)
        split <;> omega) q0 (by
          show K (some (0, 0, if N = 0 then A 50 (x * 9 + 0) else v_min A x N)) σ
          rw [if_neg (by omega)]
          exact h) (fun z => absurd z (by omega)) (fun z => absurd z q1) (fun _ n hn => by
            show (if n + 1 = 0 then A 50 (x * 9 + 0) else v_min A x (n + 1)) = if A 50 (x * 9 + n) < (if n = 0 then A 50 (x * 9 + 0) else v_min A x n) then A 50 (x * 9 + n) else (if n = 0 then A 50 (x * 9 + 0) else v_min A x n)
            rw [if_neg (Nat.succ_ne_zero n)]
            by_cases n0 : n = 0
            · subst n0
              rw [if_pos rfl, ez, if_neg (Int.lt_irrefl _)]
            · rw [if_neg n0, v_min_s])).2 0 N (Nat.zero_add _)
      exact k
  · rw [if_neg q0, if_neg (by omega), if_neg (by omega)] at h
    exact (key (v_sum A x) (fun n hn => by
      have := v_sum_b hN.2.1 hx n (by omega)
      exact ⟨by omega, by omega⟩) q0 h (fun _ n _ => rfl) (fun z => absurd z (by omega)) (fun z => absurd z (by omega))).2 0 N (Nat.zero_add _)
  · rw [if_pos q0] at h
    rw [zN]
    exact h)
theorem fm_m_tune (hinj : nn_inj ad) : fw_H l cy ad wr cr D 243 3 sp_m_tune := fw_mk hinj (⟨"NameNotesModel", "tune", "(II)I"⟩, prog_14_method_51_code, 3, (Option.some Jvm.ClassFile.FieldType.int), 2, true, 0) rfl rfl nn_KI20_ok nn_KJ20_ok nn_PF20_ok nn_PS20_ok (by decide +kernel) rfl rfl (List.forall_mem_cons.mpr ⟨fw_row nn_PM20_ok (x := 171) (k := 0) (mn := 226) (np := 3) (ob := false) (ci := 0) (⟨"NameNotesModel", "isIn", "(III)Z"⟩, prog_14_method_8_code, 3, (Option.some Jvm.ClassFile.FieldType.boolean), 3, false, 1) rfl (by decide +kernel) rfl rfl (by decide) (fun q => by cases q) (fm_m_isIn hinj), (List.forall_mem_cons.mpr ⟨fw_row nn_PM20_ok (x := 267) (k := 0) (mn := 239) (np := 1) (ob := true) (ci := 11) (⟨"NameNotesModel", "isTune", "(I)Z"⟩, prog_14_method_42_code, 2, (Option.some Jvm.ClassFile.FieldType.boolean), 1, true, 1) rfl (by decide +kernel) rfl rfl (by decide) (fun _ => ⟨_, _, rfl⟩) (fm_m_isTune hinj), (List.forall_mem_cons.mpr ⟨fw_row nn_PM20_ok (x := 277) (k := 0) (mn := 244) (np := 2) (ob := true) (ci := 11) (⟨"NameNotesModel", "tell", "(II)I"⟩, prog_14_method_50_code, 6, (Option.some Jvm.ClassFile.FieldType.int), 2, true, 0) rfl (by decide +kernel) rfl rfl (by decide) (fun _ => ⟨_, _, rfl⟩) (fm_m_tell hinj), (fun _ h => absurd h List.not_mem_nil)⟩)⟩)⟩) (fun as σ K h => by
  obtain ⟨A, x, w, rfl, ⟨ex, ew⟩, hN, h⟩ := h
  have hU := NM_ups (v := 0) hN
  unfold v_tune at h
  refine ⟨rfl, fun G hG => fs_m_tune_0 hG ?_⟩
  rw [fw_c0]
  refine ⟨x, rfl, fs_m_tune_10 hG ?_⟩
  rw [m_tu_v hU ex]
  refine ⟨fun q => ?_, fun q => ⟨w, 0, 3, rfl, fs_m_tune_19 hG ?_⟩⟩
  · rw [if_neg (fun z => fw_bo_eq q z.1)] at h
    exact h
  · rw [ew, fw_c0, fw_s (x := 3) (by decide) (by decide)]
    refine ⟨fun q2 => ?_, fun q2 => ?_⟩
    · rw [if_neg (fun z => fw_bo_eq q2 z.2)] at h
      exact h
    · have hh := fw_bo_ne q
      have hw := fw_bo_ne q2
      rw [if_pos ⟨hh, hw⟩] at h
      obtain ⟨x', rfl⟩ := Int.eq_ofNat_of_zero_le hh.1
      rw [Int.toNat_natCast] at h
      exact ⟨A, x', w, rfl, hU, hh.2, hw, fs_m_tune_28 hG h⟩)
theorem fm_m_isClue (hinj : nn_inj ad) : fw_H l cy ad wr cr D 247 0 sp_m_isClue := fw_mk hinj (⟨"NameNotesModel", "isClue", "(I)Z"⟩, prog_14_method_43_code, 2, (Option.some Jvm.ClassFile.FieldType.boolean), 1, true, 1) rfl rfl nn_KI20_ok nn_KJ20_ok nn_PF20_ok nn_PS20_ok (by decide +kernel) rfl rfl (fun _ h => absurd h List.not_mem_nil) (fun as σ K h => by
  obtain ⟨A, c, rfl, ec, hN, h⟩ := h
  have n := N_n hN.1
  refine ⟨rfl, fun G hG => fs_m_isClue_0 hG ?_⟩
  rw [ec, fw_c1, show (1 : Int).toNat = 1 from rfl, (NM_n hN).2.1, fw_s (x := A 49 12) (by omega) (by omega)]
  refine ⟨fun q => ⟨fw_01, ?_⟩, fun q => ⟨by decide, fun q2 => ⟨fw_01, ?_⟩, fun q2 => ⟨by decide, ?_⟩⟩⟩
  · rw [fw_bo_f (fun z => by omega)] at h
    exact h
  · rw [fw_bo_f (fun z => by omega)] at h
    exact h
  · rw [fw_bo_t ⟨q, q2⟩] at h
    exact h)
theorem fm_m_clue (hinj : nn_inj ad) : fw_H l cy ad wr cr D 246 2 sp_m_clue := fw_mk hinj (⟨"NameNotesModel", "clue", "(I)I"⟩, prog_14_method_53_code, 2, (Option.some Jvm.ClassFile.FieldType.int), 1, true, 0) rfl rfl nn_KI20_ok nn_KJ20_ok nn_PF20_ok nn_PS20_ok (by decide +kernel) rfl rfl (List.forall_mem_cons.mpr ⟨fw_row nn_PM20_ok (x := 264) (k := 0) (mn := 247) (np := 1) (ob := true) (ci := 11) (⟨"NameNotesModel", "isClue", "(I)Z"⟩, prog_14_method_43_code, 2, (Option.some Jvm.ClassFile.FieldType.boolean), 1, true, 1) rfl (by decide +kernel) rfl rfl (by decide) (fun _ => ⟨_, _, rfl⟩) (fm_m_isClue hinj), (fun _ h => absurd h List.not_mem_nil)⟩) (fun as σ K h => by
  obtain ⟨A, c, rfl, ec, hN, h⟩ := h
  have n := N_n hN.1
  have hU := NM_ups (v := 0) hN
  unfold v_clue at h
  refine ⟨rfl, fun G hG => fs_m_clue_0 hG ?_⟩
  rw [fw_c0]
  refine ⟨A, c, rfl, ec, hU, fs_m_clue_10 hG ⟨fun q => ?_, fun q => ?_⟩⟩
  · rw [if_neg (fw_bo_eq q)] at h
    exact h
  · have hh := fw_bo_ne q
    rw [if_pos hh] at h
    obtain ⟨c', rfl⟩ := Int.eq_ofNat_of_zero_le hh.1
    rw [Int.toNat_natCast] at h
    have e : fw_c (176 + (c' : Int)) = ((176 + c' : Nat) : Int) := by rw [fw_c_id (by omega) (by omega)]; omega
    rw [e, Int.toNat_natCast, NM_cl hU hh.2]
    exact ⟨⟨Int.natCast_nonneg _, by omega⟩, h⟩)
end
