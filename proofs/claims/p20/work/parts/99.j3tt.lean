/-! the tapes: bytes come, are taken away; how many there are of each -/
theorem by_eq (x : BitVec 32) (k : Nat) (hk : k ≤ 24) : (((x.sshiftRight k).signExtend 8).signExtend 32) &&& 255#32 = (x >>> k) &&& 255#32 := by
  apply BitVec.eq_of_getLsbD_eq
  intro i hi
  rw [BitVec.getLsbD_and, BitVec.getLsbD_and]
  by_cases h8 : i < 8
  · have h1 : k + i < 32 := by omega
    have h2 : ¬ 32 ≤ i := by omega
    have e1 : (((x.sshiftRight k).signExtend 8).signExtend 32).getLsbD i = x.getLsbD (k + i) := by
      simp only [BitVec.getLsbD_signExtend, BitVec.getLsbD_sshiftRight, hi, h8, h1, h2, decide_true, decide_false, Bool.not_false, Bool.true_and, ↓reduceIte]
    rw [e1, BitVec.getLsbD_ushiftRight]
  · have h0 : ∀ j : Nat, j < 32 → ¬ j < 8 → (255#32).getLsbD j = false := by decide
    rw [h0 i hi h8, Bool.and_false, Bool.and_false]
theorem by_in (x : BitVec 32) : 0 ≤ (x &&& 255#32).toInt ∧ (x &&& 255#32).toInt ≤ 255 := by
  have h : (x &&& 255#32).toNat ≤ 255 := by
    rw [BitVec.toNat_and]
    exact Nat.le_trans Nat.and_le_right (by decide)
  have e : (x &&& 255#32).toInt = ((x &&& 255#32).toNat : Int) := BitVec.toInt_eq_toNat_of_lt (by omega)
  rw [e]
  omega
theorem by_24 (V : Int32) : ((V >>> (Int32.ofInt 24 &&& 31)).toInt8).toInt32 &&& Int32.ofInt 255 = (V.toUInt32 >>> ((Int32.ofInt 24).toUInt32 &&& Int32.toUInt32 31)).toInt32 &&& Int32.ofInt 255 := Int32.toBitVec_inj.mp (by_eq V.toBitVec 24 (by decide))
theorem by_16 (V : Int32) : ((V >>> (Int32.ofInt 16 &&& 31)).toInt8).toInt32 &&& Int32.ofInt 255 = (V.toUInt32 >>> ((Int32.ofInt 16).toUInt32 &&& Int32.toUInt32 31)).toInt32 &&& Int32.ofInt 255 := Int32.toBitVec_inj.mp (by_eq V.toBitVec 16 (by decide))
theorem by_8 (V : Int32) : ((V >>> (Int32.ofInt 8 &&& 31)).toInt8).toInt32 &&& Int32.ofInt 255 = (V.toUInt32 >>> ((Int32.ofInt 8).toUInt32 &&& Int32.toUInt32 31)).toInt32 &&& Int32.ofInt 255 := Int32.toBitVec_inj.mp (by_eq V.toBitVec 8 (by decide))
theorem by_0 (V : Int32) : ((V >>> (Int32.ofInt 0 &&& 31)).toInt8).toInt32 &&& Int32.ofInt 255 = (V.toUInt32 >>> ((Int32.ofInt 0).toUInt32 &&& Int32.toUInt32 31)).toInt32 &&& Int32.ofInt 255 := Int32.toBitVec_inj.mp (by_eq V.toBitVec 0 (by decide))
def ap_b (v : Int) (k : Nat) : Int := fw_b (fw_b (fw_op 6 v (24 - 8 * (k : Int))))
def ap_m (v : Int) (k : Nat) : Int := fw_c (fw_op 8 (fw_op 7 v (24 - 8 * (k : Int))) 255)
theorem ap_one (v s : Int) (h : ((Int32.ofInt v >>> (Int32.ofInt s &&& 31)).toInt8).toInt32 &&& Int32.ofInt 255 = ((Int32.ofInt v).toUInt32 >>> ((Int32.ofInt s).toUInt32 &&& Int32.toUInt32 31)).toInt32 &&& Int32.ofInt 255) :
    fw_op 8 (fw_b (fw_b (fw_op 6 v s))) 255 = fw_c (fw_op 8 (fw_op 7 v s) 255) ∧ 0 ≤ fw_c (fw_op 8 (fw_op 7 v s) 255) ∧ fw_c (fw_op 8 (fw_op 7 v s) 255) ≤ 255 := by
  have e1 : fw_b (fw_op 6 v s) = ((Int32.ofInt v >>> (Int32.ofInt s &&& 31)).toInt8).toInt32.toInt := by
    show ((Int8.ofInt (Int32.ofInt v >>> (Int32.ofInt s &&& 31)).toInt).toInt32).toInt = _
    rw [← Int32.toInt8_ofInt, Int32.ofInt_toInt]
  have e2 : ∀ b : Int8, fw_b (b.toInt32.toInt) = b.toInt32.toInt := fun b => by
    show ((Int8.ofInt b.toInt32.toInt).toInt32).toInt = _
    rw [← Int32.toInt8_ofInt, Int32.ofInt_toInt, Int8.toInt8_toInt32]
  have e3 : ∀ z : Int32, fw_op 8 z.toInt 255 = (z &&& Int32.ofInt 255).toInt := fun z => by
    show (Int32.ofInt z.toInt &&& Int32.ofInt 255).toInt = _
    rw [Int32.ofInt_toInt]
  have e4 : fw_op 7 v s = (((Int32.ofInt v).toUInt32 >>> ((Int32.ofInt s).toUInt32 &&& Int32.toUInt32 31)).toInt32).toInt := rfl
  have e5 : ∀ z : Int32, fw_c z.toInt = z.toInt := fun z => by
    unfold fw_c
    rw [Int32.ofInt_toInt]
  rw [e1, e2, e3, e4, e3, e5, h]
  refine ⟨rfl, ?_⟩
  exact by_in (((Int32.ofInt v).toUInt32 >>> ((Int32.ofInt s).toUInt32 &&& Int32.toUInt32 31)).toInt32).toBitVec
theorem ap_eq (v : Int) : ∀ k : Nat, k < 4 → fw_op 8 (ap_b v k) 255 = ap_m v k ∧ 0 ≤ ap_m v k ∧ ap_m v k ≤ 255
  | 0, _ => ap_one v 24 (by_24 _)
  | 1, _ => ap_one v 16 (by_16 _)
  | 2, _ => ap_one v 8 (by_8 _)
  | 3, _ => ap_one v 0 (by_0 _)
  | n + 4, h => absurd h (by omega)
def ap_M : ab_ML := [(1, 1), (2, 1000000)]
def ap_is (σ σ' : ab_SG) (n m : Nat) (w : Nat → Int) : Prop := ab_okM ap_M σ σ' ∧ σ' 1 1 = ((n + m : Nat) : Int) ∧ (∀ j : Nat, j < n → σ' 2 j = σ 2 j) ∧ ∀ i : Nat, i < m → σ' 2 (n + i) = w i
def cm_M : ab_ML := [(93, 0), (93, 2), (94, 1000000)]
def cm_is (σ σ' : ab_SG) (n m : Nat) (w : Nat → Int) : Prop := ab_okM cm_M σ σ' ∧ σ' 93 2 = ((n + m : Nat) : Int) ∧ (∀ j : Nat, j < n → σ' 94 j = σ 94 j) ∧ ∀ i : Nat, i < m → σ' 94 (n + i) = w i
def sp_append : fw_SP := fun as σ K => ∃ (v : Int) (n : Nat), as = [(2, 1, 0), (0, 0, v)] ∧ σ 1 1 = (n : Int) ∧ n ≤ 936 ∧ ∀ σ' : ab_SG, ap_is σ σ' n 4 (ap_b v) → K none σ'
def sp_m_come : fw_SP := fun as σ K => ∃ (v : Int) (n : Nat), as = [(2, 93, 0), (0, 0, v)] ∧ σ 93 2 = (n : Int) ∧ n ≤ 936 ∧ ∀ σ' : ab_SG, cm_is σ σ' n 4 (ap_m v) → K none σ'
def sp_hasRoom : fw_SP := fun as σ K => as = [(2, 1, 0)] ∧ (0 ≤ σ 1 1 ∧ σ 1 1 ≤ 940) ∧ K (some (0, 0, fw_bo (σ 1 1 + 20 ≤ 940))) σ
/-- five numbers' bytes, one behind another -/
def fd_w (f : Int → Nat → Int) (a b c d e : Int) (i : Nat) : Int := f (([a, b, c, d, e] : List Int).getD (i / 4) 0) (i % 4)
def sp_feed : fw_SP := fun as σ K => ∃ (a b c d e : Int) (n : Nat), as = [(2, 0, 0), (0, 0, a), (0, 0, b), (0, 0, c), (0, 0, d), (0, 0, e)] ∧ σ 1 1 = (n : Int) ∧ n ≤ 940 ∧ (920 < n → K (some (0, 0, -1)) σ) ∧ (n ≤ 920 → ∀ σ' : ab_SG, ap_is σ σ' n 20 (fd_w ap_b a b c d e) → K (some (0, 0, (n : Int) + 20)) σ')
def sp_m_feed : fw_SP := fun as σ K => ∃ (a b c d e : Int) (n : Nat), as = [(2, 93, 0), (0, 0, a), (0, 0, b), (0, 0, c), (0, 0, d), (0, 0, e)] ∧ σ 93 2 = (n : Int) ∧ n ≤ 940 ∧ (920 < n → K (some (0, 0, -1)) (ab_ups σ 93 0 0)) ∧ (n ≤ 920 → ∀ σ' : ab_SG, cm_is σ σ' n 20 (fd_w ap_m a b c d e) → K (some (0, 0, (n : Int) + 20)) σ')
def sp_end : fw_SP := fun as σ K => ∃ n : Int, as = [(2, 0, 0), (0, 0, n)] ∧ (0 ≤ σ 1 1 ∧ σ 1 1 ≤ 940) ∧ (0 ≤ fw_c n ∧ fw_c n ≤ σ 1 1 → K (some (0, 0, 1)) (ab_ups σ 1 1 (fw_c n))) ∧ (¬ (0 ≤ fw_c n ∧ fw_c n ≤ σ 1 1) → K (some (0, 0, 0)) σ)
def sp_m_end : fw_SP := fun as σ K => ∃ n : Int, as = [(2, 93, 0), (0, 0, n)] ∧ (0 ≤ σ 93 2 ∧ σ 93 2 ≤ 940) ∧ (0 ≤ fw_c n ∧ fw_c n ≤ σ 93 2 → K (some (0, 0, 1)) (ab_ups (ab_ups σ 93 0 0) 93 2 (fw_c n))) ∧ (¬ (0 ≤ fw_c n ∧ fw_c n ≤ σ 93 2) → K (some (0, 0, 0)) (ab_ups σ 93 0 0))
def cq_v (a b c d t w : Int) : Int := if w = 0 then a else if w = 1 then b else if w = 2 then c else if w = 3 then d else if w = 4 then t else -1
def sp_count : fw_SP := fun as σ K => ∃ w : Int, as = [(2, 0, 0), (0, 0, w)] ∧ K (some (0, 0, cq_v (σ 3 11) (σ 3 12) (σ 3 13) (σ 3 14) (σ 1 1) (fw_c w))) σ
def sp_m_tunes : fw_SP := fun as σ K => as = [(2, 93, 0)] ∧ K (some (0, 0, σ 95 0)) σ
def sp_m_count : fw_SP := fun as σ K => ∃ w : Int, as = [(2, 93, 0), (0, 0, w)] ∧ ly_ok σ ∧ ∀ σ' : ab_SG, ab_okM [(93, 0), (93, 22), (95, 3)] σ σ' → ly_is σ σ' → K (some (0, 0, cq_v (σ' 95 0) (σ' 95 1) (σ' 95 2) (σ' 95 3) (σ' 93 2) (fw_c w))) σ'
theorem ap_add {σ σ1 σ2 : ab_SG} {n m k : Nat} {w w1 w2 : Nat → Int} (h1 : ap_is σ σ1 n m w1) (h2 : ap_is σ1 σ2 (n + m) k w2) (hw : ∀ i : Nat, i < m + k → w i = if i < m then w1 i else w2 (i - m)) : ap_is σ σ2 n (m + k) w := by
  obtain ⟨a1, a2, a3, a4⟩ := h1
  obtain ⟨b1, b2, b3, b4⟩ := h2
  refine ⟨fw_okM_tr a1 b1 (fun _ h => h), by rw [b2]; omega, fun j hj => (b3 j (by omega)).trans (a3 j hj), fun i hi => ?_⟩
  rw [hw i hi]
  by_cases c : i < m
  · rw [if_pos c, b3 _ (by omega)]; exact a4 i c
  · rw [if_neg c, show n + i = n + m + (i - m) by omega]; exact b4 (i - m) (by omega)
theorem cm_add {σ σ1 σ2 : ab_SG} {n m k : Nat} {w w1 w2 : Nat → Int} (h1 : cm_is σ σ1 n m w1) (h2 : cm_is σ1 σ2 (n + m) k w2) (hw : ∀ i : Nat, i < m + k → w i = if i < m then w1 i else w2 (i - m)) : cm_is σ σ2 n (m + k) w := by
  obtain ⟨a1, a2, a3, a4⟩ := h1
  obtain ⟨b1, b2, b3, b4⟩ := h2
  refine ⟨fw_okM_tr a1 b1 (fun _ h => h), by rw [b2]; omega, fun j hj => (b3 j (by omega)).trans (a3 j hj), fun i hi => ?_⟩
  rw [hw i hi]
  by_cases c : i < m
  · rw [if_pos c, b3 _ (by omega)]; exact a4 i c
  · rw [if_neg c, show n + i = n + m + (i - m) by omega]; exact b4 (i - m) (by omega)
theorem fd_ne (f : Int → Nat → Int) (a b c d e : Int) (q : Nat) (hq : q < 5) : ∀ i : Nat, i < 4 * q + 4 → fd_w f a b c d e i = if i < 4 * q then fd_w f a b c d e i else f (([a, b, c, d, e] : List Int).getD q 0) (i - 4 * q) := by
  intro i hi
  by_cases c1 : i < 4 * q
  · rw [if_pos c1]
  · rw [if_neg c1]
    unfold fd_w
    rw [show i / 4 = q by omega, show i % 4 = i - 4 * q by omega]
abbrev fk_hasRoom : List fw_CR := []
abbrev st_hasRoom : fw_K → fw_KR → fw_K := fw_st vwCl nn_sh nn_kd fw_kv fw_wc (nn_KI2.map (fun x => x.1)) (nn_KJ2.map (fun x => x.1)) (nn_PF2.map (fun x => x.1)) (nn_PS2.map (fun x => x.1)) fk_hasRoom 0 nn_dt1 1 1
theorem fs_hasRoom_0 {G : fw_K} {R : fw_KR} (hG : fw_cls st_hasRoom R G) {σ : ab_SG} (h : (fw_c 940 < fw_c ((σ 1 1) + 20) → (0 ≤ fw_c 0 ∧ fw_c 0 ≤ 1) ∧ R (some (0, 0, 0)) σ) ∧ (fw_c ((σ 1 1) + 20) ≤ fw_c 940 → (0 ≤ fw_c 1 ∧ fw_c 1 ≤ 1) ∧ R (some (0, 0, 1)) σ)) : G 0 [some (2, 1, 0)] [] σ := fw_on hG [] 200 h
abbrev fk_append : List fw_CR := []
abbrev st_append : fw_K → fw_KR → fw_K := fw_st vwCl nn_sh nn_kd fw_kv fw_wc (nn_KI2.map (fun x => x.1)) (nn_KJ2.map (fun x => x.1)) (nn_PF2.map (fun x => x.1)) (nn_PS2.map (fun x => x.1)) fk_append 0 nn_dt2 3 4
theorem fs_append_0 {G : fw_K} {R : fw_KR} (hG : fw_cls st_append R G) {v : Int} {σ : ab_SG} (h : G 3 [some (2, 1, 0), some (0, 0, v), some (0, 0, 24)] [] σ) : G 0 [some (2, 1, 0), some (0, 0, v), none] [] σ := fw_on hG [3, 49] 200 h
theorem fs_append_3 {G : fw_K} {R : fw_KR} (hG : fw_cls st_append R G) {a1 a2 : Int} {σ : ab_SG} (h : (fw_c a2 < 0 → R none σ) ∧ (0 ≤ fw_c a2 → (fw_c (σ 1 1) < 0 → G 49 [some (2, 1, 0), some (0, 0, a1), some (0, 0, a2)] [] σ) ∧ (0 ≤ fw_c (σ 1 1) → (fw_c ((940 : Nat) : Int) ≤ fw_c (σ 1 1) → G 49 [some (2, 1, 0), some (0, 0, a1), some (0, 0, a2)] [] σ) ∧ (fw_c (σ 1 1) < fw_c ((940 : Nat) : Int) → (0 ≤ fw_c (σ 1 1) ∧ fw_c (σ 1 1) < ((940 : Nat) : Int)) ∧ True ∧ (G 49 [some (2, 1, 0), some (0, 0, a1), some (0, 0, a2)] [] (ab_ups (ab_ups σ 2 (fw_c (σ 1 1)).toNat (fw_b (fw_b (fw_op 6 a1 a2)))) 1 1 (fw_c ((σ 1 1) + 1)))))))) : G 3 [some (2, 1, 0), some (0, 0, a1), some (0, 0, a2)] [] σ := fw_on hG [3, 49] 200 h
theorem fs_append_49 {G : fw_K} {R : fw_KR} (hG : fw_cls st_append R G) {a1 a2 : Int} {σ : ab_SG} (h : G 3 [some (2, 1, 0), some (0, 0, a1), some (0, 0, a2 + (-8))] [] σ) : G 49 [some (2, 1, 0), some (0, 0, a1), some (0, 0, a2)] [] σ := fw_on hG [3, 49] 200 h
abbrev fk_feed : List fw_CR := [(108, 0, true, 8, 0, sp_hasRoom), (112, 1, true, 8, 0, sp_append)]
abbrev st_feed : fw_K → fw_KR → fw_K := fw_st vwCl nn_sh nn_kd fw_kv fw_wc (nn_KI1.map (fun x => x.1)) (nn_KJ1.map (fun x => x.1)) (nn_PF1.map (fun x => x.1)) (nn_PS1.map (fun x => x.1)) fk_feed 1 nn_dt0 6 0
theorem fs_feed_0 {G : fw_K} {R : fw_KR} (hG : fw_cls st_feed R G) {a b c d e : Int} {σ : ab_SG} (h : sp_hasRoom [(2, 1, 0)] σ (fun rv σ2 => G 7 [some (2, 0, 0), some (0, 0, a), some (0, 0, b), some (0, 0, c), some (0, 0, d), some (0, 0, e)] (rv.toList ++ []) σ2)) : G 0 [some (2, 0, 0), some (0, 0, a), some (0, 0, b), some (0, 0, c), some (0, 0, d), some (0, 0, e)] [] σ := fw_on hG [7, 20, 28, 36, 45, 54] 200 h
theorem fs_feed_7 {G : fw_K} {R : fw_KR} (hG : fw_cls st_feed R G) {a1 a2 a3 a4 a5 b0 : Int} {σ : ab_SG} (h : (fw_c b0 ≠ 0 → sp_append [(2, 1, 0), (0, 0, a1)] σ (fun rv σ2 => G 20 [some (2, 0, 0), some (0, 0, a1), some (0, 0, a2), some (0, 0, a3), some (0, 0, a4), some (0, 0, a5)] (rv.toList ++ []) σ2)) ∧ (fw_c b0 = 0 → R (some (0, 0, (-1))) σ)) : G 7 [some (2, 0, 0), some (0, 0, a1), some (0, 0, a2), some (0, 0, a3), some (0, 0, a4), some (0, 0, a5)] [(0, 0, b0)] σ := fw_on hG [7, 20, 28, 36, 45, 54] 200 h
theorem fs_feed_20 {G : fw_K} {R : fw_KR} (hG : fw_cls st_feed R G) {a1 a2 a3 a4 a5 : Int} {σ : ab_SG} (h : sp_append [(2, 1, 0), (0, 0, a2)] σ (fun rv σ2 => G 28 [some (2, 0, 0), some (0, 0, a1), some (0, 0, a2), some (0, 0, a3), some (0, 0, a4), some (0, 0, a5)] (rv.toList ++ []) σ2)) : G 20 [some (2, 0, 0), some (0, 0, a1), some (0, 0, a2), some (0, 0, a3), some (0, 0, a4), some (0, 0, a5)] [] σ := fw_on hG [7, 20, 28, 36, 45, 54] 200 h
theorem fs_feed_28 {G : fw_K} {R : fw_KR} (hG : fw_cls st_feed R G) {a1 a2 a3 a4 a5 : Int} {σ : ab_SG} (h : sp_append [(2, 1, 0), (0, 0, a3)] σ (fun rv σ2 => G 36 [some (2, 0, 0), some (0, 0, a1), some (0, 0, a2), some (0, 0, a3), some (0, 0, a4), some (0, 0, a5)] (rv.toList ++ []) σ2)) : G 28 [some (2, 0, 0), some (0, 0, a1), some (0, 0, a2), some (0, 0, a3), some (0, 0, a4), some (0, 0, a5)] [] σ := fw_on hG [7, 20, 28, 36, 45, 54] 200 h
theorem fs_feed_36 {G : fw_K} {R : fw_KR} (hG : fw_cls st_feed R G) {a1 a2 a3 a4 a5 : Int} {σ : ab_SG} (h : sp_append [(2, 1, 0), (0, 0, a4)] σ (fun rv σ2 => G 45 [some (2, 0, 0), some (0, 0, a1), some (0, 0, a2), some (0, 0, a3), some (0, 0, a4), some (0, 0, a5)] (rv.toList ++ []) σ2)) : G 36 [some (2, 0, 0), some (0, 0, a1), some (0, 0, a2), some (0, 0, a3), some (0, 0, a4), some (0, 0, a5)] [] σ := fw_on hG [7, 20, 28, 36, 45, 54] 200 h
theorem fs_feed_45 {G : fw_K} {R : fw_KR} (hG : fw_cls st_feed R G) {a1 a2 a3 a4 a5 : Int} {σ : ab_SG} (h : sp_append [(2, 1, 0), (0, 0, a5)] σ (fun rv σ2 => G 54 [some (2, 0, 0), some (0, 0, a1), some (0, 0, a2), some (0, 0, a3), some (0, 0, a4), some (0, 0, a5)] (rv.toList ++ []) σ2)) : G 45 [some (2, 0, 0), some (0, 0, a1), some (0, 0, a2), some (0, 0, a3), some (0, 0, a4), some (0, 0, a5)] [] σ := fw_on hG [7, 20, 28, 36, 45, 54] 200 h
theorem fs_feed_54 {G : fw_K} {R : fw_KR} (hG : fw_cls st_feed R G) {a1 a2 a3 a4 a5 : Int} {σ : ab_SG} (h : R (some (0, 0, σ 1 1)) σ) : G 54 [some (2, 0, 0), some (0, 0, a1), some (0, 0, a2), some (0, 0, a3), some (0, 0, a4), some (0, 0, a5)] [] σ := fw_on hG [7, 20, 28, 36, 45, 54] 200 h
abbrev fk_end : List fw_CR := []
abbrev st_end : fw_K → fw_KR → fw_K := fw_st vwCl nn_sh nn_kd fw_kv fw_wc (nn_KI1.map (fun x => x.1)) (nn_KJ1.map (fun x => x.1)) (nn_PF1.map (fun x => x.1)) (nn_PS1.map (fun x => x.1)) fk_end 0 nn_dt3 2 1
theorem fs_end_0 {G : fw_K} {R : fw_KR} (hG : fw_cls st_end R G) {n : Int} {σ : ab_SG} (h : (fw_c n < 0 → (0 ≤ fw_c 0 ∧ fw_c 0 ≤ 1) ∧ R (some (0, 0, 0)) σ) ∧ (0 ≤ fw_c n → (fw_c n ≤ fw_c (σ 1 1) → (0 ≤ fw_c 1 ∧ fw_c 1 ≤ 1) ∧ R (some (0, 0, 1)) (ab_ups σ 1 1 (fw_c n))) ∧ (fw_c (σ 1 1) < fw_c n → (0 ≤ fw_c 0 ∧ fw_c 0 ≤ 1) ∧ R (some (0, 0, 0)) σ))) : G 0 [some (2, 0, 0), some (0, 0, n)] [] σ := fw_on hG [] 200 h
abbrev fk_count : List fw_CR := []
abbrev st_count : fw_K → fw_KR → fw_K := fw_st vwCl nn_sh nn_kd fw_kv fw_wc (nn_KI1.map (fun x => x.1)) (nn_KJ1.map (fun x => x.1)) (nn_PF1.map (fun x => x.1)) (nn_PS1.map (fun x => x.1)) fk_count 0 nn_dt187 2 0
theorem fs_count_0 {G : fw_K} {R : fw_KR} (hG : fw_cls st_count R G) {w : Int} {σ : ab_SG} (h : ((fw_c w < 0 → (R (some (0, 0, (-1))) σ)) ∧ (4 < fw_c w → (R (some (0, 0, (-1))) σ))) ∧ (fw_c w = 0 → (R (some (0, 0, σ 3 11)) σ)) ∧ (fw_c w = 0 + 1 → (R (some (0, 0, σ 3 12)) σ)) ∧ (fw_c w = 0 + 1 + 1 → (R (some (0, 0, σ 3 13)) σ)) ∧ (fw_c w = 0 + 1 + 1 + 1 → (R (some (0, 0, σ 3 14)) σ)) ∧ (fw_c w = 0 + 1 + 1 + 1 + 1 → (R (some (0, 0, σ 1 1)) σ)) ∧ True) : G 0 [some (2, 0, 0), some (0, 0, w)] [] σ := fw_on hG [] 200 h
abbrev fk_m_come : List fw_CR := []
abbrev st_m_come : fw_K → fw_KR → fw_K := fw_st vwCl nn_sh nn_kd fw_kv fw_wc (nn_KI20.map (fun x => x.1)) (nn_KJ20.map (fun x => x.1)) (nn_PF20.map (fun x => x.1)) (nn_PS20.map (fun x => x.1)) fk_m_come 0 nn_dt206 3 4
theorem fs_m_come_0 {G : fw_K} {R : fw_KR} (hG : fw_cls st_m_come R G) {w : Int} {σ : ab_SG} (h : G 3 [some (2, 93, 0), some (0, 0, w), some (0, 0, 24)] [] σ) : G 0 [some (2, 93, 0), some (0, 0, w), none] [] σ := fw_on hG [3] 200 h
theorem fs_m_come_3 {G : fw_K} {R : fw_KR} (hG : fw_cls st_m_come R G) {a1 a2 : Int} {σ : ab_SG} (h : (fw_c a2 < 0 → R none σ) ∧ (0 ≤ fw_c a2 → (0 ≤ fw_c (σ 93 2) ∧ fw_c (σ 93 2) < ((940 : Nat) : Int)) ∧ True ∧ (G 3 [some (2, 93, 0), some (0, 0, a1), some (0, 0, a2 + (-8))] [] (ab_ups (ab_ups σ 94 (fw_c (σ 93 2)).toNat (fw_c (fw_op 8 (fw_op 7 a1 a2) 255))) 93 2 (fw_c ((σ 93 2) + 1)))))) : G 3 [some (2, 93, 0), some (0, 0, a1), some (0, 0, a2)] [] σ := fw_on hG [3] 200 h
abbrev fk_m_feed : List fw_CR := [(106, 1, true, 11, 0, sp_m_come)]
abbrev st_m_feed : fw_K → fw_KR → fw_K := fw_st vwCl nn_sh nn_kd fw_kv fw_wc (nn_KI20.map (fun x => x.1)) (nn_KJ20.map (fun x => x.1)) (nn_PF20.map (fun x => x.1)) (nn_PS20.map (fun x => x.1)) fk_m_feed 1 nn_dt205 6 0
theorem fs_m_feed_0 {G : fw_K} {R : fw_KR} (hG : fw_cls st_m_feed R G) {a b c d e : Int} {σ : ab_SG} (h : (fw_c ((σ 93 2) + 20) ≤ fw_c 940 → sp_m_come [(2, 93, 0), (0, 0, a)] (ab_ups σ 93 0 (fw_c 0)) (fun rv σ2 => G 25 [some (2, 93, 0), some (0, 0, a), some (0, 0, b), some (0, 0, c), some (0, 0, d), some (0, 0, e)] (rv.toList ++ []) σ2)) ∧ (fw_c 940 < fw_c ((σ 93 2) + 20) → R (some (0, 0, (-1))) (ab_ups σ 93 0 (fw_c 0)))) : G 0 [some (2, 93, 0), some (0, 0, a), some (0, 0, b), some (0, 0, c), some (0, 0, d), some (0, 0, e)] [] σ := fw_on hG [25, 30, 35, 41, 47] 200 h
theorem fs_m_feed_25 {G : fw_K} {R : fw_KR} (hG : fw_cls st_m_feed R G) {a1 a2 a3 a4 a5 : Int} {σ : ab_SG} (h : sp_m_come [(2, 93, 0), (0, 0, a2)] σ (fun rv σ2 => G 30 [some (2, 93, 0), some (0, 0, a1), some (0, 0, a2), some (0, 0, a3), some (0, 0, a4), some (0, 0, a5)] (rv.toList ++ []) σ2)) : G 25 [some (2, 93, 0), some (0, 0, a1), some (0, 0, a2), some (0, 0, a3), some (0, 0, a4), some (0, 0, a5)] [] σ := fw_on hG [25, 30, 35, 41, 47] 200 h
theorem fs_m_feed_30 {G : fw_K} {R : fw_KR} (hG : fw_cls st_m_feed R G) {a1 a2 a3 a4 a5 : Int} {σ : ab_SG} (h : sp_m_come [(2, 93, 0), (0, 0, a3)] σ (fun rv σ2 => G 35 [some (2, 93, 0), some (0, 0, a1), some (0, 0, a2), some (0, 0, a3), some (0, 0, a4), some (0, 0, a5)] (rv.toList ++ []) σ2)) : G 30 [some (2, 93, 0), some (0, 0, a1), some (0, 0, a2), some (0, 0, a3), some (0, 0, a4), some (0, 0, a5)] [] σ := fw_on hG [25, 30, 35, 41, 47] 200 h
theorem fs_m_feed_35 {G : fw_K} {R : fw_KR} (hG : fw_cls st_m_feed R G) {a1 a2 a3 a4 a5 : Int} {σ : ab_SG} (h : sp_m_come [(2, 93, 0), (0, 0, a4)] σ (fun rv σ2 => G 41 [some (2, 93, 0), some (0, 0, a1), some (0, 0, a2), some (0, 0, a3), some (0, 0, a4), some (0, 0, a5)] (rv.toList ++ []) σ2)) : G 35 [some (2, 93, 0), some (0, 0, a1), some (0, 0, a2), some (0, 0, a3), some (0, 0, a4), some (0, 0, a5)] [] σ := fw_on hG [25, 30, 35, 41, 47] 200 h
theorem fs_m_feed_41 {G : fw_K} {R : fw_KR} (hG : fw_cls st_m_feed R G) {a1 a2 a3 a4 a5 : Int} {σ : ab_SG} (h : sp_m_come [(2, 93, 0), (0, 0, a5)] σ (fun rv σ2 => G 47 [some (2, 93, 0), some (0, 0, a1), some (0, 0, a2), some (0, 0, a3), some (0, 0, a4), some (0, 0, a5)] (rv.toList ++ []) σ2)) : G 41 [some (2, 93, 0), some (0, 0, a1), some (0, 0, a2), some (0, 0, a3), some (0, 0, a4), some (0, 0, a5)] [] σ := fw_on hG [25, 30, 35, 41, 47] 200 h
theorem fs_m_feed_47 {G : fw_K} {R : fw_KR} (hG : fw_cls st_m_feed R G) {a1 a2 a3 a4 a5 : Int} {σ : ab_SG} (h : R (some (0, 0, σ 93 2)) σ) : G 47 [some (2, 93, 0), some (0, 0, a1), some (0, 0, a2), some (0, 0, a3), some (0, 0, a4), some (0, 0, a5)] [] σ := fw_on hG [25, 30, 35, 41, 47] 200 h
abbrev fk_m_end : List fw_CR := []
abbrev st_m_end : fw_K → fw_KR → fw_K := fw_st vwCl nn_sh nn_kd fw_kv fw_wc (nn_KI20.map (fun x => x.1)) (nn_KJ20.map (fun x => x.1)) (nn_PF20.map (fun x => x.1)) (nn_PS20.map (fun x => x.1)) fk_m_end 0 nn_dt207 2 1
theorem fs_m_end_0 {G : fw_K} {R : fw_KR} (hG : fw_cls st_m_end R G) {n : Int} {σ : ab_SG} (h : (fw_c n < 0 → (0 ≤ fw_c 0 ∧ fw_c 0 ≤ 1) ∧ R (some (0, 0, 0)) (ab_ups σ 93 0 (fw_c 0))) ∧ (0 ≤ fw_c n → (fw_c n ≤ fw_c (σ 93 2) → (0 ≤ fw_c 1 ∧ fw_c 1 ≤ 1) ∧ R (some (0, 0, 1)) (ab_ups (ab_ups σ 93 0 (fw_c 0)) 93 2 (fw_c n))) ∧ (fw_c (σ 93 2) < fw_c n → (0 ≤ fw_c 0 ∧ fw_c 0 ≤ 1) ∧ R (some (0, 0, 0)) (ab_ups σ 93 0 (fw_c 0))))) : G 0 [some (2, 93, 0), some (0, 0, n)] [] σ := fw_on hG [] 200 h
abbrev fk_m_tunes : List fw_CR := []
abbrev st_m_tunes : fw_K → fw_KR → fw_K := fw_st vwCl nn_sh nn_kd fw_kv fw_wc (nn_KI20.map (fun x => x.1)) (nn_KJ20.map (fun x => x.1)) (nn_PF20.map (fun x => x.1)) (nn_PS20.map (fun x => x.1)) fk_m_tunes 0 nn_dt240 1 0
theorem fs_m_tunes_0 {G : fw_K} {R : fw_KR} (hG : fw_cls st_m_tunes R G) {σ : ab_SG} (h : (0 ≤ fw_c 0 ∧ fw_c 0 < ((474 : Nat) : Int)) ∧ (R (some (0, 0, σ 95 (fw_c 0).toNat)) σ)) : G 0 [some (2, 93, 0)] [] σ := fw_on hG [] 200 h
abbrev fk_m_count : List fw_CR := [(188, 0, true, 11, 0, sp_m_lay), (261, 0, true, 11, 0, sp_m_tunes)]
abbrev st_m_count : fw_K → fw_KR → fw_K := fw_st vwCl nn_sh nn_kd fw_kv fw_wc (nn_KI20.map (fun x => x.1)) (nn_KJ20.map (fun x => x.1)) (nn_PF20.map (fun x => x.1)) (nn_PS20.map (fun x => x.1)) fk_m_count 1 nn_dt354 2 0
theorem fs_m_count_0 {G : fw_K} {R : fw_KR} (hG : fw_cls st_m_count R G) {w : Int} {σ : ab_SG} (h : sp_m_lay [(2, 93, 0)] (ab_ups σ 93 0 (fw_c 0)) (fun rv σ2 => G 9 [some (2, 93, 0), some (0, 0, w)] (rv.toList ++ []) σ2)) : G 0 [some (2, 93, 0), some (0, 0, w)] [] σ := fw_on hG [9, 48] 200 h
theorem fs_m_count_9 {G : fw_K} {R : fw_KR} (hG : fw_cls st_m_count R G) {a1 : Int} {σ : ab_SG} (h : ((fw_c a1 < 0 → (R (some (0, 0, (-1))) σ)) ∧ (4 < fw_c a1 → (R (some (0, 0, (-1))) σ))) ∧ (fw_c a1 = 0 → (sp_m_tunes [(2, 93, 0)] σ (fun rv σ2 => G 48 [some (2, 93, 0), some (0, 0, a1)] (rv.toList ++ []) σ2))) ∧ (fw_c a1 = 0 + 1 → ((0 ≤ fw_c 1 ∧ fw_c 1 < ((474 : Nat) : Int)) ∧ (R (some (0, 0, σ 95 (fw_c 1).toNat)) σ))) ∧ (fw_c a1 = 0 + 1 + 1 → ((0 ≤ fw_c 2 ∧ fw_c 2 < ((474 : Nat) : Int)) ∧ (R (some (0, 0, σ 95 (fw_c 2).toNat)) σ))) ∧ (fw_c a1 = 0 + 1 + 1 + 1 → ((0 ≤ fw_c 3 ∧ fw_c 3 < ((474 : Nat) : Int)) ∧ (R (some (0, 0, σ 95 (fw_c 3).toNat)) σ))) ∧ (fw_c a1 = 0 + 1 + 1 + 1 + 1 → (R (some (0, 0, σ 93 2)) σ)) ∧ True) : G 9 [some (2, 93, 0), some (0, 0, a1)] [] σ := fw_on hG [9, 48] 200 h
theorem fs_m_count_48 {G : fw_K} {R : fw_KR} (hG : fw_cls st_m_count R G) {a1 b0 : Int} {σ : ab_SG} (h : R (some (0, 0, b0)) σ) : G 48 [some (2, 93, 0), some (0, 0, a1)] [(0, 0, b0)] σ := fw_on hG [9, 48] 200 h
section
variable {l : Launch} {cy : Nat → ClassId} {ad wr cr : Nat → Nat} {D : va_G}
theorem fm_hasRoom (hinj : nn_inj ad) : fw_H l cy ad wr cr D 1 0 sp_hasRoom := fw_mk hinj (⟨"NameNotes$Tape", "hasRoom", "()Z"⟩, prog_10_method_2_code, 1, (Option.some Jvm.ClassFile.FieldType.boolean), 0, true, 1) rfl rfl nn_KI2_ok nn_KJ2_ok nn_PF2_ok nn_PS2_ok (by decide +kernel) rfl rfl (fun _ h => absurd h List.not_mem_nil) (fun as σ K h => by
  obtain ⟨rfl, hb, h⟩ := h
  have e1 : fw_c 940 = 940 := fw_c_id (by decide) (by decide)
  have e2 : fw_c (σ 1 1 + 20) = σ 1 1 + 20 := fw_c_id (by omega) (by omega)
  refine ⟨rfl, fun G hG => fs_hasRoom_0 hG ?_⟩
  rw [e1, e2]
  refine ⟨fun q => ⟨fw_01, ?_⟩, fun q => ⟨fw_11, ?_⟩⟩
  · rw [fw_bo_f (by omega)] at h; exact h
  · rw [fw_bo_t q] at h; exact h)
theorem fm_append (hinj : nn_inj ad) : fw_H l cy ad wr cr D 2 0 sp_append := fw_mk hinj (⟨"NameNotes$Tape", "append", "(I)V"⟩, prog_10_method_3_code, 3, (Option.none : Option Jvm.ClassFile.FieldType), 1, true, 4) rfl rfl nn_KI2_ok nn_KJ2_ok nn_PF2_ok nn_PS2_ok (by decide +kernel) rfl rfl (fun _ h => absurd h List.not_mem_nil) (fun as σ K h => by
  obtain ⟨v, n, rfl, hn, hn2, h⟩ := h
  refine ⟨rfl, fun G hG => fs_append_0 hG ?_⟩
  have key : ∀ (f k : Nat) (σ1 : ab_SG), k + f = 4 → ap_is σ σ1 n k (ap_b v) → G 3 [some (2, 1, 0), some (0, 0, v), some (0, 0, 24 - 8 * (k : Int))] [] σ1 := by
    intro f
    induction f with
    | zero =>
      intro k σ1 hk q
      have ea : fw_c (24 - 8 * (k : Int)) = 24 - 8 * (k : Int) := fw_c_id (by omega) (by omega)
      have e4 : k = 4 := by omega
      refine fs_append_3 hG ?_
      rw [ea]
      refine ⟨fun _ => h σ1 (by rw [e4] at q; exact q), fun z => absurd z (by omega)⟩
    | succ f ih =>
      intro k σ1 hk q
      obtain ⟨q1, q2, q3, q4⟩ := q
      have ea : fw_c (24 - 8 * (k : Int)) = 24 - 8 * (k : Int) := fw_c_id (by omega) (by omega)
      have en : fw_c ((n + k : Nat) : Int) = ((n + k : Nat) : Int) := fw_c_id (by omega) (by omega)
      have e9 : fw_c ((940 : Nat) : Int) = 940 := fw_c_id (by decide) (by decide)
      have e1 : fw_c (((n + k : Nat) : Int) + 1) = ((n + (k + 1) : Nat) : Int) := by rw [fw_c_id (by omega) (by omega)]; omega
      refine fs_append_3 hG ?_
      rw [ea, q2, en, e9, e1, Int.toNat_natCast]
      refine ⟨fun z => absurd z (by omega), fun _ => ⟨fun z => absurd z (by omega), fun _ => ⟨fun z => absurd z (by omega), fun _ => ⟨⟨Int.natCast_nonneg _, by omega⟩, trivial, fs_append_49 hG ?_⟩⟩⟩⟩
      rw [show 24 - 8 * (k : Int) + (-8) = 24 - 8 * ((k + 1 : Nat) : Int) by omega]
      refine ih (k + 1) _ (by omega) ⟨fw_okM_ups (fw_okM_upa q1 (by decide)) (by decide), ab_ups_eq, fun j hj => ?_, fun i hi => ?_⟩
      · rw [ab_ups_ne (fun z => absurd z.1 (by decide)), ab_ups_ne (fun z => by omega)]; exact q3 j hj
      · rw [ab_ups_ne (fun z => absurd z.1 (by decide))]
        by_cases c : i = k
        · rw [c, ab_ups_eq]; rfl
        · rw [ab_ups_ne (fun z => by omega)]; exact q4 i (by omega)
  exact key 4 0 σ rfl ⟨fw_okM_refl _ _, hn, fun _ _ => rfl, fun i hi => absurd hi (Nat.not_lt_zero _)⟩)
theorem fm_m_come (hinj : nn_inj ad) : fw_H l cy ad wr cr D 206 0 sp_m_come := fw_mk hinj (⟨"NameNotesModel", "come", "(I)V"⟩, prog_14_method_4_code, 3, (Option.none : Option Jvm.ClassFile.FieldType), 1, true, 4) rfl rfl nn_KI20_ok nn_KJ20_ok nn_PF20_ok nn_PS20_ok (by decide +kernel) rfl rfl (fun _ h => absurd h List.not_mem_nil) (fun as σ K h => by
  obtain ⟨v, n, rfl, hn, hn2, h⟩ := h
  refine ⟨rfl, fun G hG => fs_m_come_0 hG ?_⟩
  have key : ∀ (f k : Nat) (σ1 : ab_SG), k + f = 4 → cm_is σ σ1 n k (ap_m v) → G 3 [some (2, 93, 0), some (0, 0, v), some (0, 0, 24 - 8 * (k : Int))] [] σ1 := by
    intro f
    induction f with
    | zero =>
      intro k σ1 hk q
      have ea : fw_c (24 - 8 * (k : Int)) = 24 - 8 * (k : Int) := fw_c_id (by omega) (by omega)
      have e4 : k = 4 := by omega
      refine fs_m_come_3 hG ?_
      rw [ea]
      refine ⟨fun _ => h σ1 (by rw [e4] at q; exact q), fun z => absurd z (by omega)⟩
    | succ f ih =>
      intro k σ1 hk q
      obtain ⟨q1, q2, q3, q4⟩ := q
      have ea : fw_c (24 - 8 * (k : Int)) = 24 - 8 * (k : Int) := fw_c_id (by omega) (by omega)
      have en : fw_c ((n + k : Nat) : Int) = ((n + k : Nat) : Int) := fw_c_id (by omega) (by omega)
      have e1 : fw_c (((n + k : Nat) : Int) + 1) = ((n + (k + 1) : Nat) : Int) := by rw [fw_c_id (by omega) (by omega)]; omega
      refine fs_m_come_3 hG ?_
      rw [ea, q2, en, e1, Int.toNat_natCast]
      refine ⟨fun z => absurd z (by omega), fun _ => ⟨⟨Int.natCast_nonneg _, by omega⟩, trivial, ?_⟩⟩
      rw [show 24 - 8 * (k : Int) + (-8) = 24 - 8 * ((k + 1 : Nat) : Int) by omega]
      refine ih (k + 1) _ (by omega) ⟨fw_okM_ups (fw_okM_upa q1 (by decide)) (by decide), ab_ups_eq, fun j hj => ?_, fun i hi => ?_⟩
      · rw [ab_ups_ne (fun z => absurd z.1 (by decide)), ab_ups_ne (fun z => by omega)]; exact q3 j hj
      · rw [ab_ups_ne (fun z => absurd z.1 (by decide))]
        by_cases c : i = k
        · rw [c, ab_ups_eq]; rfl
        · rw [ab_ups_ne (fun z => by omega)]; exact q4 i (by omega)
  exact key 4 0 σ rfl ⟨fw_okM_refl _ _, hn, fun _ _ => rfl, fun i hi => absurd hi (Nat.not_lt_zero _)⟩)
theorem fm_feed (hinj : nn_inj ad) : fw_H l cy ad wr cr D 0 1 sp_feed := fw_mk hinj (⟨"NameNotes", "feed", "(IIIII)I"⟩, prog_1_method_2_code, 6, (Option.some Jvm.ClassFile.FieldType.int), 5, true, 0) rfl rfl nn_KI1_ok nn_KJ1_ok nn_PF1_ok nn_PS1_ok (by decide +kernel) rfl rfl (List.forall_mem_cons.mpr ⟨fw_row nn_PM1_ok (x := 108) (k := 0) (mn := 1) (np := 0) (ob := true) (ci := 8) (⟨"NameNotes$Tape", "hasRoom", "()Z"⟩, prog_10_method_2_code, 1, (Option.some Jvm.ClassFile.FieldType.boolean), 0, true, 1) rfl (by decide +kernel) rfl rfl (by decide) (fun _ => ⟨_, _, rfl⟩) (fm_hasRoom hinj), (List.forall_mem_cons.mpr ⟨fw_row nn_PM1_ok (x := 112) (k := 0) (mn := 2) (np := 1) (ob := true) (ci := 8) (⟨"NameNotes$Tape", "append", "(I)V"⟩, prog_10_method_3_code, 3, (Option.none : Option Jvm.ClassFile.FieldType), 1, true, 4) rfl (by decide +kernel) rfl rfl (by decide) (fun _ => ⟨_, _, rfl⟩) (fm_append hinj), (fun _ h => absurd h List.not_mem_nil)⟩)⟩) (fun as σ K h => by
  obtain ⟨a, b, c, d, e, n, rfl, hn, hn2, h0, h1⟩ := h
  refine ⟨rfl, fun G hG => fs_feed_0 hG ⟨rfl, by omega, fs_feed_7 hG ⟨fun q => ?_, fun q => ?_⟩⟩⟩
  · have q := fw_bo_ne q
    have hn3 : n ≤ 920 := by omega
    have h1 := h1 hn3
    refine ⟨a, n, rfl, hn, by omega, fun σ1 F1 => fs_feed_20 hG ⟨b, n + 4, rfl, F1.2.1, by omega, fun σ2 F2 => fs_feed_28 hG ⟨c, n + 8, rfl, F2.2.1, by omega, fun σ3 F3 => fs_feed_36 hG ⟨d, n + 12, rfl, F3.2.1, by omega, fun σ4 F4 => fs_feed_45 hG ⟨e, n + 16, rfl, F4.2.1, by omega, fun σ5 F5 => fs_feed_54 hG ?_⟩⟩⟩⟩⟩
    have e5 : σ5 1 1 = (n : Int) + 20 := by rw [F5.2.1]; omega
    rw [e5]
    have g1 : ap_is σ σ1 n 4 (fd_w ap_b a b c d e) := ⟨F1.1, F1.2.1, F1.2.2.1, fun i hi => by rw [fd_ne ap_b a b c d e 0 (by decide) i hi, if_neg (by omega)]; exact F1.2.2.2 i hi⟩
    have g2 := ap_add g1 F2 (fd_ne ap_b a b c d e 1 (by decide))
    have g3 := ap_add g2 F3 (fd_ne ap_b a b c d e 2 (by decide))
    have g4 := ap_add g3 F4 (fd_ne ap_b a b c d e 3 (by decide))
    exact h1 σ5 (ap_add g4 F5 (fd_ne ap_b a b c d e 4 (by decide)))
  · have q := fw_bo_eq q
    exact h0 (by omega))
theorem fm_m_feed (hinj : nn_inj ad) : fw_H l cy ad wr cr D 205 1 sp_m_feed := fw_mk hinj (⟨"NameNotesModel", "feed", "(IIIII)I"⟩, prog_14_method_5_code, 6, (Option.some Jvm.ClassFile.FieldType.int), 5, true, 0) rfl rfl nn_KI20_ok nn_KJ20_ok nn_PF20_ok nn_PS20_ok (by decide +kernel) rfl rfl (List.forall_mem_cons.mpr ⟨fw_row nn_PM20_ok (x := 106) (k := 0) (mn := 206) (np := 1) (ob := true) (ci := 11) (⟨"NameNotesModel", "come", "(I)V"⟩, prog_14_method_4_code, 3, (Option.none : Option Jvm.ClassFile.FieldType), 1, true, 4) rfl (by decide +kernel) rfl rfl (by decide) (fun _ => ⟨_, _, rfl⟩) (fm_m_come hinj), (fun _ h => absurd h List.not_mem_nil)⟩) (fun as σ K h => by
  obtain ⟨a, b, c, d, e, n, rfl, hn, hn2, h0, h1⟩ := h
  have e1 : fw_c 940 = 940 := fw_c_id (by decide) (by decide)
  have e2 : fw_c ((n : Int) + 20) = (n : Int) + 20 := fw_c_id (by omega) (by omega)
  refine ⟨rfl, fun G hG => fs_m_feed_0 hG ?_⟩
  rw [hn, e1, e2, fw_c0]
  refine ⟨fun q => ?_, fun q => h0 (by omega)⟩
  have h1 := h1 (by omega)
  refine ⟨a, n, rfl, (ab_ups_ne (by decide)).trans hn, by omega, fun σ1 F1 => fs_m_feed_25 hG ⟨b, n + 4, rfl, F1.2.1, by omega, fun σ2 F2 => fs_m_feed_30 hG ⟨c, n + 8, rfl, F2.2.1, by omega, fun σ3 F3 => fs_m_feed_35 hG ⟨d, n + 12, rfl, F3.2.1, by omega, fun σ4 F4 => fs_m_feed_41 hG ⟨e, n + 16, rfl, F4.2.1, by omega, fun σ5 F5 => fs_m_feed_47 hG ?_⟩⟩⟩⟩⟩
  have e5 : σ5 93 2 = (n : Int) + 20 := by rw [F5.2.1]; omega
  rw [e5]
  have g1 : cm_is σ σ1 n 4 (fd_w ap_m a b c d e) := ⟨fw_okM_tr (fw_okM_ups (fw_okM_refl _ _) (by decide)) F1.1 (fun _ h => h), F1.2.1, fun j hj => (F1.2.2.1 j hj).trans (ab_ups_ne (fun z => absurd z.1 (by decide))), fun i hi => by rw [fd_ne ap_m a b c d e 0 (by decide) i hi, if_neg (by omega)]; exact F1.2.2.2 i hi⟩
  have g2 := cm_add g1 F2 (fd_ne ap_m a b c d e 1 (by decide))
  have g3 := cm_add g2 F3 (fd_ne ap_m a b c d e 2 (by decide))
  have g4 := cm_add g3 F4 (fd_ne ap_m a b c d e 3 (by decide))
  exact h1 σ5 (cm_add g4 F5 (fd_ne ap_m a b c d e 4 (by decide))))
theorem fm_end (hinj : nn_inj ad) : fw_H l cy ad wr cr D 3 0 sp_end := fw_mk hinj (⟨"NameNotes", "end", "(I)Z"⟩, prog_1_method_3_code, 2, (Option.some Jvm.ClassFile.FieldType.boolean), 1, true, 1) rfl rfl nn_KI1_ok nn_KJ1_ok nn_PF1_ok nn_PS1_ok (by decide +kernel) rfl rfl (fun _ h => absurd h List.not_mem_nil) (fun as σ K h => by
  obtain ⟨n, rfl, hb, h1, h0⟩ := h
  have e1 : fw_c (σ 1 1) = σ 1 1 := fw_c_id (by omega) (by omega)
  refine ⟨rfl, fun G hG => fs_end_0 hG ?_⟩
  rw [e1]
  exact ⟨fun q => ⟨fw_01, h0 (by omega)⟩, fun q => ⟨fun q2 => ⟨fw_11, h1 ⟨q, q2⟩⟩, fun q2 => ⟨fw_01, h0 (by omega)⟩⟩⟩)
theorem fm_m_end (hinj : nn_inj ad) : fw_H l cy ad wr cr D 207 0 sp_m_end := fw_mk hinj (⟨"NameNotesModel", "end", "(I)Z"⟩, prog_14_method_6_code, 2, (Option.some Jvm.ClassFile.FieldType.boolean), 1, true, 1) rfl rfl nn_KI20_ok nn_KJ20_ok nn_PF20_ok nn_PS20_ok (by decide +kernel) rfl rfl (fun _ h => absurd h List.not_mem_nil) (fun as σ K h => by
  obtain ⟨n, rfl, hb, h1, h0⟩ := h
  have e1 : fw_c (σ 93 2) = σ 93 2 := fw_c_id (by omega) (by omega)
  refine ⟨rfl, fun G hG => fs_m_end_0 hG ?_⟩
  rw [e1, fw_c0]
  exact ⟨fun q => ⟨by decide, h0 (by omega)⟩, fun q => ⟨fun q2 => ⟨fw_11, h1 ⟨q, q2⟩⟩, fun q2 => ⟨by decide, h0 (by omega)⟩⟩⟩)
theorem fm_count (hinj : nn_inj ad) : fw_H l cy ad wr cr D 187 0 sp_count := fw_mk hinj (⟨"NameNotes", "count", "(I)I"⟩, prog_1_method_59_code, 2, (Option.some Jvm.ClassFile.FieldType.int), 1, true, 0) rfl rfl nn_KI1_ok nn_KJ1_ok nn_PF1_ok nn_PS1_ok (by decide +kernel) rfl rfl (fun _ h => absurd h List.not_mem_nil) (fun as σ K h => by
  obtain ⟨w, rfl, h⟩ := h
  refine ⟨rfl, fun G hG => fs_count_0 hG ?_⟩
  unfold cq_v at h
  refine ⟨⟨fun q => ?_, fun q => ?_⟩, fun q => ?_, fun q => ?_, fun q => ?_, fun q => ?_, fun q => ?_, trivial⟩
  · rw [if_neg (by omega), if_neg (by omega), if_neg (by omega), if_neg (by omega), if_neg (by omega)] at h; exact h
  · rw [if_neg (by omega), if_neg (by omega), if_neg (by omega), if_neg (by omega), if_neg (by omega)] at h; exact h
  · rw [if_pos (by omega)] at h; exact h
  · rw [if_neg (by omega), if_pos (by omega)] at h; exact h
  · rw [if_neg (by omega), if_neg (by omega), if_pos (by omega)] at h; exact h
  · rw [if_neg (by omega), if_neg (by omega), if_neg (by omega), if_pos (by omega)] at h; exact h
  · rw [if_neg (by omega), if_neg (by omega), if_neg (by omega), if_neg (by omega), if_pos (by omega)] at h; exact h)
theorem fm_m_tunes (hinj : nn_inj ad) : fw_H l cy ad wr cr D 240 0 sp_m_tunes := fw_mk hinj (⟨"NameNotesModel", "tunes", "()I"⟩, prog_14_method_41_code, 1, (Option.some Jvm.ClassFile.FieldType.int), 0, true, 0) rfl rfl nn_KI20_ok nn_KJ20_ok nn_PF20_ok nn_PS20_ok (by decide +kernel) rfl rfl (fun _ h => absurd h List.not_mem_nil) (fun as σ K h => by
  obtain ⟨rfl, h⟩ := h
  have t0 : (fw_c 0).toNat = 0 := by rw [fw_c0]; rfl
  refine ⟨rfl, fun G hG => fs_m_tunes_0 hG ?_⟩
  rw [t0, fw_c0]
  exact ⟨by decide, h⟩)
theorem fm_m_count (hinj : nn_inj ad) : fw_H l cy ad wr cr D 354 1 sp_m_count := fw_mk hinj (⟨"NameNotesModel", "count", "(I)I"⟩, prog_14_method_152_code, 2, (Option.some Jvm.ClassFile.FieldType.int), 1, true, 0) rfl rfl nn_KI20_ok nn_KJ20_ok nn_PF20_ok nn_PS20_ok (by decide +kernel) rfl rfl (List.forall_mem_cons.mpr ⟨fw_row nn_PM20_ok (x := 188) (k := 0) (mn := 210) (np := 0) (ob := true) (ci := 11) (⟨"NameNotesModel", "lay", "()V"⟩, prog_14_method_28_code, 1, (Option.none : Option Jvm.ClassFile.FieldType), 0, true, 4) rfl (by decide +kernel) rfl rfl (by decide) (fun _ => ⟨_, _, rfl⟩) (fm_m_lay hinj), (List.forall_mem_cons.mpr ⟨fw_row nn_PM20_ok (x := 261) (k := 0) (mn := 240) (np := 0) (ob := true) (ci := 11) (⟨"NameNotesModel", "tunes", "()I"⟩, prog_14_method_41_code, 1, (Option.some Jvm.ClassFile.FieldType.int), 0, true, 0) rfl (by decide +kernel) rfl rfl (by decide) (fun _ => ⟨_, _, rfl⟩) (fm_m_tunes hinj), (fun _ h => absurd h List.not_mem_nil)⟩)⟩) (fun as σ K h => by
  obtain ⟨w, rfl, ho, h⟩ := h
  have t1 : (fw_c 1).toNat = 1 := by rw [fw_c1]; rfl
  have t2 : (fw_c 2).toNat = 2 := by rw [fw_c_id (by decide) (by decide)]; rfl
  have t3 : (fw_c 3).toNat = 3 := by rw [fw_c_id (by decide) (by decide)]; rfl
  have u1 : 0 ≤ fw_c 1 ∧ fw_c 1 < ((474 : Nat) : Int) := by rw [fw_c1]; decide
  have u2 : 0 ≤ fw_c 2 ∧ fw_c 2 < ((474 : Nat) : Int) := by rw [fw_c_id (by decide) (by decide)]; decide
  have u3 : 0 ≤ fw_c 3 ∧ fw_c 3 < ((474 : Nat) : Int) := by rw [fw_c_id (by decide) (by decide)]; decide
  refine ⟨rfl, fun G hG => fs_m_count_0 hG ⟨rfl, ho, fun σ1 M1 L1 => fs_m_count_9 hG ?_⟩⟩
  have h := h σ1 (fw_okM_tr (fw_okM_ups (fw_okM_refl _ _) (by decide)) M1 (by decide)) L1
  rw [t1, t2, t3]
  unfold cq_v at h
  refine ⟨⟨fun q => ?_, fun q => ?_⟩, fun q => ⟨rfl, fs_m_count_48 hG ?_⟩, fun q => ⟨u1, ?_⟩, fun q => ⟨u2, ?_⟩, fun q => ⟨u3, ?_⟩, fun q => ?_, trivial⟩
  · rw [if_neg (by omega), if_neg (by omega), if_neg (by omega), if_neg (by omega), if_neg (by omega)] at h; exact h
  · rw [if_neg (by omega), if_neg (by omega), if_neg (by omega), if_neg (by omega), if_neg (by omega)] at h; exact h
  · rw [if_pos (by omega)] at h; exact h
  · rw [if_neg (by omega), if_pos (by omega)] at h; exact h
  · rw [if_neg (by omega), if_neg (by omega), if_pos (by omega)] at h; exact h
  · rw [if_neg (by omega), if_neg (by omega), if_neg (by omega), if_pos (by omega)] at h; exact h
  · rw [if_neg (by omega), if_neg (by omega), if_neg (by omega), if_neg (by omega), if_pos (by omega)] at h; exact h)
end
