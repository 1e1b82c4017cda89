section
/-! what may be said of which tune -/
theorem sd_iff {a b : Bool} (h : a = true ↔ b = true) : a = b := by
  cases a <;> cases b
  · rfl
  · exact (h.mpr rfl)
  · exact (h.mp rfl).symm
  · rfl
theorem sd_or {a b : Int} (ha : 0 ≤ a ∧ a < 512) (hb : 0 ≤ b ∧ b < 512) : (0 ≤ fw_op 9 a b ∧ fw_op 9 a b < 512) ∧ ∀ z : Nat, z < 9 → pr_hs (fw_op 9 a b) (z : Int) = (pr_hs a (z : Int) || pr_hs b (z : Int)) := by
  obtain ⟨x, rfl⟩ := Int.eq_ofNat_of_zero_le ha.1
  obtain ⟨y, rfl⟩ := Int.eq_ofNat_of_zero_le hb.1
  have hx : x < 512 := by omega
  have hy : y < 512 := by omega
  have e0 : ∀ m : Nat, m < 512 → (BitVec.ofInt 32 (m : Int)).toNat = m := fun m hm => by
    rw [BitVec.toNat_ofInt]
    omega
  have l : x ||| y < 512 := Nat.or_lt_two_pow (n := 9) hx hy
  have e1 : ((BitVec.ofInt 32 (x : Int)) ||| (BitVec.ofInt 32 (y : Int))).toNat = x ||| y := by
    rw [BitVec.toNat_or, e0 x hx, e0 y hy]
  have e : fw_op 9 (x : Int) (y : Int) = ((x ||| y : Nat) : Int) := by
    show ((BitVec.ofInt 32 (x : Int)) ||| (BitVec.ofInt 32 (y : Int))).toInt = _
    rw [BitVec.toInt_eq_toNat_of_lt (by rw [e1]; omega), e1]
  rw [e]
  refine ⟨by omega, fun z hz => ?_⟩
  rw [hs_tb l hz, hs_tb hx hz, hs_tb hy hz, Nat.testBit_or]
theorem sd_and {a b : Int} (ha : 0 ≤ a ∧ a < 512) (hb : 0 ≤ b ∧ b < 512) : (0 ≤ fw_op 8 a b ∧ fw_op 8 a b < 512) ∧ ∀ z : Nat, z < 9 → pr_hs (fw_op 8 a b) (z : Int) = (pr_hs a (z : Int) && pr_hs b (z : Int)) := by
  obtain ⟨x, rfl⟩ := Int.eq_ofNat_of_zero_le ha.1
  obtain ⟨y, rfl⟩ := Int.eq_ofNat_of_zero_le hb.1
  have hx : x < 512 := by omega
  have hy : y < 512 := by omega
  have e0 : ∀ m : Nat, m < 512 → (BitVec.ofInt 32 (m : Int)).toNat = m := fun m hm => by
    rw [BitVec.toNat_ofInt]
    omega
  have l : x &&& y ≤ x := Nat.and_le_left
  have e1 : ((BitVec.ofInt 32 (x : Int)) &&& (BitVec.ofInt 32 (y : Int))).toNat = x &&& y := by
    rw [BitVec.toNat_and, e0 x hx, e0 y hy]
  have e : fw_op 8 (x : Int) (y : Int) = ((x &&& y : Nat) : Int) := by
    show ((BitVec.ofInt 32 (x : Int)) &&& (BitVec.ofInt 32 (y : Int))).toInt = _
    rw [BitVec.toInt_eq_toNat_of_lt (by rw [e1]; omega), e1]
  rw [e]
  refine ⟨by omega, fun z hz => ?_⟩
  rw [hs_tb (by omega) hz, hs_tb hx hz, hs_tb hy hz, Nat.testBit_and]
theorem sd_not {a b : Int} (ha : 0 ≤ a ∧ a < 512) (hb : 0 ≤ b ∧ b < 512) : (0 ≤ fw_op 8 a (fw_op 10 b (-1)) ∧ fw_op 8 a (fw_op 10 b (-1)) < 512) ∧ ∀ z : Nat, z < 9 → pr_hs (fw_op 8 a (fw_op 10 b (-1))) (z : Int) = (pr_hs a (z : Int) && !pr_hs b (z : Int)) := by
  obtain ⟨x, rfl⟩ := Int.eq_ofNat_of_zero_le ha.1
  obtain ⟨y, rfl⟩ := Int.eq_ofNat_of_zero_le hb.1
  have hx : x < 512 := by omega
  have hy : y < 512 := by omega
  have e10 : BitVec.ofInt 32 (fw_op 10 (y : Int) (-1)) = BitVec.ofInt 32 (y : Int) ^^^ BitVec.ofInt 32 (-1) := congrArg Int32.toBitVec (fw_op_ok 10 (y : Int) (-1))
  have k1 : ∀ z : Nat, z < 32 → (BitVec.ofInt 32 (-1)).getLsbD z = true := by decide +kernel
  have lt : ∀ m i : Nat, m < 512 → 9 ≤ i → m.testBit i = false := fun m i hm hi => by
    have p : 512 ≤ 2 ^ i := show 2 ^ 9 ≤ 2 ^ i from Nat.pow_le_pow_right (by decide) hi
    exact Nat.testBit_lt_two_pow (by omega)
  have l : x &&& (511 ^^^ y) ≤ x := Nat.and_le_left
  have e1 : (BitVec.ofInt 32 (x : Int) &&& (BitVec.ofInt 32 (y : Int) ^^^ BitVec.ofInt 32 (-1))).toNat = x &&& (511 ^^^ y) := by
    refine Nat.eq_of_testBit_eq (fun i => ?_)
    rw [BitVec.testBit_toNat, BitVec.getLsbD_and, BitVec.getLsbD_xor, BitVec.ofInt_natCast, BitVec.ofInt_natCast, BitVec.getLsbD_ofNat, BitVec.getLsbD_ofNat, Nat.testBit_and, Nat.testBit_xor]
    by_cases c : i < 9
    · have k5 : ∀ z : Nat, z < 9 → Nat.testBit 511 z = true := by decide +kernel
      rw [k1 i (by omega), k5 i c, decide_eq_true (show i < 32 by omega)]
      cases x.testBit i <;> cases y.testBit i <;> rfl
    · rw [lt x i hx (by omega)]
      cases decide (i < 32) <;> rfl
  have e : fw_op 8 (x : Int) (fw_op 10 (y : Int) (-1)) = ((x &&& (511 ^^^ y) : Nat) : Int) := by
    show ((BitVec.ofInt 32 (x : Int)) &&& (BitVec.ofInt 32 (fw_op 10 (y : Int) (-1)))).toInt = _
    rw [e10, BitVec.toInt_eq_toNat_of_lt (by rw [e1]; omega), e1]
  rw [e]
  refine ⟨by omega, fun z hz => ?_⟩
  have k5 : ∀ z : Nat, z < 9 → Nat.testBit 511 z = true := by decide +kernel
  rw [hs_tb (by omega) hz, hs_tb hx hz, hs_tb hy hz, Nat.testBit_and, Nat.testBit_xor, k5 z hz]
  cases y.testBit z <;> rfl
theorem sd_all : ∀ t : Nat, t < 10 → (0 ≤ p2_n (t : Int) - 1 ∧ p2_n (t : Int) - 1 < 512) ∧ ∀ z : Nat, z < 9 → pr_hs (p2_n (t : Int) - 1) (z : Int) = decide (z < t) := by decide +kernel
theorem sd_o0 : ∀ s : Nat, s < 512 → fw_op 9 (s : Int) 0 = (s : Int) := by decide +kernel
theorem sd_dm : ∀ j : Nat, j < 12 → fw_op 3 (j : Int) 3 = (j : Int) / 3 ∧ fw_op 4 (j : Int) 3 = (j : Int) % 3 := by decide +kernel
/-- a step said of one tune -/
def ob (A : ab_SG) (y : Nat) (q : Int × Int) : Bool :=
  if q.1 = 3 then pr_hs (v_set A q.2) (y : Int)
  else if q.1 = 4 then decide (A 55 (9 * q.2.toNat + y) = 9)
  else if q.1 = 5 then decide (3 ≤ pr_cs A q.2 (y : Int) 0 9 0)
  else if (q.1 - 6) % 3 = 0 then decide (v_meas A y ((q.1 - 6) / 3) < q.2) else if (q.1 - 6) % 3 = 1 then decide (v_meas A y ((q.1 - 6) / 3) = q.2) else decide (q.2 < v_meas A y ((q.1 - 6) / 3))
/-- a node that speaks of tunes, as a step -/
def ns (N : Nat → Int) (t : Int) : Int × Int := if N (4 * t.toNat) ≤ 62 then (N (4 * t.toNat) - 57, N (4 * t.toNat + 1)) else (6 + 3 * (N (4 * t.toNat) - 63) + (N (4 * t.toNat + 3) - 60), N (4 * t.toNat + 2))
/-- a node said of one tune -/
def tv (A : ab_SG) (N : Nat → Int) (y : Nat) : Nat → Int → Bool
  | 0, _ => false
  | h + 1, t => if N (4 * t.toNat) = 1 then !tv A N y h (N (4 * t.toNat + 1)) else if N (4 * t.toNat) = 2 then (tv A N y h (N (4 * t.toNat + 1)) && tv A N y h (N (4 * t.toNat + 2))) else if N (4 * t.toNat) = 3 then (tv A N y h (N (4 * t.toNat + 1)) || tv A N y h (N (4 * t.toNat + 2))) else ob A y (ns N t)
theorem tv_s (A : ab_SG) (N : Nat → Int) (y h : Nat) (t : Int) : tv A N y (h + 1) t = if N (4 * t.toNat) = 1 then !tv A N y h (N (4 * t.toNat + 1)) else if N (4 * t.toNat) = 2 then (tv A N y h (N (4 * t.toNat + 1)) && tv A N y h (N (4 * t.toNat + 2))) else if N (4 * t.toNat) = 3 then (tv A N y h (N (4 * t.toNat + 1)) || tv A N y h (N (4 * t.toNat + 2))) else ob A y (ns N t) := rfl
/-- the k-th of the tunes of which it holds, from x on; (1, the tune) or (0, how many) -/
def sd_f (g : Nat → Bool) (k : Int) : Nat → Nat → Int → Int × Int
  | 0, _, n => (0, n)
  | f + 1, x, n => if g x = true then (if n = k then (1, (x : Int)) else sd_f g k f (x + 1) (n + 1)) else sd_f g k f (x + 1) n
theorem sd_s (g : Nat → Bool) (k : Int) (f x : Nat) (n : Int) : sd_f g k (f + 1) x n = if g x = true then (if n = k then (1, (x : Int)) else sd_f g k f (x + 1) (n + 1)) else sd_f g k f (x + 1) n := rfl
def sd_v (g : Nat → Bool) (k : Int) (T : Nat) : Int := if (sd_f g k T 0 0).1 = 1 then (sd_f g k T 0 0).2 else if k = -1 then (sd_f g k T 0 0).2 else -1
def v_said (A : ab_SG) (H : Int) (N : Nat → Int) (t k : Int) : Int := if H = 0 then -1 else sd_v (fun y => tv A N y 20 t) k (A 49 11).toNat
def sx_f (s k : Int) : Nat → Nat → Int → Int
  | 0, _, _ => -1
  | f + 1, x, a => if pr_hs s (x : Int) = true then (if a = k then (x : Int) else sx_f s k f (x + 1) (a + 1)) else sx_f s k f (x + 1) a
def sx (s k : Int) : Int := sx_f s k 9 0 0
theorem sx_s (s k : Int) (f x : Nat) (a : Int) : sx_f s k (f + 1) x a = if pr_hs s (x : Int) = true then (if a = k then (x : Int) else sx_f s k f (x + 1) (a + 1)) else sx_f s k f (x + 1) a := rfl
theorem sd_cs (P : Nat → Bool) (y : Nat) : oz_cnt P (y + 1) = cond (P y) (oz_cnt P y + 1) (oz_cnt P y) := rfl
/-- the class counts the same over its set -/
theorem sd_mb {g : Nat → Bool} {s k : Int} {T : Nat} (hT : T ≤ 9) (hs : ∀ z : Nat, z < 9 → pr_hs s (z : Int) = (decide (z < T) && g z)) : ∀ (f x : Nat) (n : Int), x + f = 9 → ((sd_f g k (T - x) x n).1 = 1 ∧ sx_f s k f x n = (sd_f g k (T - x) x n).2) ∨ ((sd_f g k (T - x) x n).1 = 0 ∧ sx_f s k f x n = -1)
  | 0, x, n, hx => by
    rw [show T - x = 0 by omega]
    exact Or.inr ⟨rfl, rfl⟩
  | f + 1, x, n, hx => by
    rw [sx_s, hs x (by omega)]
    by_cases c : x < T
    · rw [decide_eq_true c, Bool.true_and, show T - x = (T - (x + 1)) + 1 by omega, sd_s]
      by_cases d : g x = true
      · rw [if_pos d, if_pos d]
        by_cases e : n = k
        · rw [if_pos e, if_pos e]
          exact Or.inl ⟨rfl, rfl⟩
        · rw [if_neg e, if_neg e]
          exact sd_mb hT hs f (x + 1) (n + 1) (by omega)
      · rw [if_neg d, if_neg d]
        exact sd_mb hT hs f (x + 1) n (by omega)
    · rw [decide_eq_false c, Bool.false_and, if_neg (by decide)]
      have g1 := sd_mb (k := k) hT hs f (x + 1) n (by omega)
      rw [show T - (x + 1) = 0 by omega] at g1
      rw [show T - x = 0 by omega]
      exact g1
theorem sd_sh (g : Nat → Bool) (x : Nat) : ∀ F : Nat, oz_cnt (fun y => g (x + y)) (F + 1) = cond (g x) 1 0 + oz_cnt (fun y => g (x + 1 + y)) F
  | 0 => by
    show cond (g x) (0 + 1) 0 = cond (g x) 1 0 + 0
    cases g x <;> rfl
  | F + 1 => by
    have ih := sd_sh g x F
    rw [sd_cs, ih, sd_cs]
    have e : g (x + (F + 1)) = g (x + 1 + F) := by rw [show x + (F + 1) = x + 1 + F by omega]
    show cond (g (x + (F + 1))) (cond (g x) 1 0 + oz_cnt (fun y => g (x + 1 + y)) F + 1) (cond (g x) 1 0 + oz_cnt (fun y => g (x + 1 + y)) F) = cond (g x) 1 0 + cond (g (x + 1 + F)) (oz_cnt (fun y => g (x + 1 + y)) F + 1) (oz_cnt (fun y => g (x + 1 + y)) F)
    rw [e]
    cases g (x + 1 + F) <;> rfl
theorem sd_ct {g : Nat → Bool} : ∀ (f x : Nat) (n : Int), 0 ≤ n → (sd_f g (-1) f x n).1 = 0 ∧ (sd_f g (-1) f x n).2 = n + ((oz_cnt (fun y => g (x + y)) f : Nat) : Int)
  | 0, x, n, h => ⟨rfl, by show n = n + ((0 : Nat) : Int); omega⟩
  | f + 1, x, n, h => by
    rw [sd_s, sd_sh g x f]
    cases d : g x with
    | true =>
      rw [if_pos rfl, if_neg (by omega)]
      have r := sd_ct (g := g) f (x + 1) (n + 1) (by omega)
      refine ⟨r.1, ?_⟩
      rw [r.2]
      show n + 1 + ((oz_cnt (fun y => g (x + 1 + y)) f : Nat) : Int) = n + ((1 + oz_cnt (fun y => g (x + 1 + y)) f : Nat) : Int)
      omega
    | false =>
      rw [if_neg (by decide)]
      have r := sd_ct (g := g) f (x + 1) n h
      refine ⟨r.1, ?_⟩
      rw [r.2]
      show n + ((oz_cnt (fun y => g (x + 1 + y)) f : Nat) : Int) = n + ((0 + oz_cnt (fun y => g (x + 1 + y)) f : Nat) : Int)
      omega
theorem sd_set {g : Nat → Bool} {s k : Int} {T : Nat} (hT : T ≤ 9) (hs : ∀ z : Nat, z < 9 → pr_hs s (z : Int) = (decide (z < T) && g z)) (hk : -1 ≤ k) : (k = -1 → sd_v g k T = ((oz_cnt (oz_P s) 9 : Nat) : Int)) ∧ (k ≠ -1 → sd_v g k T = sx s k) := by
  refine ⟨fun e => ?_, fun e => ?_⟩
  · subst e
    have r := sd_ct (g := g) T 0 0 (Int.le_refl 0)
    unfold sd_v
    rw [r.1, if_neg (by decide), if_pos rfl, r.2]
    have c : ∀ F : Nat, F ≤ 9 → oz_cnt (oz_P s) F = oz_cnt (fun y => g (0 + y)) (if F ≤ T then F else T) := by
      intro F
      induction F with
      | zero => intro _; rw [if_pos (Nat.zero_le T)]; rfl
      | succ F ih =>
        intro hF
        have i9 := ih (by omega)
        have p : oz_P s F = (decide (F < T) && g F) := hs F (by omega)
        rw [sd_cs, i9, p]
        by_cases q : F < T
        · rw [if_pos (show F ≤ T by omega), if_pos (show F + 1 ≤ T by omega), decide_eq_true q, Bool.true_and]
          show cond (g F) (oz_cnt (fun y => g (0 + y)) F + 1) (oz_cnt (fun y => g (0 + y)) F) = cond (g (0 + F)) (oz_cnt (fun y => g (0 + y)) F + 1) (oz_cnt (fun y => g (0 + y)) F)
          rw [Nat.zero_add]
        · rw [if_neg (show ¬ F + 1 ≤ T by omega), decide_eq_false q, Bool.false_and]
          show oz_cnt (fun y => g (0 + y)) (if F ≤ T then F else T) = oz_cnt (fun y => g (0 + y)) T
          by_cases w : F ≤ T
          · rw [if_pos w, show F = T by omega]
          · rw [if_neg w]
    have c9 := c 9 (Nat.le_refl 9)
    have e9 : (if 9 ≤ T then 9 else T) = T := by split <;> omega
    rw [e9] at c9
    rw [c9, Int.zero_add]
  · have r := sd_mb (k := k) hT hs 9 0 0 rfl
    unfold sd_v
    rw [Nat.sub_zero] at r
    rcases r with ⟨a, b⟩ | ⟨a, b⟩
    · rw [if_pos a]
      exact b.symm
    · rw [a, if_neg (by decide), if_neg e]
      exact b.symm
theorem sd_lw (g : Nat → Bool) {k : Int} (hk : k < 0) : ∀ (f x : Nat) (n : Int), 0 ≤ n → (sd_f g k f x n).1 = 0
  | 0, x, n, h => rfl
  | f + 1, x, n, h => by
    rw [sd_s]
    by_cases d : g x = true
    · rw [if_pos d, if_neg (by omega)]
      exact sd_lw g hk f (x + 1) (n + 1) (by omega)
    · rw [if_neg d]
      exact sd_lw g hk f (x + 1) n h
theorem sd_low {g : Nat → Bool} {k : Int} {T : Nat} (hk : k < -1) : sd_v g k T = -1 := by
  unfold sd_v
  rw [sd_lw g (by omega) T 0 0 (Int.le_refl 0), if_neg (by decide), if_neg (by omega)]
theorem bI_b (b : Bool) : fw_bo (b = true) = bI b := by cases b <;> rfl
def sp_at17 : fw_SP := at_k 17 64
def sp_put17 : fw_SP := put_k 17 64
def sp_nthW : fw_SP := fun as σ K => ∃ s k : Int, as = [(0, 0, s), (0, 0, k)] ∧ fw_c k = k ∧ K (some (0, 0, sx s k)) σ
def sp_sdMeas : fw_SP := fun as σ K => ∃ (A : ab_SG) (x : Nat) (k v : Int), as = [(2, 3, 0), (0, 0, (x : Int)), (0, 0, k), (0, 0, v)] ∧ NC σ A ∧ (x : Int) < A 49 11 ∧ (6 ≤ k ∧ k ≤ 17) ∧ fw_c v = v ∧ K (some (0, 0, fw_bo (ob A x (k, v) = true))) σ
def sp_sdOne : fw_SP := fun as σ K => ∃ (A : ab_SG) (k v : Int), as = [(2, 3, 0), (0, 0, k), (0, 0, v)] ∧ NC σ A ∧ vs A (k, v) ∧ 3 ≤ k ∧ ∀ s : Int, (0 ≤ s ∧ s < 512) → (∀ z : Nat, z < 9 → pr_hs s (z : Int) = (decide (z < (A 49 11).toNat) && ob A z (k, v))) → K (some (0, 0, s)) σ
def sp_holding : fw_SP := fun as σ K => ∃ (A : ab_SG) (N : Nat → Int) (t : Int) (L : sl_T), as = [(2, 14, 0), (2, 3, 0)] ∧ NC σ A ∧ (σ 14 3 = (L.length : Int) ∧ L.length ≤ 60) ∧ (∀ i : Nat, i < L.length → L[i]? = some (σ 15 i, σ 16 i)) ∧ (∀ q ∈ L, vs A q) ∧ rp N 60 20 t L ∧
  ∀ (s : Int) (σ' : ab_SG), ab_okM [(17, 1000000)] σ σ' → (0 ≤ s ∧ s < 512) → (∀ z : Nat, z < 9 → pr_hs s (z : Int) = (decide (z < (A 49 11).toNat) && tv A N z 20 t)) → K (some (0, 0, s)) σ'
def sp_said : fw_SP := fun as σ K => ∃ (A : ab_SG) (H : Int) (N : Nat → Int) (t k : Int) (L : sl_T), as = [(2, 0, 0), (0, 0, k)] ∧ fw_c k = k ∧ NC σ A ∧ ((H = 0 ∧ σ 14 4 = 0) ∨ (H = 1 ∧ (1 ≤ σ 14 4 ∧ σ 14 4 ≤ 20) ∧ (σ 14 3 = (L.length : Int) ∧ L.length ≤ 60) ∧ (∀ i : Nat, i < L.length → L[i]? = some (σ 15 i, σ 16 i)) ∧ (∀ q ∈ L, vs A q) ∧ rp N 60 20 t L)) ∧
  ∀ σ' : ab_SG, ab_okM [(17, 1000000)] σ σ' → K (some (0, 0, v_said A H N t k)) σ'
def sp_m_holds (h : Nat) : fw_SP := fun as σ K => ∃ (A : ab_SG) (x : Nat) (t : Int) (L : sl_T), as = [(2, 93, 0), (0, 0, t), (0, 0, (x : Int))] ∧ NM σ A ∧ (x : Int) < A 49 11 ∧ rp (fun j => σ 95 (234 + j)) 60 h t L ∧ (∀ q ∈ L, vs A q) ∧ K (some (0, 0, bI (tv A (fun j => σ 95 (234 + j)) x h t))) σ
def sp_m_said : fw_SP := fun as σ K => ∃ (A : ab_SG) (k : Int) (L : sl_T), as = [(2, 93, 0), (0, 0, k)] ∧ fw_c k = k ∧ NM σ A ∧ (σ 95 232 = 0 ∨ (σ 95 232 = 1 ∧ (∀ q ∈ L, vs A q) ∧ rp (fun j => σ 95 (234 + j)) 60 20 (σ 95 233) L)) ∧ K (some (0, 0, v_said A (σ 95 232) (fun j => σ 95 (234 + j)) (σ 95 233) k)) (ab_ups σ 93 0 0)
abbrev fk_at17 : List fw_CR := []
abbrev st_at17 : fw_K → fw_KR → fw_K := fw_st vwCl nn_sh nn_kd fw_kv fw_wc (nn_KI1.map (fun x => x.1)) (nn_KJ1.map (fun x => x.1)) (nn_PF1.map (fun x => x.1)) (nn_PS1.map (fun x => x.1)) fk_at17 0 nn_dt29 2 0
theorem fs_at17_0 {G : fw_K} {R : fw_KR} (hG : fw_cls st_at17 R G) {x : Int} {σ : ab_SG} (h : (fw_c x < 0 → R (some (0, 0, 0)) σ) ∧ (0 ≤ fw_c x → (fw_c ((64 : Nat) : Int) ≤ fw_c x → R (some (0, 0, 0)) σ) ∧ (fw_c x < fw_c ((64 : Nat) : Int) → (0 ≤ fw_c x ∧ fw_c x < ((64 : Nat) : Int)) ∧ (R (some (0, 0, σ 17 (fw_c x).toNat)) σ)))) : G 0 [some (2, 17, 0), some (0, 0, x)] [] σ := fw_on hG [] 200 h
abbrev fk_put17 : List fw_CR := []
abbrev st_put17 : fw_K → fw_KR → fw_K := fw_st vwCl nn_sh nn_kd fw_kv fw_wc (nn_KI1.map (fun x => x.1)) (nn_KJ1.map (fun x => x.1)) (nn_PF1.map (fun x => x.1)) (nn_PS1.map (fun x => x.1)) fk_put17 0 nn_dt27 3 4
theorem fs_put17_0 {G : fw_K} {R : fw_KR} (hG : fw_cls st_put17 R G) {x v : Int} {σ : ab_SG} (h : (fw_c x < 0 → R none σ) ∧ (0 ≤ fw_c x → (fw_c ((64 : Nat) : Int) ≤ fw_c x → R none σ) ∧ (fw_c x < fw_c ((64 : Nat) : Int) → (0 ≤ fw_c x ∧ fw_c x < ((64 : Nat) : Int)) ∧ True ∧ (R none (ab_ups σ 17 (fw_c x).toNat (fw_c v)))))) : G 0 [some (2, 17, 0), some (0, 0, x), some (0, 0, v)] [] σ := fw_on hG [] 200 h
abbrev fk_nthW : List fw_CR := [(197, 2, false, 0, 0, sp_has)]
abbrev st_nthW : fw_K → fw_KR → fw_K := fw_st vwCl nn_sh nn_kd fw_kv fw_wc (nn_KI1.map (fun x => x.1)) (nn_KJ1.map (fun x => x.1)) (nn_PF1.map (fun x => x.1)) (nn_PS1.map (fun x => x.1)) fk_nthW 1 nn_dt164 4 0
theorem fs_nthW_0 {G : fw_K} {R : fw_KR} (hG : fw_cls st_nthW R G) {s k : Int} {σ : ab_SG} (h : G 4 [some (0, 0, s), some (0, 0, k), some (0, 0, 0), some (0, 0, 0)] [] σ) : G 0 [some (0, 0, s), some (0, 0, k), none, none] [] σ := fw_on hG [4, 15, 28] 200 h
theorem fs_nthW_4 {G : fw_K} {R : fw_KR} (hG : fw_cls st_nthW R G) {a0 a1 a2 a3 : Int} {σ : ab_SG} (h : (fw_c 9 ≤ fw_c a3 → R (some (0, 0, (-1))) σ) ∧ (fw_c a3 < fw_c 9 → sp_has [(0, 0, a0), (0, 0, a3)] σ (fun rv σ2 => G 15 [some (0, 0, a0), some (0, 0, a1), some (0, 0, a2), some (0, 0, a3)] (rv.toList ++ []) σ2))) : G 4 [some (0, 0, a0), some (0, 0, a1), some (0, 0, a2), some (0, 0, a3)] [] σ := fw_on hG [4, 15, 28] 200 h
theorem fs_nthW_15 {G : fw_K} {R : fw_KR} (hG : fw_cls st_nthW R G) {a0 a1 a2 a3 b0 : Int} {σ : ab_SG} (h : (fw_c b0 = 0 → G 28 [some (0, 0, a0), some (0, 0, a1), some (0, 0, a2), some (0, 0, a3)] [] σ) ∧ (fw_c b0 ≠ 0 → (fw_c a2 ≠ fw_c a1 → G 28 [some (0, 0, a0), some (0, 0, a1), some (0, 0, a2 + 1), some (0, 0, a3)] [] σ) ∧ (fw_c a2 = fw_c a1 → R (some (0, 0, a3)) σ))) : G 15 [some (0, 0, a0), some (0, 0, a1), some (0, 0, a2), some (0, 0, a3)] [(0, 0, b0)] σ := fw_on hG [4, 15, 28] 200 h
theorem fs_nthW_28 {G : fw_K} {R : fw_KR} (hG : fw_cls st_nthW R G) {a0 a1 a2 a3 : Int} {σ : ab_SG} (h : G 4 [some (0, 0, a0), some (0, 0, a1), some (0, 0, a2), some (0, 0, a3 + 1)] [] σ) : G 28 [some (0, 0, a0), some (0, 0, a1), some (0, 0, a2), some (0, 0, a3)] [] σ := fw_on hG [4, 15, 28] 200 h
abbrev fk_sdMeas : List fw_CR := [(173, 2, true, 6, 2, sp_measure3), (176, 2, false, 0, 0, sp_icmp)]
abbrev st_sdMeas : fw_K → fw_KR → fw_K := fw_st vwCl nn_sh nn_kd fw_kv fw_wc (nn_KI5.map (fun x => x.1)) (nn_KJ5.map (fun x => x.1)) (nn_PF5.map (fun x => x.1)) (nn_PS5.map (fun x => x.1)) fk_sdMeas 3 nn_dt183 6 1
theorem fs_sdMeas_0 {G : fw_K} {R : fw_KR} (hG : fw_cls st_sdMeas R G) {x k v : Int} {σ : ab_SG} (h : fw_c 3 ≠ 0 ∧ (fw_c 3 ≠ 0 ∧ (sp_measure3 [(2, 3, 0), (0, 0, x), (0, 0, fw_op 3 (k - 6) 3)] σ (fun rv σ2 => G 25 [some (2, 3, 0), some (0, 0, x), some (0, 0, k), some (0, 0, v), some (0, 0, fw_op 3 (k - 6) 3), some (0, 0, (fw_op 4 (k - 6) 3) - 1)] (rv.toList ++ []) σ2)))) : G 0 [some (2, 3, 0), some (0, 0, x), some (0, 0, k), some (0, 0, v), none, none] [] σ := fw_on hG [25, 29] 200 h
theorem fs_sdMeas_25 {G : fw_K} {R : fw_KR} (hG : fw_cls st_sdMeas R G) {a1 a2 a3 a4 a5 b0 : Int} {σ : ab_SG} (h : sp_icmp [(0, 0, b0), (0, 0, a3)] σ (fun rv σ2 => G 29 [some (2, 3, 0), some (0, 0, a1), some (0, 0, a2), some (0, 0, a3), some (0, 0, a4), some (0, 0, a5)] (rv.toList ++ []) σ2)) : G 25 [some (2, 3, 0), some (0, 0, a1), some (0, 0, a2), some (0, 0, a3), some (0, 0, a4), some (0, 0, a5)] [(0, 0, b0)] σ := fw_on hG [25, 29] 200 h
theorem fs_sdMeas_29 {G : fw_K} {R : fw_KR} (hG : fw_cls st_sdMeas R G) {a1 a2 a3 a4 a5 b0 : Int} {σ : ab_SG} (h : (fw_c b0 ≠ fw_c a5 → (0 ≤ fw_c 0 ∧ fw_c 0 ≤ 1) ∧ R (some (0, 0, 0)) σ) ∧ (fw_c b0 = fw_c a5 → (0 ≤ fw_c 1 ∧ fw_c 1 ≤ 1) ∧ R (some (0, 0, 1)) σ)) : G 29 [some (2, 3, 0), some (0, 0, a1), some (0, 0, a2), some (0, 0, a3), some (0, 0, a4), some (0, 0, a5)] [(0, 0, b0)] σ := fw_on hG [25, 29] 200 h
abbrev fk_sdOne : List fw_CR := [(145, 0, true, 6, 0, sp_allTunes3), (157, 1, true, 6, 1, sp_setOf3), (161, 4, true, 6, 2, sp_likes3), (165, 2, true, 6, 1, sp_ninth3), (169, 4, false, 0, 3, sp_sdMeas)]
abbrev st_sdOne : fw_K → fw_KR → fw_K := fw_st vwCl nn_sh nn_kd fw_kv fw_wc (nn_KI5.map (fun x => x.1)) (nn_KJ5.map (fun x => x.1)) (nn_PF5.map (fun x => x.1)) (nn_PS5.map (fun x => x.1)) fk_sdOne 4 nn_dt182 6 0
theorem fs_sdOne_0 {G : fw_K} {R : fw_KR} (hG : fw_cls st_sdOne R G) {k v : Int} {σ : ab_SG} (h : (fw_c k ≠ fw_c 3 → (fw_c k ≠ fw_c 5 → G 33 [some (2, 3, 0), some (0, 0, k), some (0, 0, v), some (0, 0, 0), some (0, 0, 0), none] [] σ) ∧ (fw_c k = fw_c 5 → sp_allTunes3 [(2, 3, 0)] σ (fun rv σ2 => G 24 [some (2, 3, 0), some (0, 0, k), some (0, 0, v), none, none, none] (rv.toList ++ [(0, 0, 0), (0, 0, 3), (0, 0, v), (2, 3, 0)]) σ2))) ∧ (fw_c k = fw_c 3 → sp_setOf3 [(2, 3, 0), (0, 0, v)] σ (fun rv σ2 => G 10 [some (2, 3, 0), some (0, 0, k), some (0, 0, v), none, none, none] (rv.toList ++ []) σ2))) : G 0 [some (2, 3, 0), some (0, 0, k), some (0, 0, v), none, none, none] [] σ := fw_on hG [10, 24, 27, 33, 54, 75, 91] 200 h
theorem fs_sdOne_33 {G : fw_K} {R : fw_KR} (hG : fw_cls st_sdOne R G) {a1 a2 a3 a4 : Int} {o5 : Option ab_AV} {σ : ab_SG} (h : (fw_c (σ 3 11) ≤ fw_c a4 → R (some (0, 0, a3)) σ) ∧ (fw_c a4 < fw_c (σ 3 11) → (fw_c a1 ≠ fw_c 4 → sp_sdMeas [(2, 3, 0), (0, 0, a4), (0, 0, a1), (0, 0, a2)] σ (fun rv σ2 => G 75 [some (2, 3, 0), some (0, 0, a1), some (0, 0, a2), some (0, 0, a3), some (0, 0, a4), o5] (rv.toList ++ []) σ2)) ∧ (fw_c a1 = fw_c 4 → sp_ninth3 [(2, 3, 0), (0, 0, a2), (0, 0, a4)] σ (fun rv σ2 => G 54 [some (2, 3, 0), some (0, 0, a1), some (0, 0, a2), some (0, 0, a3), some (0, 0, a4), o5] (rv.toList ++ []) σ2)))) : G 33 [some (2, 3, 0), some (0, 0, a1), some (0, 0, a2), some (0, 0, a3), some (0, 0, a4), o5] [] σ := fw_on hG [10, 24, 27, 33, 54, 75, 91] 200 h
theorem fs_sdOne_24 {G : fw_K} {R : fw_KR} (hG : fw_cls st_sdOne R G) {b0 b1 b2 b3 : Int} {o1 o2 o3 o4 o5 : Option ab_AV} {σ : ab_SG} (h : sp_likes3 [(2, 3, 0), (0, 0, b3), (0, 0, b2), (0, 0, b1), (0, 0, b0)] σ (fun rv σ2 => G 27 [some (2, 3, 0), o1, o2, o3, o4, o5] (rv.toList ++ []) σ2)) : G 24 [some (2, 3, 0), o1, o2, o3, o4, o5] [(0, 0, b0), (0, 0, b1), (0, 0, b2), (0, 0, b3), (2, 3, 0)] σ := fw_on hG [10, 24, 27, 33, 54, 75, 91] 200 h
theorem fs_sdOne_10 {G : fw_K} {R : fw_KR} (hG : fw_cls st_sdOne R G) {b0 : Int} {o1 o2 o3 o4 o5 : Option ab_AV} {σ : ab_SG} (h : R (some (0, 0, b0)) σ) : G 10 [some (2, 3, 0), o1, o2, o3, o4, o5] [(0, 0, b0)] σ := fw_on hG [10, 24, 27, 33, 54, 75, 91] 200 h
theorem fs_sdOne_75 {G : fw_K} {R : fw_KR} (hG : fw_cls st_sdOne R G) {a1 a2 a3 a4 b0 : Int} {o5 : Option ab_AV} {σ : ab_SG} (h : (fw_c b0 = 0 → G 91 [some (2, 3, 0), some (0, 0, a1), some (0, 0, a2), some (0, 0, a3), some (0, 0, a4), some (0, 0, b0)] [(0, 0, 0), (0, 0, a3)] σ) ∧ (fw_c b0 ≠ 0 → G 91 [some (2, 3, 0), some (0, 0, a1), some (0, 0, a2), some (0, 0, a3), some (0, 0, a4), some (0, 0, b0)] [(0, 0, fw_op 5 1 a4), (0, 0, a3)] σ)) : G 75 [some (2, 3, 0), some (0, 0, a1), some (0, 0, a2), some (0, 0, a3), some (0, 0, a4), o5] [(0, 0, b0)] σ := fw_on hG [10, 24, 27, 33, 54, 75, 91] 200 h
theorem fs_sdOne_54 {G : fw_K} {R : fw_KR} (hG : fw_cls st_sdOne R G) {a1 a2 a3 a4 b0 : Int} {o5 : Option ab_AV} {σ : ab_SG} (h : (fw_c b0 ≠ fw_c 9 → G 75 [some (2, 3, 0), some (0, 0, a1), some (0, 0, a2), some (0, 0, a3), some (0, 0, a4), o5] [(0, 0, 0)] σ) ∧ (fw_c b0 = fw_c 9 → G 75 [some (2, 3, 0), some (0, 0, a1), some (0, 0, a2), some (0, 0, a3), some (0, 0, a4), o5] [(0, 0, 1)] σ)) : G 54 [some (2, 3, 0), some (0, 0, a1), some (0, 0, a2), some (0, 0, a3), some (0, 0, a4), o5] [(0, 0, b0)] σ := fw_on hG [10, 24, 27, 33, 54, 75, 91] 200 h
theorem fs_sdOne_27 {G : fw_K} {R : fw_KR} (hG : fw_cls st_sdOne R G) {b0 : Int} {o1 o2 o3 o4 o5 : Option ab_AV} {σ : ab_SG} (h : R (some (0, 0, b0)) σ) : G 27 [some (2, 3, 0), o1, o2, o3, o4, o5] [(0, 0, b0)] σ := fw_on hG [10, 24, 27, 33, 54, 75, 91] 200 h
theorem fs_sdOne_91 {G : fw_K} {R : fw_KR} (hG : fw_cls st_sdOne R G) {a1 a2 a4 b0 b1 : Int} {o3 o5 : Option ab_AV} {σ : ab_SG} (h : G 33 [some (2, 3, 0), some (0, 0, a1), some (0, 0, a2), some (0, 0, fw_op 9 b1 b0), some (0, 0, a4 + 1), o5] [] σ) : G 91 [some (2, 3, 0), some (0, 0, a1), some (0, 0, a2), o3, some (0, 0, a4), o5] [(0, 0, b0), (0, 0, b1)] σ := fw_on hG [10, 24, 27, 33, 54, 75, 91] 200 h
abbrev fk_holding : List fw_CR := [(141, 3, false, 0, 0, sp_put17), (145, 0, true, 6, 0, sp_allTunes3), (149, 2, false, 0, 0, sp_at17), (153, 3, false, 0, 4, sp_sdOne)]
abbrev st_holding : fw_K → fw_KR → fw_K := fw_st vwCl nn_sh nn_kd fw_kv fw_wc (nn_KI5.map (fun x => x.1)) (nn_KJ5.map (fun x => x.1)) (nn_PF5.map (fun x => x.1)) (nn_PS5.map (fun x => x.1)) fk_holding 5 nn_dt181 7 0
theorem fs_holding_0 {G : fw_K} {R : fw_KR} (hG : fw_cls st_holding R G) {σ : ab_SG} (h : G 4 [some (2, 14, 0), some (2, 3, 0), some (0, 0, 0), some (0, 0, 0), none, none, none] [] σ) : G 0 [some (2, 14, 0), some (2, 3, 0), none, none, none, none, none] [] σ := fw_on hG [4, 42, 52, 58, 73, 83, 95, 126, 129, 149, 152, 155, 161, 169] 200 h
theorem fs_holding_4 {G : fw_K} {R : fw_KR} (hG : fw_cls st_holding R G) {a2 a3 : Int} {o4 o5 o6 : Option ab_AV} {σ : ab_SG} (h : (fw_c (σ 14 3) ≤ fw_c a3 → G 161 [some (2, 14, 0), some (2, 3, 0), some (0, 0, a2), some (0, 0, a3), o4, o5, o6] [] σ) ∧ (fw_c a3 < fw_c (σ 14 3) → (fw_c 64 ≤ fw_c a3 → G 161 [some (2, 14, 0), some (2, 3, 0), some (0, 0, a2), some (0, 0, a3), o4, o5, o6] [] σ) ∧ (fw_c a3 < fw_c 64 → (0 ≤ fw_c a3 ∧ fw_c a3 < ((64 : Nat) : Int)) ∧ ((fw_c (σ 15 (fw_c a3).toNat) ≠ 0 → (fw_c (σ 15 (fw_c a3).toNat) = fw_c 1 → G 73 [some (2, 14, 0), some (2, 3, 0), some (0, 0, a2), some (0, 0, a3), some (0, 0, σ 15 (fw_c a3).toNat), o5, o6] [] σ) ∧ (fw_c (σ 15 (fw_c a3).toNat) ≠ fw_c 1 → (fw_c (σ 15 (fw_c a3).toNat) ≠ fw_c 2 → (0 ≤ fw_c a3 ∧ fw_c a3 < ((64 : Nat) : Int)) ∧ (sp_sdOne [(2, 3, 0), (0, 0, σ 15 (fw_c a3).toNat), (0, 0, σ 16 (fw_c a3).toNat)] σ (fun rv σ2 => G 149 [some (2, 14, 0), some (2, 3, 0), some (0, 0, a2), some (0, 0, a3), some (0, 0, σ 15 (fw_c a3).toNat), o5, o6] (rv.toList ++ [(0, 0, a2), (2, 17, 0)]) σ2))) ∧ (fw_c (σ 15 (fw_c a3).toNat) = fw_c 2 → G 73 [some (2, 14, 0), some (2, 3, 0), some (0, 0, a2), some (0, 0, a3), some (0, 0, σ 15 (fw_c a3).toNat), o5, o6] [] σ))) ∧ (fw_c (σ 15 (fw_c a3).toNat) = 0 → sp_allTunes3 [(2, 3, 0)] σ (fun rv σ2 => G 42 [some (2, 14, 0), some (2, 3, 0), some (0, 0, a2), some (0, 0, a3), some (0, 0, σ 15 (fw_c a3).toNat), o5, o6] (rv.toList ++ [(0, 0, a2 - 1), (2, 17, 0)]) σ2)))))) : G 4 [some (2, 14, 0), some (2, 3, 0), some (0, 0, a2), some (0, 0, a3), o4, o5, o6] [] σ := fw_on hG [4, 42, 52, 58, 73, 83, 95, 126, 129, 149, 152, 155, 161, 169] 200 h
theorem fs_holding_161 {G : fw_K} {R : fw_KR} (hG : fw_cls st_holding R G) {o1 o2 o3 o4 o5 o6 : Option ab_AV} {σ : ab_SG} (h : sp_at17 [(2, 17, 0), (0, 0, 0)] σ (fun rv σ2 => G 169 [some (2, 14, 0), o1, o2, o3, o4, o5, o6] (rv.toList ++ []) σ2)) : G 161 [some (2, 14, 0), o1, o2, o3, o4, o5, o6] [] σ := fw_on hG [4, 42, 52, 58, 73, 83, 95, 126, 129, 149, 152, 155, 161, 169] 200 h
theorem fs_holding_73 {G : fw_K} {R : fw_KR} (hG : fw_cls st_holding R G) {a2 a3 a4 : Int} {o5 o6 : Option ab_AV} {σ : ab_SG} (h : sp_at17 [(2, 17, 0), (0, 0, a2 - 2)] σ (fun rv σ2 => G 83 [some (2, 14, 0), some (2, 3, 0), some (0, 0, a2), some (0, 0, a3), some (0, 0, a4), o5, o6] (rv.toList ++ []) σ2)) : G 73 [some (2, 14, 0), some (2, 3, 0), some (0, 0, a2), some (0, 0, a3), some (0, 0, a4), o5, o6] [] σ := fw_on hG [4, 42, 52, 58, 73, 83, 95, 126, 129, 149, 152, 155, 161, 169] 200 h
theorem fs_holding_149 {G : fw_K} {R : fw_KR} (hG : fw_cls st_holding R G) {a2 a3 b0 b1 : Int} {o4 o5 o6 : Option ab_AV} {σ : ab_SG} (h : sp_put17 [(2, 17, 0), (0, 0, b1), (0, 0, b0)] σ (fun rv σ2 => G 152 [some (2, 14, 0), some (2, 3, 0), some (0, 0, a2), some (0, 0, a3), o4, o5, o6] (rv.toList ++ []) σ2)) : G 149 [some (2, 14, 0), some (2, 3, 0), some (0, 0, a2), some (0, 0, a3), o4, o5, o6] [(0, 0, b0), (0, 0, b1), (2, 17, 0)] σ := fw_on hG [4, 42, 52, 58, 73, 83, 95, 126, 129, 149, 152, 155, 161, 169] 200 h
theorem fs_holding_42 {G : fw_K} {R : fw_KR} (hG : fw_cls st_holding R G) {a2 a3 b0 b1 : Int} {o4 o5 o6 : Option ab_AV} {σ : ab_SG} (h : sp_at17 [(2, 17, 0), (0, 0, a2 - 1)] σ (fun rv σ2 => G 52 [some (2, 14, 0), some (2, 3, 0), some (0, 0, a2), some (0, 0, a3), o4, o5, o6] (rv.toList ++ [(0, 0, b0), (0, 0, b1), (2, 17, 0)]) σ2)) : G 42 [some (2, 14, 0), some (2, 3, 0), some (0, 0, a2), some (0, 0, a3), o4, o5, o6] [(0, 0, b0), (0, 0, b1), (2, 17, 0)] σ := fw_on hG [4, 42, 52, 58, 73, 83, 95, 126, 129, 149, 152, 155, 161, 169] 200 h
theorem fs_holding_169 {G : fw_K} {R : fw_KR} (hG : fw_cls st_holding R G) {b0 : Int} {o1 o2 o3 o4 o5 o6 : Option ab_AV} {σ : ab_SG} (h : R (some (0, 0, b0)) σ) : G 169 [some (2, 14, 0), o1, o2, o3, o4, o5, o6] [(0, 0, b0)] σ := fw_on hG [4, 42, 52, 58, 73, 83, 95, 126, 129, 149, 152, 155, 161, 169] 200 h
theorem fs_holding_83 {G : fw_K} {R : fw_KR} (hG : fw_cls st_holding R G) {a2 a3 a4 b0 : Int} {o5 o6 : Option ab_AV} {σ : ab_SG} (h : sp_at17 [(2, 17, 0), (0, 0, a2 - 1)] σ (fun rv σ2 => G 95 [some (2, 14, 0), some (2, 3, 0), some (0, 0, a2), some (0, 0, a3), some (0, 0, a4), some (0, 0, b0), o6] (rv.toList ++ []) σ2)) : G 83 [some (2, 14, 0), some (2, 3, 0), some (0, 0, a2), some (0, 0, a3), some (0, 0, a4), o5, o6] [(0, 0, b0)] σ := fw_on hG [4, 42, 52, 58, 73, 83, 95, 126, 129, 149, 152, 155, 161, 169] 200 h
theorem fs_holding_152 {G : fw_K} {R : fw_KR} (hG : fw_cls st_holding R G) {a2 a3 : Int} {o4 o5 o6 : Option ab_AV} {σ : ab_SG} (h : G 155 [some (2, 14, 0), some (2, 3, 0), some (0, 0, a2 + 1), some (0, 0, a3), o4, o5, o6] [] σ) : G 152 [some (2, 14, 0), some (2, 3, 0), some (0, 0, a2), some (0, 0, a3), o4, o5, o6] [] σ := fw_on hG [4, 42, 52, 58, 73, 83, 95, 126, 129, 149, 152, 155, 161, 169] 200 h
theorem fs_holding_52 {G : fw_K} {R : fw_KR} (hG : fw_cls st_holding R G) {a2 a3 b0 b1 b2 : Int} {o4 o5 o6 : Option ab_AV} {σ : ab_SG} (h : sp_put17 [(2, 17, 0), (0, 0, b2), (0, 0, fw_op 8 b1 (fw_op 10 b0 (-1)))] σ (fun rv σ2 => G 58 [some (2, 14, 0), some (2, 3, 0), some (0, 0, a2), some (0, 0, a3), o4, o5, o6] (rv.toList ++ []) σ2)) : G 52 [some (2, 14, 0), some (2, 3, 0), some (0, 0, a2), some (0, 0, a3), o4, o5, o6] [(0, 0, b0), (0, 0, b1), (0, 0, b2), (2, 17, 0)] σ := fw_on hG [4, 42, 52, 58, 73, 83, 95, 126, 129, 149, 152, 155, 161, 169] 200 h
theorem fs_holding_95 {G : fw_K} {R : fw_KR} (hG : fw_cls st_holding R G) {a2 a3 a4 a5 b0 : Int} {o6 : Option ab_AV} {σ : ab_SG} (h : (fw_c a4 ≠ fw_c 1 → G 126 [some (2, 14, 0), some (2, 3, 0), some (0, 0, a2 + (-1)), some (0, 0, a3), some (0, 0, a4), some (0, 0, a5), some (0, 0, b0)] [(0, 0, fw_op 9 a5 b0), (0, 0, (a2 + (-1)) - 1), (2, 17, 0)] σ) ∧ (fw_c a4 = fw_c 1 → G 126 [some (2, 14, 0), some (2, 3, 0), some (0, 0, a2 + (-1)), some (0, 0, a3), some (0, 0, a4), some (0, 0, a5), some (0, 0, b0)] [(0, 0, fw_op 8 a5 b0), (0, 0, (a2 + (-1)) - 1), (2, 17, 0)] σ)) : G 95 [some (2, 14, 0), some (2, 3, 0), some (0, 0, a2), some (0, 0, a3), some (0, 0, a4), some (0, 0, a5), o6] [(0, 0, b0)] σ := fw_on hG [4, 42, 52, 58, 73, 83, 95, 126, 129, 149, 152, 155, 161, 169] 200 h
theorem fs_holding_155 {G : fw_K} {R : fw_KR} (hG : fw_cls st_holding R G) {a2 a3 : Int} {o4 o5 o6 : Option ab_AV} {σ : ab_SG} (h : G 4 [some (2, 14, 0), some (2, 3, 0), some (0, 0, a2), some (0, 0, a3 + 1), o4, o5, o6] [] σ) : G 155 [some (2, 14, 0), some (2, 3, 0), some (0, 0, a2), some (0, 0, a3), o4, o5, o6] [] σ := fw_on hG [4, 42, 52, 58, 73, 83, 95, 126, 129, 149, 152, 155, 161, 169] 200 h
theorem fs_holding_58 {G : fw_K} {R : fw_KR} (hG : fw_cls st_holding R G) {a2 a3 : Int} {o4 o5 o6 : Option ab_AV} {σ : ab_SG} (h : G 155 [some (2, 14, 0), some (2, 3, 0), some (0, 0, a2), some (0, 0, a3), o4, o5, o6] [] σ) : G 58 [some (2, 14, 0), some (2, 3, 0), some (0, 0, a2), some (0, 0, a3), o4, o5, o6] [] σ := fw_on hG [4, 42, 52, 58, 73, 83, 95, 126, 129, 149, 152, 155, 161, 169] 200 h
theorem fs_holding_126 {G : fw_K} {R : fw_KR} (hG : fw_cls st_holding R G) {a2 a3 b0 b1 : Int} {o4 o5 o6 : Option ab_AV} {σ : ab_SG} (h : sp_put17 [(2, 17, 0), (0, 0, b1), (0, 0, b0)] σ (fun rv σ2 => G 129 [some (2, 14, 0), some (2, 3, 0), some (0, 0, a2), some (0, 0, a3), o4, o5, o6] (rv.toList ++ []) σ2)) : G 126 [some (2, 14, 0), some (2, 3, 0), some (0, 0, a2), some (0, 0, a3), o4, o5, o6] [(0, 0, b0), (0, 0, b1), (2, 17, 0)] σ := fw_on hG [4, 42, 52, 58, 73, 83, 95, 126, 129, 149, 152, 155, 161, 169] 200 h
theorem fs_holding_129 {G : fw_K} {R : fw_KR} (hG : fw_cls st_holding R G) {a2 a3 : Int} {o4 o5 o6 : Option ab_AV} {σ : ab_SG} (h : G 155 [some (2, 14, 0), some (2, 3, 0), some (0, 0, a2), some (0, 0, a3), o4, o5, o6] [] σ) : G 129 [some (2, 14, 0), some (2, 3, 0), some (0, 0, a2), some (0, 0, a3), o4, o5, o6] [] σ := fw_on hG [4, 42, 52, 58, 73, 83, 95, 126, 129, 149, 152, 155, 161, 169] 200 h
abbrev fk_said : List fw_CR := [(324, 1, false, 0, 0, sp_bitc9), (443, 1, true, 5, 5, sp_holding), (446, 2, false, 0, 1, sp_nthW)]
abbrev st_said : fw_K → fw_KR → fw_K := fw_st vwCl nn_sh nn_kd fw_kv fw_wc (nn_KI1.map (fun x => x.1)) (nn_KJ1.map (fun x => x.1)) (nn_PF1.map (fun x => x.1)) (nn_PS1.map (fun x => x.1)) fk_said 6 nn_dt180 3 0
theorem fs_said_0 {G : fw_K} {R : fw_KR} (hG : fw_cls st_said R G) {k : Int} {σ : ab_SG} (h : (fw_c (σ 14 4) < fw_c 1 → R (some (0, 0, (-1))) σ) ∧ (fw_c 1 ≤ fw_c (σ 14 4) → (fw_c (-1) ≤ fw_c k → sp_holding [(2, 14, 0), (2, 3, 0)] σ (fun rv σ2 => G 35 [some (2, 0, 0), some (0, 0, k), none] (rv.toList ++ []) σ2)) ∧ (fw_c k < fw_c (-1) → R (some (0, 0, (-1))) σ))) : G 0 [some (2, 0, 0), some (0, 0, k), none] [] σ := fw_on hG [35, 45, 53] 200 h
theorem fs_said_35 {G : fw_K} {R : fw_KR} (hG : fw_cls st_said R G) {a1 b0 : Int} {o2 : Option ab_AV} {σ : ab_SG} (h : (fw_c a1 ≠ fw_c (-1) → sp_nthW [(0, 0, b0), (0, 0, a1)] σ (fun rv σ2 => G 53 [some (2, 0, 0), some (0, 0, a1), some (0, 0, b0)] (rv.toList ++ []) σ2)) ∧ (fw_c a1 = fw_c (-1) → sp_bitc9 [(0, 0, b0)] σ (fun rv σ2 => G 45 [some (2, 0, 0), some (0, 0, a1), some (0, 0, b0)] (rv.toList ++ []) σ2))) : G 35 [some (2, 0, 0), some (0, 0, a1), o2] [(0, 0, b0)] σ := fw_on hG [35, 45, 53] 200 h
theorem fs_said_53 {G : fw_K} {R : fw_KR} (hG : fw_cls st_said R G) {b0 : Int} {o1 o2 : Option ab_AV} {σ : ab_SG} (h : R (some (0, 0, b0)) σ) : G 53 [some (2, 0, 0), o1, o2] [(0, 0, b0)] σ := fw_on hG [35, 45, 53] 200 h
theorem fs_said_45 {G : fw_K} {R : fw_KR} (hG : fw_cls st_said R G) {b0 : Int} {o1 o2 : Option ab_AV} {σ : ab_SG} (h : G 53 [some (2, 0, 0), o1, o2] [(0, 0, b0)] σ) : G 45 [some (2, 0, 0), o1, o2] [(0, 0, b0)] σ := fw_on hG [35, 45, 53] 200 h
section
variable {l : Launch} {cy : Nat → ClassId} {ad wr cr : Nat → Nat} {D : va_G}
theorem fm_at17 (hinj : nn_inj ad) : fw_H l cy ad wr cr D 29 0 (at_k 17 64) := fw_mk hinj (⟨"NameNotes", "at", "([II)I"⟩, prog_1_method_84_code, 2, (Option.some Jvm.ClassFile.FieldType.int), 2, false, 0) rfl rfl nn_KI1_ok nn_KJ1_ok nn_PF1_ok nn_PS1_ok (by decide +kernel) rfl rfl (fun _ h => absurd h List.not_mem_nil) (fun as σ K h => by
  obtain ⟨x, rfl, h1, h2⟩ := h
  exact ⟨rfl, fun G hG => at_gen (k := 17) (n := 64) (K := K) (σ := σ) (x := x) (by decide) (fs_at17_0 hG) h1 h2⟩)
theorem fm_put17 (hinj : nn_inj ad) : fw_H l cy ad wr cr D 27 0 (put_k 17 64) := fw_mk hinj (⟨"NameNotes", "put", "([III)V"⟩, prog_1_method_86_code, 3, (Option.none : Option Jvm.ClassFile.FieldType), 3, false, 4) rfl rfl nn_KI1_ok nn_KJ1_ok nn_PF1_ok nn_PS1_ok (by decide +kernel) rfl rfl (fun _ h => absurd h List.not_mem_nil) (fun as σ K h => by
  obtain ⟨x, v, rfl, h1, h2⟩ := h
  exact ⟨rfl, fun G hG => put_gen (k := 17) (n := 64) (K := K) (σ := σ) (x := x) (c := fw_c v) (by decide) (fs_put17_0 hG) h1 h2⟩)
theorem fm_nthW (hinj : nn_inj ad) : fw_H l cy ad wr cr D 164 1 sp_nthW := fw_mk hinj (⟨"NameNotes", "nth", "(II)I"⟩, prog_1_method_83_code, 4, (Option.some Jvm.ClassFile.FieldType.int), 2, false, 0) rfl rfl nn_KI1_ok nn_KJ1_ok nn_PF1_ok nn_PS1_ok (by decide +kernel) rfl rfl (List.forall_mem_cons.mpr ⟨fw_row nn_PM1_ok (x := 197) (k := 0) (mn := 34) (np := 2) (ob := false) (ci := 0) (⟨"NameNotes", "has", "(II)Z"⟩, prog_1_method_80_code, 2, (Option.some Jvm.ClassFile.FieldType.boolean), 2, false, 1) rfl (by decide +kernel) rfl rfl (by decide) (fun q => by cases q) (fm_has hinj), (fun _ h => absurd h List.not_mem_nil)⟩) (fun as σ K h => by
  obtain ⟨s, k, rfl, ck, h⟩ := h
  have c9 : fw_c 9 = 9 := fw_s (by decide) (by decide)
  refine ⟨rfl, fun G hG => fs_nthW_0 hG ?_⟩
  have loop : ∀ (f x : Nat) (a : Int), x + f = 9 → (0 ≤ a ∧ a ≤ (x : Int)) → sx_f s k f x a = sx s k → G 4 [some (0, 0, s), some (0, 0, k), some (0, 0, a), some (0, 0, (x : Int))] [] σ := by
    intro f
    induction f with
    | zero =>
      intro x a hx ha e
      have ex : x = 9 := by omega
      subst ex
      refine fs_nthW_4 hG ⟨fun _ => ?_, fun z => absurd z (by rw [c9, show fw_c ((9 : Nat) : Int) = 9 from c9]; decide)⟩
      rw [← e] at h
      exact h
    | succ f ih =>
      intro x a hx ha e
      have cx : fw_c (x : Int) = (x : Int) := fw_s (by omega) (by omega)
      have ca : fw_c a = a := fw_s (by omega) (by omega)
      rw [sx_s] at e
      refine fs_nthW_4 hG ⟨fun z => absurd z (by rw [c9, cx]; omega), fun _ => ⟨s, _, rfl, by rw [cx]; omega, fs_nthW_15 hG ⟨fun z => ?_, fun z => ?_⟩⟩⟩
      · have c : ¬ pr_hs s (x : Int) = true := fun y => fw_bo_eq z (hs_t y)
        rw [if_neg c] at e
        have g := ih (x + 1) a (by omega) (by omega) e
        exact fs_nthW_28 hG g
      · have c : pr_hs s (x : Int) = true := hs_of (fw_bo_ne z)
        rw [if_pos c] at e
        rw [ca, ck]
        refine ⟨fun y => ?_, fun y => ?_⟩
        · rw [if_neg y] at e
          have g := ih (x + 1) (a + 1) (by omega) (by omega) e
          exact fs_nthW_28 hG g
        · rw [if_pos y] at e
          rw [← e] at h
          exact h
  exact loop 9 0 0 rfl (by decide) rfl)
theorem fm_sdMeas (hinj : nn_inj ad) : fw_H l cy ad wr cr D 183 3 sp_sdMeas := fw_mk hinj (⟨"NameNotes$Sentence", "holdsMeasure", "(LNameNotes$Studio;III)Z"⟩, prog_7_method_13_code, 6, (Option.some Jvm.ClassFile.FieldType.boolean), 4, false, 1) rfl rfl nn_KI5_ok nn_KJ5_ok nn_PF5_ok nn_PS5_ok (by decide +kernel) rfl rfl (List.forall_mem_cons.mpr ⟨fw_row nn_PM5_ok (x := 173) (k := 0) (mn := 58) (np := 2) (ob := true) (ci := 6) (⟨"NameNotes$Studio", "measure", "(II)I"⟩, prog_8_method_15_code, 8, (Option.some Jvm.ClassFile.FieldType.int), 2, true, 0) rfl (by decide +kernel) rfl rfl (by decide) (fun _ => ⟨_, _, rfl⟩) (fm_measure3 hinj), (List.forall_mem_cons.mpr ⟨fw_row nn_PM5_ok (x := 176) (k := 0) (mn := 148) (np := 2) (ob := false) (ci := 0) (⟨"java/lang/Integer", "compare", "(II)I"⟩, prog_20_method_40_code, 2, (Option.some Jvm.ClassFile.FieldType.int), 2, false, 0) rfl (by decide +kernel) rfl rfl (by decide) (fun q => by cases q) (fm_icmp hinj), (fun _ h => absurd h List.not_mem_nil)⟩)⟩) (fun as σ K h => by
  obtain ⟨A, x, k, v, rfl, hN, hx, hk, cv, h⟩ := h
  obtain ⟨j, ej⟩ := Int.eq_ofNat_of_zero_le (show 0 ≤ k - 6 by omega)
  have dm := sd_dm j (by omega)
  have c3 : fw_c 3 ≠ 0 := by rw [fw_s (x := 3) (by decide) (by decide)]; decide
  have mb := v_meas_b hN.1 hN.2.1 hx ((k - 6) / 3)
  have cm : fw_c (v_meas A x ((k - 6) / 3)) = v_meas A x ((k - 6) / 3) := fw_s (by omega) (by omega)
  have e0 : ob A x (k, v) = if (k - 6) % 3 = 0 then decide (v_meas A x ((k - 6) / 3) < v) else if (k - 6) % 3 = 1 then decide (v_meas A x ((k - 6) / 3) = v) else decide (v < v_meas A x ((k - 6) / 3)) := by
    unfold ob
    rw [if_neg (show ¬ k = 3 by omega), if_neg (show ¬ k = 4 by omega), if_neg (show ¬ k = 5 by omega)]
  refine ⟨rfl, fun G hG => fs_sdMeas_0 hG ⟨c3, c3, ?_⟩⟩
  rw [ej, dm.1, dm.2, ← ej]
  refine ⟨A, x, (k - 6) / 3, rfl, hN, hx, ⟨by omega, by omega⟩, fs_sdMeas_25 hG ⟨_, v, rfl, ⟨cm, cv⟩, fs_sdMeas_29 hG ?_⟩⟩
  have cw : fw_c ((k - 6) % 3 - 1) = (k - 6) % 3 - 1 := fw_s (by omega) (by omega)
  have cr : fw_c (if v_meas A x ((k - 6) / 3) < v then -1 else if v_meas A x ((k - 6) / 3) = v then 0 else 1) = (if v_meas A x ((k - 6) / 3) < v then -1 else if v_meas A x ((k - 6) / 3) = v then 0 else 1) := by
    split
    · exact fw_s (by decide) (by decide)
    · split
      · exact fw_s (by decide) (by decide)
      · exact fw_s (by decide) (by decide)
  rw [cr, cw]
  have key : (ob A x (k, v) = true) ↔ (if v_meas A x ((k - 6) / 3) < v then (-1 : Int) else if v_meas A x ((k - 6) / 3) = v then 0 else 1) = (k - 6) % 3 - 1 := by
    rw [e0]
    rcases (show (k - 6) % 3 = 0 ∨ (k - 6) % 3 = 1 ∨ (k - 6) % 3 = 2 by omega) with q | q | q
    · rw [if_pos q, q, decide_eq_true_iff]
      split
      · rename_i c
        exact ⟨fun _ => rfl, fun _ => c⟩
      · rename_i c
        refine ⟨fun z => absurd z c, fun z => ?_⟩
        split at z <;> omega
    · rw [if_neg (by omega), if_pos q, q, decide_eq_true_iff]
      split
      · rename_i c
        exact ⟨fun z => by omega, fun z => by omega⟩
      · split
        · rename_i c
          exact ⟨fun _ => rfl, fun _ => c⟩
        · rename_i c
          exact ⟨fun z => absurd z c, fun z => by omega⟩
    · rw [if_neg (by omega), if_neg (by omega), q, decide_eq_true_iff]
      split
      · rename_i c
        exact ⟨fun z => by omega, fun z => by omega⟩
      · split
        · rename_i c
          exact ⟨fun z => by omega, fun z => by omega⟩
        · rename_i c d
          exact ⟨fun _ => rfl, fun _ => by omega⟩
  refine ⟨fun z => ⟨fw_01, ?_⟩, fun z => ⟨fw_11, ?_⟩⟩
  · rw [fw_bo_f (fun y => z (key.mp y))] at h
    exact h
  · rw [fw_bo_t (key.mpr z)] at h
    exact h)
theorem fm_sdOne (hinj : nn_inj ad) : fw_H l cy ad wr cr D 182 4 sp_sdOne := fw_mk hinj (⟨"NameNotes$Sentence", "oneSet", "(LNameNotes$Studio;II)I"⟩, prog_7_method_12_code, 6, (Option.some Jvm.ClassFile.FieldType.int), 3, false, 0) rfl rfl nn_KI5_ok nn_KJ5_ok nn_PF5_ok nn_PS5_ok (by decide +kernel) rfl rfl (List.forall_mem_cons.mpr ⟨fw_row nn_PM5_ok (x := 145) (k := 0) (mn := 65) (np := 0) (ob := true) (ci := 6) (⟨"NameNotes$Studio", "allTunes", "()I"⟩, prog_8_method_9_code, 1, (Option.some Jvm.ClassFile.FieldType.int), 0, true, 0) rfl (by decide +kernel) rfl rfl (by decide) (fun _ => ⟨_, _, rfl⟩) (fm_allTunes3 hinj), (List.forall_mem_cons.mpr ⟨fw_row nn_PM5_ok (x := 157) (k := 0) (mn := 64) (np := 1) (ob := true) (ci := 6) (⟨"NameNotes$Studio", "setOf", "(I)I"⟩, prog_8_method_8_code, 2, (Option.some Jvm.ClassFile.FieldType.int), 1, true, 0) rfl (by decide +kernel) rfl rfl (by decide) (fun _ => ⟨_, _, rfl⟩) (fm_setOf3 hinj), (List.forall_mem_cons.mpr ⟨fw_row nn_PM5_ok (x := 161) (k := 0) (mn := 74) (np := 4) (ob := true) (ci := 6) (⟨"NameNotes$Studio", "likes", "(IIII)I"⟩, prog_8_method_23_code, 7, (Option.some Jvm.ClassFile.FieldType.int), 4, true, 0) rfl (by decide +kernel) rfl rfl (by decide) (fun _ => ⟨_, _, rfl⟩) (fm_likes3 hinj), (List.forall_mem_cons.mpr ⟨fw_row nn_PM5_ok (x := 165) (k := 0) (mn := 68) (np := 2) (ob := true) (ci := 6) (⟨"NameNotes$Studio", "ninth", "(II)I"⟩, prog_8_method_13_code, 3, (Option.some Jvm.ClassFile.FieldType.int), 2, true, 0) rfl (by decide +kernel) rfl rfl (by decide) (fun _ => ⟨_, _, rfl⟩) (fm_ninth3 hinj), (List.forall_mem_cons.mpr ⟨fw_row nn_PM5_ok (x := 169) (k := 0) (mn := 183) (np := 4) (ob := false) (ci := 0) (⟨"NameNotes$Sentence", "holdsMeasure", "(LNameNotes$Studio;III)Z"⟩, prog_7_method_13_code, 6, (Option.some Jvm.ClassFile.FieldType.boolean), 4, false, 1) rfl (by decide +kernel) rfl rfl (by decide) (fun q => by cases q) (fm_sdMeas hinj), (fun _ h => absurd h List.not_mem_nil)⟩)⟩)⟩)⟩)⟩) (fun as σ K h => by
  obtain ⟨A, k, v, rfl, hN, hv, k3, h⟩ := h
  have hi := hN.1
  have nn := N_n hi
  obtain ⟨T, eT⟩ := Int.eq_ofNat_of_zero_le nn.1.1
  have eTn : (A 49 11).toNat = T := by omega
  have T9 : T ≤ 9 := by omega
  rw [eTn] at h
  have vc := vs_c nn hv
  have ck : fw_c k = k := vc.1
  have c3 : fw_c 3 = 3 := fw_s (by decide) (by decide)
  have c4 : fw_c 4 = 4 := fw_s (by decide) (by decide)
  have c5 : fw_c 5 = 5 := fw_s (by decide) (by decide)
  have c9 : fw_c 9 = 9 := fw_s (by decide) (by decide)
  have e11 : fw_c (σ 3 11) = (T : Int) := by rw [(NC_n hN).1, eT]; exact fw_s (by omega) (by omega)
  refine ⟨rfl, fun G hG => fs_sdOne_0 hG ?_⟩
  rw [ck, c3, c5]
  -- what is found tune by tune
  have loop : (k = 4 ∨ (6 ≤ k ∧ k ≤ 17)) → ∀ (f x : Nat) (s : Int) (o5 : Option ab_AV), x + f = T → (0 ≤ s ∧ s < 512) → (∀ z : Nat, z < 9 → pr_hs s (z : Int) = (decide (z < x) && ob A z (k, v))) → G 33 [some (2, 3, 0), some (0, 0, k), some (0, 0, v), some (0, 0, s), some (0, 0, (x : Int)), o5] [] σ := by
    intro hk f
    induction f with
    | zero =>
      intro x s o5 hx hs hb
      have ex : x = T := by omega
      subst ex
      refine fs_sdOne_33 hG ⟨fun _ => h s hs hb, fun z => absurd z ?_⟩
      rw [e11, fw_s (x := (x : Int)) (by omega) (by omega)]
      exact Int.lt_irrefl _
    | succ f ih =>
      intro x s o5 hx hs hb
      have cx : fw_c (x : Int) = (x : Int) := fw_s (by omega) (by omega)
      obtain ⟨u, rfl⟩ := Int.eq_ofNat_of_zero_le hs.1
      have nx : ∀ (b : Bool) (b0 : Int) (o : Option ab_AV), ob A x (k, v) = b → b0 = fw_bo (b = true) → G 75 [some (2, 3, 0), some (0, 0, k), some (0, 0, v), some (0, 0, (u : Int)), some (0, 0, (x : Int)), o] [(0, 0, b0)] σ := by
        intro b b0 o eb e0
        refine fs_sdOne_75 hG ⟨fun z => fs_sdOne_91 hG ?_, fun z => fs_sdOne_91 hG ?_⟩
        · have bf : ¬ b = true := by
            intro y
            rw [e0, fw_bo_t y, fw_c1] at z
            exact absurd z (by decide)
          have g := ih (x + 1) (fw_op 9 (u : Int) 0) (some (0, 0, b0)) (by omega) (by rw [sd_o0 u (by omega)]; exact hs) (fun z hz => by
            rw [sd_o0 u (by omega), hb z hz]
            by_cases w : z < x
            · rw [decide_eq_true w, decide_eq_true (show z < x + 1 by omega)]
            · rw [decide_eq_false w, Bool.false_and]
              by_cases y : z = x
              · rw [y, eb, Bool.eq_false_iff.mpr bf, Bool.and_false]
              · rw [decide_eq_false (show ¬ z < x + 1 by omega), Bool.false_and])
          exact g
        · have bt : b = true := by
            cases b with
            | true => rfl
            | false =>
              rw [e0, fw_bo_f (by decide), fw_c0] at z
              exact absurd rfl z
          have ob9 := hs_ob hs.1 hs.2 (y := x) (by omega)
          have g := ih (x + 1) (fw_op 9 (u : Int) (fw_op 5 1 (x : Int))) (some (0, 0, b0)) (by omega) ob9 (fun z hz => by
            rw [hs_or hs.1 hs.2 (by omega) hz, hb z hz]
            by_cases y : z = x
            · rw [y, eb, bt, Nat.beq_refl, Bool.or_true, decide_eq_true (show x < x + 1 by omega)]
              rfl
            · have nb : z.beq x = false := by
                cases q : z.beq x with
                | false => rfl
                | true => exact absurd (Nat.eq_of_beq_eq_true q) y
              rw [nb, Bool.or_false]
              by_cases w : z < x
              · rw [decide_eq_true w, decide_eq_true (show z < x + 1 by omega)]
              · rw [decide_eq_false w, decide_eq_false (show ¬ z < x + 1 by omega)])
          exact g
      refine fs_sdOne_33 hG ⟨fun z => absurd z (by rw [e11, cx]; omega), fun _ => ?_⟩
      rw [ck, c4]
      refine ⟨fun z => ?_, fun z => ?_⟩
      · refine ⟨A, x, k, v, rfl, hN, by omega, hk.resolve_left z, vc.2, ?_⟩
        exact nx (ob A x (k, v)) _ _ rfl rfl
      · subst z
        obtain ⟨p, ep⟩ : ∃ p : Nat, v = (p : Int) ∧ (p : Int) < A 49 13 := by
          rcases hv with ⟨a, -⟩ | ⟨a, -⟩ | ⟨-, a, b⟩ | ⟨a, -⟩ | ⟨a, -⟩
          · replace a : 0 ≤ (4 : Int) ∧ (4 : Int) ≤ 2 := a
            omega
          · exact absurd a (by simp)
          · exact ⟨v.toNat, by replace a : 0 ≤ v := a; omega, by replace a : 0 ≤ v := a; replace b : v < A 49 13 := b; omega⟩
          · exact absurd a (by simp)
          · replace a : 6 ≤ (4 : Int) ∧ (4 : Int) ≤ 17 := a
            omega
        obtain ⟨ev, hp⟩ := ep
        subst ev
        have j45 : 9 * p + x < 45 := by omega
        have kb := oz_kn_b hN j45
        refine ⟨p, x, rfl, by omega, by omega, fs_sdOne_54 hG ?_⟩
        rw [oz_kn hN j45, c9, fw_s (x := A 55 (9 * p + x)) (by omega) (by omega)]
        have eo : ob A x (4, (p : Int)) = decide (A 55 (9 * p + x) = 9) := by
          unfold ob
          rw [if_neg (show ¬ (4 : Int) = 3 by decide), if_pos (show (4 : Int) = 4 from rfl)]
          show decide (A 55 (9 * (p : Int).toNat + x) = 9) = _
          rw [Int.toNat_natCast]
        refine ⟨fun z => nx false 0 _ ?_ (fw_bo_f (by decide)).symm, fun z => nx true 1 _ ?_ (fw_bo_t rfl).symm⟩
        · rw [eo]
          exact decide_eq_false z
        · rw [eo]
          exact decide_eq_true z
  refine ⟨fun z => ⟨fun z2 => ?_, fun z2 => ?_⟩, fun z => ?_⟩
  · have hk : k = 4 ∨ (6 ≤ k ∧ k ≤ 17) := by
      rcases hv with ⟨a, -⟩ | ⟨a, -⟩ | ⟨a, -⟩ | ⟨a, -⟩ | ⟨a, -⟩
      · replace a : 0 ≤ k ∧ k ≤ 2 := a
        omega
      · exact absurd a z
      · exact Or.inl a
      · exact absurd a z2
      · exact Or.inr a
    exact loop hk T 0 0 _ (by omega) (by decide) (fun z hz => by rw [hs_0 z hz, decide_eq_false (Nat.not_lt_zero z), Bool.false_and])
  · subst z2
    obtain ⟨p, ep⟩ : ∃ p : Nat, v = (p : Int) ∧ (p : Int) < A 49 11 := by
      rcases hv with ⟨a, -⟩ | ⟨a, -⟩ | ⟨a, -⟩ | ⟨-, a, b⟩ | ⟨a, -⟩
      · replace a : 0 ≤ (5 : Int) ∧ (5 : Int) ≤ 2 := a
        omega
      · exact absurd a (by simp)
      · exact absurd a (by simp)
      · exact ⟨v.toNat, by replace a : 0 ≤ v := a; omega, by replace a : 0 ≤ v := a; replace b : v < A 49 11 := b; omega⟩
      · replace a : 6 ≤ (5 : Int) ∧ (5 : Int) ≤ 17 := a
        omega
    obtain ⟨ev, hp⟩ := ep
    subst ev
    have al := sd_all T (by omega)
    rw [← eT] at al
    have lb := v_lk_b A (p : Int) 3 0 (p2_n (A 49 11) - 1) T T9
    refine ⟨A, rfl, hN, fs_sdOne_24 hG ⟨A, p, 3, 0, _, rfl, hN, hp, by decide, by decide, fs_sdOne_27 hG ?_⟩⟩
    rw [eTn]
    refine h _ lb (fun z hz => sd_iff ?_)
    have lh := v_lk_h A (p : Int) 3 0 (p2_n (A 49 11) - 1) hz T T9
    have eo : ob A z (5, (p : Int)) = decide (3 ≤ pr_cs A (p : Int) (z : Int) 0 9 0) := by
      unfold ob
      rw [if_neg (show ¬ (5 : Int) = 3 by decide), if_neg (show ¬ (5 : Int) = 4 by decide), if_pos (show (5 : Int) = 5 from rfl)]
    rw [eo, Bool.and_eq_true, decide_eq_true_iff, decide_eq_true_iff]
    refine ⟨fun y => ?_, fun y => lh.mpr ⟨y.1, ?_, y.2⟩⟩
    · have y3 := lh.mp y
      exact ⟨y3.1, y3.2.2⟩
    · rw [al.2 z hz]
      exact decide_eq_true y.1
  · subst z
    have hc : 0 ≤ v ∧ v < A 49 12 := by
      rcases hv with ⟨a, -⟩ | ⟨-, a, b⟩ | ⟨a, -⟩ | ⟨a, -⟩ | ⟨a, -⟩
      · replace a : 0 ≤ (3 : Int) ∧ (3 : Int) ≤ 2 := a
        omega
      · exact ⟨a, b⟩
      · exact absurd a (by simp)
      · exact absurd a (by simp)
      · replace a : 6 ≤ (3 : Int) ∧ (3 : Int) ≤ 17 := a
        omega
    refine ⟨A, v, rfl, hN, ⟨by omega, hc.2⟩, fs_sdOne_10 hG (h _ (v_set_512 hi hN.2.1 (by omega) hc.2) (fun z hz => ?_))⟩
    have eo : ob A z (3, v) = pr_hs (v_set A v) (z : Int) := if_pos rfl
    rw [eo]
    by_cases y : z < T
    · rw [decide_eq_true y, Bool.true_and]
    · rw [decide_eq_false y, Bool.false_and]
      cases q : pr_hs (v_set A v) (z : Int) with
      | false => rfl
      | true =>
        have := v_set_top hi hN.2.1 (by omega) hc.2 hz q
        omega)
theorem fm_holding (hinj : nn_inj ad) : fw_H l cy ad wr cr D 181 5 sp_holding := fw_mk hinj (⟨"NameNotes$Sentence", "holding", "(LNameNotes$Studio;)I"⟩, prog_7_method_11_code, 7, (Option.some Jvm.ClassFile.FieldType.int), 1, true, 0) rfl rfl nn_KI5_ok nn_KJ5_ok nn_PF5_ok nn_PS5_ok (by decide +kernel) rfl rfl (List.forall_mem_cons.mpr ⟨fw_row nn_PM5_ok (x := 141) (k := 2) (mn := 27) (np := 3) (ob := false) (ci := 0) (⟨"NameNotes", "put", "([III)V"⟩, prog_1_method_86_code, 3, (Option.none : Option Jvm.ClassFile.FieldType), 3, false, 4) rfl (by decide +kernel) rfl rfl (by decide) (fun q => by cases q) (fm_put17 hinj), (List.forall_mem_cons.mpr ⟨fw_row nn_PM5_ok (x := 145) (k := 0) (mn := 65) (np := 0) (ob := true) (ci := 6) (⟨"NameNotes$Studio", "allTunes", "()I"⟩, prog_8_method_9_code, 1, (Option.some Jvm.ClassFile.FieldType.int), 0, true, 0) rfl (by decide +kernel) rfl rfl (by decide) (fun _ => ⟨_, _, rfl⟩) (fm_allTunes3 hinj), (List.forall_mem_cons.mpr ⟨fw_row nn_PM5_ok (x := 149) (k := 2) (mn := 29) (np := 2) (ob := false) (ci := 0) (⟨"NameNotes", "at", "([II)I"⟩, prog_1_method_84_code, 2, (Option.some Jvm.ClassFile.FieldType.int), 2, false, 0) rfl (by decide +kernel) rfl rfl (by decide) (fun q => by cases q) (fm_at17 hinj), (List.forall_mem_cons.mpr ⟨fw_row nn_PM5_ok (x := 153) (k := 0) (mn := 182) (np := 3) (ob := false) (ci := 0) (⟨"NameNotes$Sentence", "oneSet", "(LNameNotes$Studio;II)I"⟩, prog_7_method_12_code, 6, (Option.some Jvm.ClassFile.FieldType.int), 3, false, 0) rfl (by decide +kernel) rfl rfl (by decide) (fun q => by cases q) (fm_sdOne hinj), (fun _ h => absurd h List.not_mem_nil)⟩)⟩)⟩)⟩) (fun as σ K h => by
  obtain ⟨A, N, t, L, rfl, hN, ⟨h3, hl⟩, hr, hv, hR, h⟩ := h
  have hi := hN.1
  have nn := N_n hi
  obtain ⟨T, eT⟩ := Int.eq_ofNat_of_zero_le nn.1.1
  have eTn : (A 49 11).toNat = T := by omega
  have T9 : T ≤ 9 := by omega
  rw [eTn] at h
  have al := sd_all T (by omega)
  rw [← eT] at al
  have c1 : fw_c 1 = 1 := fw_c1
  have c2 : fw_c 2 = 2 := fw_s (by decide) (by decide)
  have c64 : fw_c 64 = 64 := fw_s (by decide) (by decide)
  have i64 : ∀ (x : Int) (m : Nat), x = (m : Int) → m < 64 → fw_c x = (m : Int) ∧ (0 ≤ fw_c x ∧ fw_c x < ((64 : Nat) : Int)) ∧ (fw_c x).toNat = m := fun x m e hm => by
    have c : fw_c x = (m : Int) := by rw [e]; exact fw_s (by omega) (by omega)
    rw [c]
    exact ⟨rfl, ⟨by omega, by omega⟩, Int.toNat_natCast m⟩
  refine ⟨rfl, fun G hG => fs_holding_0 hG ?_⟩
  have stp : ∀ (m : Nat) (q : Int × Int), L[m]? = some q → (σ 15 m = q.1 ∧ σ 16 m = q.2) ∧ m < L.length := fun m q e => by
    obtain ⟨hm, -⟩ := List.getElem?_eq_some_iff.mp e
    have y := hr m hm
    rw [e] at y
    have y2 := Option.some.inj y
    rw [y2]
    exact ⟨⟨rfl, rfl⟩, hm⟩
  have NN : ∀ τ : ab_SG, ab_okM [(17, 1000000)] σ τ → NC τ A := fun τ M => ev_NC M (by decide +kernel) hN
  -- one step's beginning
  have head : ∀ (τ : ab_SG) (m : Nat) (k v a b : Int) (o4 o5 o6 : Option ab_AV), ab_okM [(17, 1000000)] σ τ → L[m]? = some (k, v) → b = (m : Int) →
      (k = 0 → sp_allTunes3 [(2, 3, 0)] τ (fun rv σ2 => G 42 [some (2, 14, 0), some (2, 3, 0), some (0, 0, a), some (0, 0, b), some (0, 0, k), o5, o6] (rv.toList ++ [(0, 0, a - 1), (2, 17, 0)]) σ2)) →
      (k = 1 ∨ k = 2 → G 73 [some (2, 14, 0), some (2, 3, 0), some (0, 0, a), some (0, 0, b), some (0, 0, k), o5, o6] [] τ) →
      (3 ≤ k → sp_sdOne [(2, 3, 0), (0, 0, k), (0, 0, v)] τ (fun rv σ2 => G 149 [some (2, 14, 0), some (2, 3, 0), some (0, 0, a), some (0, 0, b), some (0, 0, k), o5, o6] (rv.toList ++ [(0, 0, a), (2, 17, 0)]) σ2)) → G 4 [some (2, 14, 0), some (2, 3, 0), some (0, 0, a), some (0, 0, b), o4, o5, o6] [] τ := by
    intro τ m k v a b o4 o5 o6 M e eb g0 g12 g3
    obtain ⟨⟨f1, f2⟩, hm⟩ := stp m (k, v) e
    have w1 : τ 15 m = k := (mk_row M (k := 15) (by decide) m).trans f1
    have w2 : τ 16 m = v := (mk_row M (k := 16) (by decide) m).trans f2
    have e14 : fw_c (τ 14 3) = (L.length : Int) := by rw [mk_row M (k := 14) (by decide) 3, h3]; exact fw_s (by omega) (by omega)
    have vc := vs_c nn (hv _ (List.mem_of_getElem? e))
    have ck : fw_c k = k := vc.1
    obtain ⟨b1, b2, b3⟩ := i64 b m eb (by omega)
    refine fs_holding_4 hG ?_
    rw [b3, w1, w2, ck, c1, c2, c64, e14, b1]
    rw [b1] at b2
    have k0 : 0 ≤ k := by
      rcases hv _ (List.mem_of_getElem? e) with ⟨a, -⟩ | ⟨a, -⟩ | ⟨a, -⟩ | ⟨a, -⟩ | ⟨a, -⟩
      · exact a.1
      · replace a : k = 3 := a
        omega
      · replace a : k = 4 := a
        omega
      · replace a : k = 5 := a
        omega
      · replace a : 6 ≤ k ∧ k ≤ 17 := a
        omega
    exact ⟨fun z => absurd z (by omega), fun _ => ⟨fun z => absurd z (by omega), fun _ => ⟨b2, fun z => ⟨fun y => g12 (Or.inl y), fun y => ⟨fun x => ⟨b2, g3 (by omega)⟩, fun x => g12 (Or.inr x)⟩⟩, g0⟩⟩⟩
  -- a value is put at its place
  have putd : ∀ (τ τ1 : ab_SG) (d : Nat) (x s : Int) (Q : fw_KR), x = (d : Int) → d < 64 → ab_okM [(17, 1000000)] σ τ1 → (∀ j : Nat, j < d → τ1 17 j = τ 17 j) → (0 ≤ s ∧ s < 512) → (∀ τ' : ab_SG, ab_okM [(17, 1000000)] σ τ' → (∀ j : Nat, j < d → τ' 17 j = τ 17 j) → τ' 17 d = s → Q none τ') → sp_put17 [(2, 17, 0), (0, 0, x), (0, 0, s)] τ1 Q := by
    intro τ τ1 d x s Q ex hd M hk hs hq
    obtain ⟨x1, x2, x3⟩ := i64 x d ex hd
    refine ⟨x, s, rfl, fun _ => ?_, fun z => absurd x2 z⟩
    rw [x3, fw_s (x := s) (by omega) (by omega)]
    exact hq _ (fw_okM_upa M (by decide)) (fun j hj => by rw [ab_ups_ne (fun z => by have := z.2; omega)]; exact hk j hj) ab_ups_eq
  have atd : ∀ (τ1 : ab_SG) (d : Nat) (x : Int) (Q : fw_KR), x = (d : Int) → d < 64 → Q (some (0, 0, τ1 17 d)) τ1 → sp_at17 [(2, 17, 0), (0, 0, x)] τ1 Q := by
    intro τ1 d x Q ex hd hq
    obtain ⟨x1, x2, x3⟩ := i64 x d ex hd
    refine ⟨x, rfl, fun _ => ?_, fun z => absurd x2 z⟩
    rw [x3]
    exact hq
  have run : ∀ (hh : Nat) (t2 : Int) (L2 : sl_T), rp N 60 hh t2 L2 → ∀ (i d : Nat) (τ : ab_SG) (a b : Int) (o4 o5 o6 : Option ab_AV), a = (d : Int) → b = (i : Int) → (∀ j : Nat, j < L2.length → L2[j]? = L[i + j]?) → d ≤ i → i + L2.length ≤ L.length → ab_okM [(17, 1000000)] σ τ →
      (∀ (τ' : ab_SG) (a' b' : Int) (o4' o5' o6' : Option ab_AV), a' = (d : Int) + 1 → b' = (i : Int) + (L2.length : Int) → ab_okM [(17, 1000000)] σ τ' → (∀ j : Nat, j < d → τ' 17 j = τ 17 j) → (0 ≤ τ' 17 d ∧ τ' 17 d < 512) → (∀ z : Nat, z < 9 → pr_hs (τ' 17 d) (z : Int) = (decide (z < T) && tv A N z hh t2)) → G 4 [some (2, 14, 0), some (2, 3, 0), some (0, 0, a'), some (0, 0, b'), o4', o5', o6'] [] τ') →
      G 4 [some (2, 14, 0), some (2, 3, 0), some (0, 0, a), some (0, 0, b), o4, o5, o6] [] τ := by
    intro hh
    induction hh with
    | zero => exact fun t2 L2 H => absurd H (fun z => z)
    | succ hh ih =>
      intro t2 L2 H i d τ a b o4 o5 o6 ea eb hL hd hn M kk
      rw [rp_s] at H
      obtain ⟨bt, H⟩ := H
      -- where two make one
      have two : ∀ (q : Int) (L1 L3 : sl_T), (q = 1 ∨ q = 2) → rp N 60 hh (N (4 * t2.toNat + 1)) L1 → rp N 60 hh (N (4 * t2.toNat + 2)) L3 → L2 = L1 ++ (L3 ++ [(q, 0)]) → (∀ z : Nat, z < 9 → tv A N z (hh + 1) t2 = if q = 1 then (tv A N z hh (N (4 * t2.toNat + 1)) && tv A N z hh (N (4 * t2.toNat + 2))) else (tv A N z hh (N (4 * t2.toNat + 1)) || tv A N z hh (N (4 * t2.toNat + 2)))) → G 4 [some (2, 14, 0), some (2, 3, 0), some (0, 0, a), some (0, 0, b), o4, o5, o6] [] τ := by
        intro q L1 L3 hq H1 H3 eL ev
        have l1 := rp_len H1
        have l3 := rp_len H3
        have ln : L2.length = L1.length + (L3.length + 1) := by rw [eL, List.length_append, List.length_append, List.length_singleton]
        refine ih _ L1 H1 i d τ a b o4 o5 o6 ea eb (fun j hj => ?_) hd (by omega) M (fun τ1 a1 b1 p4 p5 p6 ea1 eb1 M1 k1 s1 v1 => ?_)
        · have y := hL j (by omega)
          rw [eL, List.getElem?_append_left hj] at y
          exact y
        refine ih _ L3 H3 (i + L1.length) (d + 1) τ1 a1 b1 p4 p5 p6 (by omega) (by omega) (fun j hj => ?_) (by omega) (by omega) M1 (fun τ2 a2 b2 q4 q5 q6 ea2 eb2 M2 k2 s2 v2 => ?_)
        · have y := hL (L1.length + j) (by omega)
          rw [eL, List.getElem?_append_right (by omega), show L1.length + j - L1.length = j by omega, List.getElem?_append_left hj, show i + (L1.length + j) = i + L1.length + j by omega] at y
          exact y
        have last : L[i + L1.length + L3.length]? = some (q, 0) := by
          have y := hL (L1.length + L3.length) (by omega)
          rw [eL, List.getElem?_append_right (by omega), show L1.length + L3.length - L1.length = L3.length by omega, List.getElem?_concat_length, show i + (L1.length + L3.length) = i + L1.length + L3.length by omega] at y
          exact y.symm
        have cq : fw_c q = q := fw_s (by omega) (by omega)
        have k12 : τ2 17 d = τ1 17 d := k2 d (by omega)
        refine head τ2 _ q 0 a2 b2 q4 q5 q6 M2 last (by omega) (fun z => absurd z (by omega)) (fun _ => ?_) (fun z => absurd z (by omega))
        refine fs_holding_73 hG (atd τ2 d _ _ (by omega) (by omega) (fs_holding_83 hG (atd τ2 (d + 1) _ _ (by omega) (by omega) (fs_holding_95 hG ?_))))
        rw [cq, c1, k12]
        have fin : ∀ s : Int, (0 ≤ s ∧ s < 512) → (∀ z : Nat, z < 9 → pr_hs s (z : Int) = (decide (z < T) && tv A N z (hh + 1) t2)) → G 126 [some (2, 14, 0), some (2, 3, 0), some (0, 0, a2 + (-1)), some (0, 0, b2), some (0, 0, q), some (0, 0, τ1 17 d), some (0, 0, τ2 17 (d + 1))] [(0, 0, s), (0, 0, (a2 + (-1)) - 1), (2, 17, 0)] τ2 := fun s hs hb =>
          fs_holding_126 hG (putd τ τ2 d _ s _ (by omega) (by omega) M2 (fun j hj => (k2 j (by omega)).trans (k1 j hj)) hs (fun τ3 M3 k3 e3 => fs_holding_129 hG (fs_holding_155 hG (kk τ3 _ _ _ _ _ (by omega) (by omega) M3 k3 (by rw [e3]; exact hs) (fun z hz => by rw [e3]; exact hb z hz)))))
        refine ⟨fun z => ?_, fun z => ?_⟩
        · have o := sd_or s1 s2
          refine fin _ o.1 (fun y hy => ?_)
          rw [o.2 y hy, v1 y hy, v2 y hy, ev y hy, if_neg z]
          cases decide (y < T) <;> rfl
        · have o := sd_and s1 s2
          refine fin _ o.1 (fun y hy => ?_)
          rw [o.2 y hy, v1 y hy, v2 y hy, ev y hy, if_pos z]
          cases decide (y < T) <;> rfl
      -- what speaks of tunes
      have leaf : ∀ q : Int × Int, L2 = [q] → 3 ≤ q.1 → (∀ z : Nat, z < 9 → tv A N z (hh + 1) t2 = ob A z q) → G 4 [some (2, 14, 0), some (2, 3, 0), some (0, 0, a), some (0, 0, b), o4, o5, o6] [] τ := by
        intro q eL hq ev
        obtain ⟨k, v⟩ := q
        have ln : L2.length = 1 := by rw [eL]; rfl
        have one : L[i]? = some (k, v) := by
          have y := hL 0 (by omega)
          rw [eL, Nat.add_zero] at y
          exact y.symm
        replace hq : 3 ≤ k := hq
        refine head τ i k v a b o4 o5 o6 M one eb (fun z => absurd z (by omega)) (fun z => absurd z (by omega)) (fun _ => ⟨A, k, v, rfl, NN τ M, hv _ (List.mem_of_getElem? one), hq, fun s hs hb => fs_holding_149 hG (putd τ τ d _ s _ ea (by omega) M (fun _ _ => rfl) hs (fun τ3 M3 k3 e3 => fs_holding_152 hG (fs_holding_155 hG (kk τ3 _ _ _ _ _ (by omega) (by omega) M3 k3 (by rw [e3]; exact hs) (fun z hz => ?_)))))⟩)
        rw [e3, hb z hz, eTn, ev z hz]
      rcases H with ⟨e1, L1, H1, eL⟩ | ⟨e1, L1, L3, H1, H3, eL⟩ | ⟨e1, L1, L3, H1, H3, eL⟩ | ⟨w, hw, e1, eL⟩ | ⟨w, r, hw, hr2, e1, e3, eL⟩
      · have l1 := rp_len H1
        have ln : L2.length = L1.length + 1 := by rw [eL, List.length_append, List.length_singleton]
        refine ih _ L1 H1 i d τ a b o4 o5 o6 ea eb (fun j hj => ?_) hd (by omega) M (fun τ1 a1 b1 p4 p5 p6 ea1 eb1 M1 k1 s1 v1 => ?_)
        · have y := hL j (by omega)
          rw [eL, List.getElem?_append_left hj] at y
          exact y
        have last : L[i + L1.length]? = some (0, 0) := by
          have y := hL L1.length (by omega)
          rw [eL, List.getElem?_concat_length] at y
          exact y.symm
        refine head τ1 _ 0 0 a1 b1 p4 p5 p6 M1 last (by omega) (fun _ => ?_) (fun z => absurd z (by omega)) (fun z => absurd z (by omega))
        refine ⟨A, rfl, NN τ1 M1, fs_holding_42 hG (atd τ1 d _ _ (by omega) (by omega) (fs_holding_52 hG ?_))⟩
        have o := sd_not al.1 s1
        refine putd τ τ1 d _ _ _ (by omega) (by omega) M1 k1 o.1 (fun τ3 M3 k3 e3 => fs_holding_58 hG (fs_holding_155 hG (kk τ3 _ _ _ _ _ (by omega) (by omega) M3 k3 (by rw [e3]; exact o.1) (fun z hz => ?_))))
        rw [e3, o.2 z hz, al.2 z hz, v1 z hz, tv_s, if_pos e1]
        cases decide (z < T) <;> cases tv A N z hh (N (4 * t2.toNat + 1)) <;> rfl
      · exact two 1 L1 L3 (Or.inl rfl) H1 H3 eL (fun z _ => by rw [tv_s, if_neg (by rw [e1]; decide), if_pos e1, if_pos rfl])
      · exact two 2 L1 L3 (Or.inr rfl) H1 H3 eL (fun z _ => by rw [tv_s, if_neg (by rw [e1]; decide), if_neg (by rw [e1]; decide), if_pos e1, if_neg (by decide)])
      · refine leaf _ eL (show 3 ≤ w - 7 by omega) (fun z _ => ?_)
        rw [tv_s, if_neg (by omega), if_neg (by omega), if_neg (by omega)]
        unfold ns
        rw [if_pos (by omega), e1, show (50 : Int) + w - 57 = w - 7 by omega]
      · refine leaf _ eL (show 3 ≤ 6 + 3 * (w - 13) + (r - 60) by omega) (fun z _ => ?_)
        rw [tv_s, if_neg (by omega), if_neg (by omega), if_neg (by omega)]
        unfold ns
        rw [if_neg (by omega), e1, e3, show (50 : Int) + w - 63 = w - 13 by omega]
  refine run 20 t L hR 0 0 σ 0 0 none none none rfl rfl (fun j _ => by rw [Nat.zero_add]) (Nat.le_refl 0) (by omega) (fw_okM_refl _ _) (fun τ a b o4 o5 o6 _ eb M _ hs hb => ?_)
  have e14 : fw_c (τ 14 3) = (L.length : Int) := by rw [mk_row M (k := 14) (by decide) 3, h3]; exact fw_s (by omega) (by omega)
  obtain ⟨b1, b2, b3⟩ := i64 b L.length (by omega) (by omega)
  refine fs_holding_4 hG ?_
  rw [e14, b1]
  exact ⟨fun _ => fs_holding_161 hG (atd τ 0 0 _ rfl (by decide) (fs_holding_169 hG (h _ τ M hs hb))), fun z => absurd z (Int.lt_irrefl _)⟩)
theorem fm_said (hinj : nn_inj ad) : fw_H l cy ad wr cr D 180 6 sp_said := fw_mk hinj (⟨"NameNotes", "said", "(I)I"⟩, prog_1_method_56_code, 3, (Option.some Jvm.ClassFile.FieldType.int), 1, true, 0) rfl rfl nn_KI1_ok nn_KJ1_ok nn_PF1_ok nn_PS1_ok (by decide +kernel) rfl rfl (List.forall_mem_cons.mpr ⟨fw_row nn_PM1_ok (x := 324) (k := 0) (mn := 88) (np := 1) (ob := false) (ci := 0) (⟨"java/lang/Integer", "bitCount", "(I)I"⟩, prog_20_method_49_code, 1, (Option.some Jvm.ClassFile.FieldType.int), 1, false, 0) rfl (by decide +kernel) rfl rfl (by decide) (fun q => by cases q) (fm_bitc9 hinj), (List.forall_mem_cons.mpr ⟨fw_row nn_PM1_ok (x := 443) (k := 0) (mn := 181) (np := 1) (ob := true) (ci := 5) (⟨"NameNotes$Sentence", "holding", "(LNameNotes$Studio;)I"⟩, prog_7_method_11_code, 7, (Option.some Jvm.ClassFile.FieldType.int), 1, true, 0) rfl (by decide +kernel) rfl rfl (by decide) (fun _ => ⟨_, _, rfl⟩) (fm_holding hinj), (List.forall_mem_cons.mpr ⟨fw_row nn_PM1_ok (x := 446) (k := 0) (mn := 164) (np := 2) (ob := false) (ci := 0) (⟨"NameNotes", "nth", "(II)I"⟩, prog_1_method_83_code, 4, (Option.some Jvm.ClassFile.FieldType.int), 2, false, 0) rfl (by decide +kernel) rfl rfl (by decide) (fun q => by cases q) (fm_nthW hinj), (fun _ h => absurd h List.not_mem_nil)⟩)⟩)⟩) (fun as σ K h => by
  obtain ⟨A, H, N, t, k, L, rfl, ck, hN, hE, h⟩ := h
  have nn := N_n hN.1
  have m1 : fw_c (-1) = -1 := fw_s (by decide) (by decide)
  have T9 : (A 49 11).toNat ≤ 9 := by omega
  refine ⟨rfl, fun G hG => fs_said_0 hG ?_⟩
  rw [ck, m1, fw_c1]
  rcases hE with ⟨rfl, h4⟩ | ⟨rfl, h4, h3, hr, hv, hR⟩
  · rw [h4, fw_c0]
    have g := h σ (fw_okM_refl _ _)
    unfold v_said at g
    rw [if_pos rfl] at g
    exact ⟨fun _ => g, fun z => absurd z (by decide)⟩
  · rw [fw_s (x := σ 14 4) (by omega) (by omega)]
    unfold v_said at h
    rw [if_neg (by decide)] at h
    refine ⟨fun z => absurd z (by omega), fun _ => ⟨fun hk => ⟨A, N, t, L, rfl, hN, h3, hr, hv, hR, fun s σ' M hs hb => fs_said_35 hG ?_⟩, fun z => ?_⟩⟩
    · have r := sd_set (g := fun y => tv A N y 20 t) (k := k) T9 hb hk
      have g := h σ' M
      rw [ck, m1]
      refine ⟨fun z => ⟨s, k, rfl, ck, fs_said_53 hG ?_⟩, fun z => ⟨s, rfl, hs, fs_said_45 hG (fs_said_53 hG ?_)⟩⟩
      · rw [r.2 z] at g
        exact g
      · rw [r.1 z] at g
        exact g
    · have g := h σ (fw_okM_refl _ _)
      rw [sd_low (show k < -1 by omega)] at g
      exact g)
end
section
variable {l : Launch} {cy : Nat → ClassId} {ad wr cr : Nat → Nat} {D : va_G}
theorem fm_m_holds0 (hinj : nn_inj ad) : fw_H l cy ad wr cr D 351 5 (sp_m_holds 0) := fw_mk (rk := 1) hinj (⟨"NameNotesModel", "holds", "(II)Z"⟩, prog_14_method_148_code, 7, (Option.some Jvm.ClassFile.FieldType.boolean), 2, true, 1) rfl rfl nn_KI20_ok nn_KJ20_ok nn_PF20_ok nn_PS20_ok (by decide +kernel) rfl rfl (List.forall_mem_cons.mpr ⟨fw_row nn_PM20_ok (x := 216) (k := 0) (mn := 230) (np := 2) (ob := false) (ci := 0) (⟨"NameNotesModel", "has", "(II)Z"⟩, prog_14_method_9_code, 2, (Option.some Jvm.ClassFile.FieldType.boolean), 2, false, 1) rfl (by decide +kernel) rfl rfl (by decide) (fun q => by cases q) (fm_m_has hinj), (List.forall_mem_cons.mpr ⟨fw_row nn_PM20_ok (x := 277) (k := 0) (mn := 244) (np := 2) (ob := true) (ci := 11) (⟨"NameNotesModel", "tell", "(II)I"⟩, prog_14_method_50_code, 6, (Option.some Jvm.ClassFile.FieldType.int), 2, true, 0) rfl (by decide +kernel) rfl rfl (by decide) (fun _ => ⟨_, _, rfl⟩) (fm_m_tell hinj), (List.forall_mem_cons.mpr ⟨fw_row nn_PM20_ok (x := 284) (k := 0) (mn := 250) (np := 2) (ob := true) (ci := 11) (⟨"NameNotesModel", "known", "(II)I"⟩, prog_14_method_54_code, 3, (Option.some Jvm.ClassFile.FieldType.int), 2, true, 0) rfl (by decide +kernel) rfl rfl (by decide) (fun _ => ⟨_, _, rfl⟩) (fm_m_known hinj), (List.forall_mem_cons.mpr ⟨fw_row nn_PM20_ok (x := 294) (k := 0) (mn := 257) (np := 4) (ob := true) (ci := 11) (⟨"NameNotesModel", "areLike", "(IIII)Z"⟩, prog_14_method_59_code, 5, (Option.some Jvm.ClassFile.FieldType.boolean), 4, true, 1) rfl (by decide +kernel) rfl rfl (by decide) (fun _ => ⟨_, _, rfl⟩) (fm_m_areLike hinj), (fun _ h => absurd h List.not_mem_nil)⟩)⟩)⟩)⟩) (fun as σ K h => by
  obtain ⟨A, x, t, L, -, -, -, H, -⟩ := h
  exact absurd H (fun z => z))
end
theorem mh_core {J : Nat} {G : fw_K} {R : fw_KR} {σ A : ab_SG} {x : Nat} {t : Int} {L : sl_T} (hN : NM σ A) (hx : (x : Int) < A 49 11) (H : rp (fun j => σ 95 (234 + j)) 60 (J + 1) t L) (hv : ∀ q ∈ L, vs A q) (h : R (some (0, 0, bI (tv A (fun j => σ 95 (234 + j)) x (J + 1) t))) σ)
  (q_0 : ∀ {t x : Int} {σ : ab_SG}, ((0 ≤ fw_c ((234 + (4 * t)) + 1) ∧ fw_c ((234 + (4 * t)) + 1) < ((474 : Nat) : Int)) ∧ ((0 ≤ fw_c ((234 + (4 * t)) + 2) ∧ fw_c ((234 + (4 * t)) + 2) < ((474 : Nat) : Int)) ∧ ((0 ≤ fw_c (234 + (4 * t)) ∧ fw_c (234 + (4 * t)) < ((474 : Nat) : Int)) ∧ ((1 = fw_c (σ 95 (fw_c (234 + (4 * t))).toNat) → (sp_m_holds J [(2, 93, 0), (0, 0, σ 95 (fw_c ((234 + (4 * t)) + 1)).toNat), (0, 0, x)] σ (fun rv σ2 => G 99 [some (2, 93, 0), some (0, 0, t), some (0, 0, x), some (0, 0, 234 + (4 * t)), some (0, 0, σ 95 (fw_c ((234 + (4 * t)) + 1)).toNat), some (0, 0, σ 95 (fw_c ((234 + (4 * t)) + 2)).toNat), none] (rv.toList ++ []) σ2))) ∧ (1 ≠ fw_c (σ 95 (fw_c (234 + (4 * t))).toNat) → ((2 = fw_c (σ 95 (fw_c (234 + (4 * t))).toNat) → (sp_m_holds J [(2, 93, 0), (0, 0, σ 95 (fw_c ((234 + (4 * t)) + 1)).toNat), (0, 0, x)] σ (fun rv σ2 => G 115 [some (2, 93, 0), some (0, 0, t), some (0, 0, x), some (0, 0, 234 + (4 * t)), some (0, 0, σ 95 (fw_c ((234 + (4 * t)) + 1)).toNat), some (0, 0, σ 95 (fw_c ((234 + (4 * t)) + 2)).toNat), none] (rv.toList ++ []) σ2))) ∧ (2 ≠ fw_c (σ 95 (fw_c (234 + (4 * t))).toNat) → ((3 = fw_c (σ 95 (fw_c (234 + (4 * t))).toNat) → (sp_m_holds J [(2, 93, 0), (0, 0, σ 95 (fw_c ((234 + (4 * t)) + 1)).toNat), (0, 0, x)] σ (fun rv σ2 => G 141 [some (2, 93, 0), some (0, 0, t), some (0, 0, x), some (0, 0, 234 + (4 * t)), some (0, 0, σ 95 (fw_c ((234 + (4 * t)) + 1)).toNat), some (0, 0, σ 95 (fw_c ((234 + (4 * t)) + 2)).toNat), none] (rv.toList ++ []) σ2))) ∧ (3 ≠ fw_c (σ 95 (fw_c (234 + (4 * t))).toNat) → ((60 = fw_c (σ 95 (fw_c (234 + (4 * t))).toNat) → ((0 ≤ fw_c (176 + (σ 95 (fw_c ((234 + (4 * t)) + 1)).toNat)) ∧ fw_c (176 + (σ 95 (fw_c ((234 + (4 * t)) + 1)).toNat)) < ((474 : Nat) : Int)) ∧ (sp_m_has [(0, 0, σ 95 (fw_c (176 + (σ 95 (fw_c ((234 + (4 * t)) + 1)).toNat))).toNat), (0, 0, x)] σ (fun rv σ2 => G 175 [some (2, 93, 0), some (0, 0, t), some (0, 0, x), some (0, 0, 234 + (4 * t)), some (0, 0, σ 95 (fw_c ((234 + (4 * t)) + 1)).toNat), some (0, 0, σ 95 (fw_c ((234 + (4 * t)) + 2)).toNat), none] (rv.toList ++ []) σ2)))) ∧ (60 ≠ fw_c (σ 95 (fw_c (234 + (4 * t))).toNat) → ((61 = fw_c (σ 95 (fw_c (234 + (4 * t))).toNat) → (sp_m_known [(2, 93, 0), (0, 0, σ 95 (fw_c ((234 + (4 * t)) + 1)).toNat), (0, 0, x)] σ (fun rv σ2 => G 183 [some (2, 93, 0), some (0, 0, t), some (0, 0, x), some (0, 0, 234 + (4 * t)), some (0, 0, σ 95 (fw_c ((234 + (4 * t)) + 1)).toNat), some (0, 0, σ 95 (fw_c ((234 + (4 * t)) + 2)).toNat), none] (rv.toList ++ []) σ2))) ∧ (61 ≠ fw_c (σ 95 (fw_c (234 + (4 * t))).toNat) → ((62 = fw_c (σ 95 (fw_c (234 + (4 * t))).toNat) → (sp_m_areLike [(2, 93, 0), (0, 0, σ 95 (fw_c ((234 + (4 * t)) + 1)).toNat), (0, 0, x), (0, 0, 3), (0, 0, 0)] σ (fun rv σ2 => G 203 [some (2, 93, 0), some (0, 0, t), some (0, 0, x), some (0, 0, 234 + (4 * t)), some (0, 0, σ 95 (fw_c ((234 + (4 * t)) + 1)).toNat), some (0, 0, σ 95 (fw_c ((234 + (4 * t)) + 2)).toNat), none] (rv.toList ++ []) σ2))) ∧ (62 ≠ fw_c (σ 95 (fw_c (234 + (4 * t))).toNat) → ((0 ≤ fw_c (234 + (4 * t)) ∧ fw_c (234 + (4 * t)) < ((474 : Nat) : Int)) ∧ (sp_m_tell [(2, 93, 0), (0, 0, x), (0, 0, ((σ 95 (fw_c (234 + (4 * t))).toNat) - 50) - 13)] σ (fun rv σ2 => G 221 [some (2, 93, 0), some (0, 0, t), some (0, 0, x), some (0, 0, 234 + (4 * t)), some (0, 0, σ 95 (fw_c ((234 + (4 * t)) + 1)).toNat), some (0, 0, σ 95 (fw_c ((234 + (4 * t)) + 2)).toNat), none] (rv.toList ++ []) σ2)))))))))))))))))) → G 0 [some (2, 93, 0), some (0, 0, t), some (0, 0, x), none, none, none, none] [] σ)
  (q_221 : ∀ {a1 a2 a3 a4 a5 b0 : Int} {σ : ab_SG}, ((0 ≤ fw_c (a3 + 3) ∧ fw_c (a3 + 3) < ((474 : Nat) : Int)) ∧ ((fw_c (σ 95 (fw_c (a3 + 3)).toNat) ≠ fw_c 60 → (0 ≤ fw_c (a3 + 3) ∧ fw_c (a3 + 3) < ((474 : Nat) : Int)) ∧ ((fw_c (σ 95 (fw_c (a3 + 3)).toNat) ≠ fw_c 61 → (fw_c b0 ≤ fw_c a5 → (0 ≤ fw_c 0 ∧ fw_c 0 ≤ 1) ∧ R (some (0, 0, 0)) σ) ∧ (fw_c a5 < fw_c b0 → (0 ≤ fw_c 1 ∧ fw_c 1 ≤ 1) ∧ R (some (0, 0, 1)) σ)) ∧ (fw_c (σ 95 (fw_c (a3 + 3)).toNat) = fw_c 61 → (fw_c b0 ≠ fw_c a5 → (0 ≤ fw_c 0 ∧ fw_c 0 ≤ 1) ∧ R (some (0, 0, 0)) σ) ∧ (fw_c b0 = fw_c a5 → (0 ≤ fw_c 1 ∧ fw_c 1 ≤ 1) ∧ R (some (0, 0, 1)) σ)))) ∧ (fw_c (σ 95 (fw_c (a3 + 3)).toNat) = fw_c 60 → (fw_c a5 ≤ fw_c b0 → (0 ≤ fw_c 0 ∧ fw_c 0 ≤ 1) ∧ R (some (0, 0, 0)) σ) ∧ (fw_c b0 < fw_c a5 → (0 ≤ fw_c 1 ∧ fw_c 1 ≤ 1) ∧ R (some (0, 0, 1)) σ)))) → G 221 [some (2, 93, 0), some (0, 0, a1), some (0, 0, a2), some (0, 0, a3), some (0, 0, a4), some (0, 0, a5), none] [(0, 0, b0)] σ)
  (q_203 : ∀ {a1 a2 a3 a4 a5 b0 : Int} {σ : ab_SG}, ((0 ≤ fw_c b0 ∧ fw_c b0 ≤ 1) ∧ R (some (0, 0, b0)) σ) → G 203 [some (2, 93, 0), some (0, 0, a1), some (0, 0, a2), some (0, 0, a3), some (0, 0, a4), some (0, 0, a5), none] [(0, 0, b0)] σ)
  (q_183 : ∀ {a1 a2 a3 a4 a5 b0 : Int} {σ : ab_SG}, ((fw_c b0 ≠ fw_c 9 → (0 ≤ fw_c 0 ∧ fw_c 0 ≤ 1) ∧ R (some (0, 0, 0)) σ) ∧ (fw_c b0 = fw_c 9 → (0 ≤ fw_c 1 ∧ fw_c 1 ≤ 1) ∧ R (some (0, 0, 1)) σ)) → G 183 [some (2, 93, 0), some (0, 0, a1), some (0, 0, a2), some (0, 0, a3), some (0, 0, a4), some (0, 0, a5), none] [(0, 0, b0)] σ)
  (q_175 : ∀ {a1 a2 a3 a4 a5 b0 : Int} {σ : ab_SG}, ((0 ≤ fw_c b0 ∧ fw_c b0 ≤ 1) ∧ R (some (0, 0, b0)) σ) → G 175 [some (2, 93, 0), some (0, 0, a1), some (0, 0, a2), some (0, 0, a3), some (0, 0, a4), some (0, 0, a5), none] [(0, 0, b0)] σ)
  (q_141 : ∀ {a1 a2 a3 a4 a5 b0 : Int} {σ : ab_SG}, ((fw_c b0 ≠ 0 → (0 ≤ fw_c 1 ∧ fw_c 1 ≤ 1) ∧ R (some (0, 0, 1)) σ) ∧ (fw_c b0 = 0 → sp_m_holds J [(2, 93, 0), (0, 0, a5), (0, 0, a2)] σ (fun rv σ2 => G 151 [some (2, 93, 0), some (0, 0, a1), some (0, 0, a2), some (0, 0, a3), some (0, 0, a4), some (0, 0, a5), none] (rv.toList ++ []) σ2))) → G 141 [some (2, 93, 0), some (0, 0, a1), some (0, 0, a2), some (0, 0, a3), some (0, 0, a4), some (0, 0, a5), none] [(0, 0, b0)] σ)
  (q_115 : ∀ {a1 a2 a3 a4 a5 b0 : Int} {σ : ab_SG}, ((fw_c b0 = 0 → (0 ≤ fw_c 0 ∧ fw_c 0 ≤ 1) ∧ R (some (0, 0, 0)) σ) ∧ (fw_c b0 ≠ 0 → sp_m_holds J [(2, 93, 0), (0, 0, a5), (0, 0, a2)] σ (fun rv σ2 => G 125 [some (2, 93, 0), some (0, 0, a1), some (0, 0, a2), some (0, 0, a3), some (0, 0, a4), some (0, 0, a5), none] (rv.toList ++ []) σ2))) → G 115 [some (2, 93, 0), some (0, 0, a1), some (0, 0, a2), some (0, 0, a3), some (0, 0, a4), some (0, 0, a5), none] [(0, 0, b0)] σ)
  (q_99 : ∀ {a1 a2 a3 a4 a5 b0 : Int} {σ : ab_SG}, ((fw_c b0 ≠ 0 → (0 ≤ fw_c 0 ∧ fw_c 0 ≤ 1) ∧ R (some (0, 0, 0)) σ) ∧ (fw_c b0 = 0 → (0 ≤ fw_c 1 ∧ fw_c 1 ≤ 1) ∧ R (some (0, 0, 1)) σ)) → G 99 [some (2, 93, 0), some (0, 0, a1), some (0, 0, a2), some (0, 0, a3), some (0, 0, a4), some (0, 0, a5), none] [(0, 0, b0)] σ)
  (q_151 : ∀ {a1 a2 a3 a4 a5 b0 : Int} {σ : ab_SG}, ((fw_c b0 = 0 → (0 ≤ fw_c 0 ∧ fw_c 0 ≤ 1) ∧ R (some (0, 0, 0)) σ) ∧ (fw_c b0 ≠ 0 → (0 ≤ fw_c 1 ∧ fw_c 1 ≤ 1) ∧ R (some (0, 0, 1)) σ)) → G 151 [some (2, 93, 0), some (0, 0, a1), some (0, 0, a2), some (0, 0, a3), some (0, 0, a4), some (0, 0, a5), none] [(0, 0, b0)] σ)
  (q_125 : ∀ {a1 a2 a3 a4 a5 b0 : Int} {σ : ab_SG}, ((fw_c b0 = 0 → (0 ≤ fw_c 0 ∧ fw_c 0 ≤ 1) ∧ R (some (0, 0, 0)) σ) ∧ (fw_c b0 ≠ 0 → (0 ≤ fw_c 1 ∧ fw_c 1 ≤ 1) ∧ R (some (0, 0, 1)) σ)) → G 125 [some (2, 93, 0), some (0, 0, a1), some (0, 0, a2), some (0, 0, a3), some (0, 0, a4), some (0, 0, a5), none] [(0, 0, b0)] σ) : G 0 [some (2, 93, 0), some (0, 0, t), some (0, 0, (x : Int)), none, none, none, none] [] σ := by
  have nn := N_n hN.1
  have eT := (NM_n hN).1
  rw [show rp (fun j => σ 95 (234 + j)) 60 (J + 1) t L = _ from rp_s (fun j => σ 95 (234 + j)) 60 J t L] at H
  rw [show tv A (fun j => σ 95 (234 + j)) x (J + 1) t = _ from tv_s A (fun j => σ 95 (234 + j)) x J t] at h
  obtain ⟨⟨b0, b1⟩, H⟩ := H
  replace h : R (some (0, 0, bI (if σ 95 (234 + 4 * t.toNat) = 1 then !tv A (fun j => σ 95 (234 + j)) x J (σ 95 (234 + (4 * t.toNat + 1))) else if σ 95 (234 + 4 * t.toNat) = 2 then (tv A (fun j => σ 95 (234 + j)) x J (σ 95 (234 + (4 * t.toNat + 1))) && tv A (fun j => σ 95 (234 + j)) x J (σ 95 (234 + (4 * t.toNat + 2)))) else if σ 95 (234 + 4 * t.toNat) = 3 then (tv A (fun j => σ 95 (234 + j)) x J (σ 95 (234 + (4 * t.toNat + 1))) || tv A (fun j => σ 95 (234 + j)) x J (σ 95 (234 + (4 * t.toNat + 2)))) else ob A x (ns (fun j => σ 95 (234 + j)) t)))) σ := h
  have a0 : fw_c (234 + 4 * t) = 234 + 4 * t := fw_s (by omega) (by omega)
  have a1 : fw_c (234 + 4 * t + 1) = 234 + 4 * t + 1 := fw_s (by omega) (by omega)
  have a2 : fw_c (234 + 4 * t + 2) = 234 + 4 * t + 2 := fw_s (by omega) (by omega)
  have a3 : fw_c (234 + 4 * t + 3) = 234 + 4 * t + 3 := fw_s (by omega) (by omega)
  have n0 : (234 + 4 * t).toNat = 234 + 4 * t.toNat := by omega
  have n1 : (234 + 4 * t + 1).toNat = 234 + (4 * t.toNat + 1) := by omega
  have n2 : (234 + 4 * t + 2).toNat = 234 + (4 * t.toNat + 2) := by omega
  have n3 : (234 + 4 * t + 3).toNat = 234 + (4 * t.toNat + 3) := by omega
  have r0 : 0 ≤ 234 + 4 * t ∧ 234 + 4 * t < ((474 : Nat) : Int) := ⟨by omega, by omega⟩
  have r1 : 0 ≤ 234 + 4 * t + 1 ∧ 234 + 4 * t + 1 < ((474 : Nat) : Int) := ⟨by omega, by omega⟩
  have r2 : 0 ≤ 234 + 4 * t + 2 ∧ 234 + 4 * t + 2 < ((474 : Nat) : Int) := ⟨by omega, by omega⟩
  have r3 : 0 ≤ 234 + 4 * t + 3 ∧ 234 + 4 * t + 3 < ((474 : Nat) : Int) := ⟨by omega, by omega⟩
  refine q_0 ?_
  rw [a0, a1, a2, n0, n1, n2]
  rcases H with ⟨e1, L1, H1, eL⟩ | ⟨e1, L1, L2, H1, H2, eL⟩ | ⟨e1, L1, L2, H1, H2, eL⟩ | ⟨w, hw, e1, eL⟩ | ⟨w, r, hw, hr, e1, e3, eL⟩
  · replace e1 : σ 95 (234 + 4 * t.toNat) = 1 := e1
    rw [if_pos e1] at h
    have e : fw_c (σ 95 (234 + 4 * t.toNat)) = 1 := by rw [e1]; exact fw_c1
    rw [e]
    refine ⟨r1, r2, r0, fun _ => ⟨A, x, _, L1, rfl, hN, hx, H1, fun q hq => hv q (by rw [eL]; exact List.mem_append_left _ hq), q_99 ⟨fun z => ⟨fw_01, ?_⟩, fun z => ⟨fw_11, ?_⟩⟩⟩, fun z => absurd rfl z⟩
    · have z := bI_1 z
      rw [z] at h
      exact h
    · have z := bI_0 z
      rw [z] at h
      exact h
  · replace e1 : σ 95 (234 + 4 * t.toNat) = 2 := e1
    rw [if_neg (by rw [e1]; decide), if_pos e1] at h
    have e : fw_c (σ 95 (234 + 4 * t.toNat)) = 2 := by rw [e1]; exact fw_s (by decide) (by decide)
    rw [e]
    refine ⟨r1, r2, r0, fun z => absurd z (by decide), fun _ => ⟨fun _ => ⟨A, x, _, L1, rfl, hN, hx, H1, fun q hq => hv q (by rw [eL]; exact List.mem_append_left _ hq), q_115 ⟨fun z => ⟨fw_01, ?_⟩, fun z => ⟨A, x, _, L2, rfl, hN, hx, H2, fun q hq => hv q (by rw [eL]; exact List.mem_append_right _ (List.mem_append_left _ hq)), q_125 ⟨fun z2 => ⟨fw_01, ?_⟩, fun z2 => ⟨fw_11, ?_⟩⟩⟩⟩⟩, fun z => absurd rfl z⟩⟩
    · have z := bI_0 z
      rw [z] at h
      exact h
    · have z := bI_1 z
      have z2 := bI_0 z2
      rw [z, z2] at h
      exact h
    · have z := bI_1 z
      have z2 := bI_1 z2
      rw [z, z2] at h
      exact h
  · replace e1 : σ 95 (234 + 4 * t.toNat) = 3 := e1
    rw [if_neg (by rw [e1]; decide), if_neg (by rw [e1]; decide), if_pos e1] at h
    have e : fw_c (σ 95 (234 + 4 * t.toNat)) = 3 := by rw [e1]; exact fw_s (by decide) (by decide)
    rw [e]
    refine ⟨r1, r2, r0, fun z => absurd z (by decide), fun _ => ⟨fun z => absurd z (by decide), fun _ => ⟨fun _ => ⟨A, x, _, L1, rfl, hN, hx, H1, fun q hq => hv q (by rw [eL]; exact List.mem_append_left _ hq), q_141 ⟨fun z => ⟨fw_11, ?_⟩, fun z => ⟨A, x, _, L2, rfl, hN, hx, H2, fun q hq => hv q (by rw [eL]; exact List.mem_append_right _ (List.mem_append_left _ hq)), q_151 ⟨fun z2 => ⟨fw_01, ?_⟩, fun z2 => ⟨fw_11, ?_⟩⟩⟩⟩⟩, fun z => absurd rfl z⟩⟩⟩
    · have z := bI_1 z
      rw [z] at h
      exact h
    · have z := bI_0 z
      have z2 := bI_0 z2
      rw [z, z2] at h
      exact h
    · have z := bI_0 z
      have z2 := bI_1 z2
      rw [z, z2] at h
      exact h
  · replace e1 : σ 95 (234 + 4 * t.toNat) = 50 + w := e1
    replace eL : L = [(w - 7, σ 95 (234 + (4 * t.toNat + 1)))] := eL
    have hq : vs A (w - 7, σ 95 (234 + (4 * t.toNat + 1))) := hv _ (by rw [eL]; exact List.mem_cons_self)
    have en : ns (fun j => σ 95 (234 + j)) t = (w - 7, σ 95 (234 + (4 * t.toNat + 1))) := by
      have e2 : ns (fun j => σ 95 (234 + j)) t = if σ 95 (234 + 4 * t.toNat) ≤ 62 then (σ 95 (234 + 4 * t.toNat) - 57, σ 95 (234 + (4 * t.toNat + 1))) else (6 + 3 * (σ 95 (234 + 4 * t.toNat) - 63) + (σ 95 (234 + (4 * t.toNat + 3)) - 60), σ 95 (234 + (4 * t.toNat + 2))) := rfl
      rw [e2, if_pos (by omega), e1, show (50 : Int) + w - 57 = w - 7 by omega]
    rw [if_neg (by omega), if_neg (by omega), if_neg (by omega), en] at h
    have e : fw_c (σ 95 (234 + 4 * t.toNat)) = 50 + w := by rw [e1]; exact fw_s (by omega) (by omega)
    rw [e]
    rcases (show w = 10 ∨ w = 11 ∨ w = 12 by omega) with rfl | rfl | rfl
    · replace hq : vs A (3, σ 95 (234 + (4 * t.toNat + 1))) := hq
      have hc : 0 ≤ σ 95 (234 + (4 * t.toNat + 1)) ∧ σ 95 (234 + (4 * t.toNat + 1)) < A 49 12 := by
        rcases hq with ⟨a, -⟩ | ⟨-, a, b⟩ | ⟨a, -⟩ | ⟨a, -⟩ | ⟨a, -⟩
        · replace a : 0 ≤ (3 : Int) ∧ (3 : Int) ≤ 2 := a
          omega
        · exact ⟨a, b⟩
        · exact absurd a (by simp)
        · exact absurd a (by simp)
        · replace a : 6 ≤ (3 : Int) ∧ (3 : Int) ≤ 17 := a
          omega
      have q0 : fw_c (176 + σ 95 (234 + (4 * t.toNat + 1))) = 176 + σ 95 (234 + (4 * t.toNat + 1)) := fw_s (by omega) (by omega)
      have q1 : (176 + σ 95 (234 + (4 * t.toNat + 1))).toNat = 176 + (σ 95 (234 + (4 * t.toNat + 1))).toNat := by omega
      refine ⟨r1, r2, r0, fun z => absurd z (by decide), fun _ => ⟨fun z => absurd z (by decide), fun _ => ⟨fun z => absurd z (by decide), fun _ => ⟨fun _ => ?_, fun z => absurd rfl z⟩⟩⟩⟩
      rw [q0, q1, NM_cl hN (show (((σ 95 (234 + (4 * t.toNat + 1))).toNat : Nat) : Int) < A 49 12 by omega)]
      refine ⟨⟨by omega, by omega⟩, _, _, rfl, q_175 ⟨fw_bo_in, ?_⟩⟩
      have eo : ob A x ((10 : Int) - 7, σ 95 (234 + (4 * t.toNat + 1))) = pr_hs (A 54 (σ 95 (234 + (4 * t.toNat + 1))).toNat) (x : Int) := by
        have e5 : ob A x ((10 : Int) - 7, σ 95 (234 + (4 * t.toNat + 1))) = pr_hs (v_set A (σ 95 (234 + (4 * t.toNat + 1)))) (x : Int) := if_pos rfl
        rw [e5]
        unfold v_set
        rw [if_neg (by omega)]
      rw [eo] at h
      rw [bI_b]
      exact h
    · replace hq : vs A (4, σ 95 (234 + (4 * t.toNat + 1))) := hq
      have hc : 0 ≤ σ 95 (234 + (4 * t.toNat + 1)) ∧ σ 95 (234 + (4 * t.toNat + 1)) < A 49 13 := by
        rcases hq with ⟨a, -⟩ | ⟨a, -⟩ | ⟨-, a, b⟩ | ⟨a, -⟩ | ⟨a, -⟩
        · replace a : 0 ≤ (4 : Int) ∧ (4 : Int) ≤ 2 := a
          omega
        · exact absurd a (by simp)
        · exact ⟨a, b⟩
        · exact absurd a (by simp)
        · replace a : 6 ≤ (4 : Int) ∧ (4 : Int) ≤ 17 := a
          omega
      obtain ⟨p, ep⟩ := Int.eq_ofNat_of_zero_le hc.1
      have j45 : 9 * p + x < 45 := by omega
      have kb : 0 ≤ A 55 (9 * p + x) ∧ A 55 (9 * p + x) ≤ 9 := hN.2.1.2.2.1 _ j45
      have c9 : fw_c 9 = 9 := fw_s (by decide) (by decide)
      refine ⟨r1, r2, r0, fun z => absurd z (by decide), fun _ => ⟨fun z => absurd z (by decide), fun _ => ⟨fun z => absurd z (by decide), fun _ => ⟨fun z => absurd z (by decide), fun _ => ⟨fun _ => ⟨p, x, by rw [ep], by omega, by omega, q_183 ?_⟩, fun z => absurd rfl z⟩⟩⟩⟩⟩
      rw [show 182 + 9 * p + x = 182 + (9 * p + x) by omega, NM_kn hN j45, c9, fw_s (x := A 55 (9 * p + x)) (by omega) (by omega)]
      have eo : ob A x ((11 : Int) - 7, σ 95 (234 + (4 * t.toNat + 1))) = decide (A 55 (9 * p + x) = 9) := by
        unfold ob
        rw [if_neg (show ¬ ((11 : Int) - 7, σ 95 (234 + (4 * t.toNat + 1))).1 = 3 by show ¬ (11 : Int) - 7 = 3; decide), if_pos (show ((11 : Int) - 7, σ 95 (234 + (4 * t.toNat + 1))).1 = 4 from rfl)]
        show decide (A 55 (9 * (σ 95 (234 + (4 * t.toNat + 1))).toNat + x) = 9) = _
        rw [ep, Int.toNat_natCast]
      rw [eo] at h
      refine ⟨fun z => ⟨fw_01, ?_⟩, fun z => ⟨fw_11, ?_⟩⟩
      · rw [decide_eq_false z] at h
        exact h
      · rw [decide_eq_true z] at h
        exact h
    · replace hq : vs A (5, σ 95 (234 + (4 * t.toNat + 1))) := hq
      have hc : 0 ≤ σ 95 (234 + (4 * t.toNat + 1)) ∧ σ 95 (234 + (4 * t.toNat + 1)) < A 49 11 := by
        rcases hq with ⟨a, -⟩ | ⟨a, -⟩ | ⟨a, -⟩ | ⟨-, a, b⟩ | ⟨a, -⟩
        · replace a : 0 ≤ (5 : Int) ∧ (5 : Int) ≤ 2 := a
          omega
        · exact absurd a (by simp)
        · exact absurd a (by simp)
        · exact ⟨a, b⟩
        · replace a : 6 ≤ (5 : Int) ∧ (5 : Int) ≤ 17 := a
          omega
      obtain ⟨p, ep⟩ := Int.eq_ofNat_of_zero_le hc.1
      refine ⟨r1, r2, r0, fun z => absurd z (by decide), fun _ => ⟨fun z => absurd z (by decide), fun _ => ⟨fun z => absurd z (by decide), fun _ => ⟨fun z => absurd z (by decide), fun _ => ⟨fun z => absurd z (by decide), fun _ => ⟨fun _ => ⟨A, p, x, 3, 0, by rw [ep]; rfl, hN, by omega, hx, by decide, by decide, q_203 ⟨fw_bo_in, ?_⟩⟩, fun z => absurd rfl z⟩⟩⟩⟩⟩⟩
      have eo : ob A x ((12 : Int) - 7, σ 95 (234 + (4 * t.toNat + 1))) = decide (3 ≤ pr_cs A (p : Int) (x : Int) 0 9 0) := by
        unfold ob
        rw [if_neg (show ¬ ((12 : Int) - 7, σ 95 (234 + (4 * t.toNat + 1))).1 = 3 by show ¬ (12 : Int) - 7 = 3; decide), if_neg (show ¬ ((12 : Int) - 7, σ 95 (234 + (4 * t.toNat + 1))).1 = 4 by show ¬ (12 : Int) - 7 = 4; decide), if_pos (show ((12 : Int) - 7, σ 95 (234 + (4 * t.toNat + 1))).1 = 5 from rfl)]
        show decide (3 ≤ pr_cs A (σ 95 (234 + (4 * t.toNat + 1))) (x : Int) 0 9 0) = _
        rw [ep]
      rw [eo] at h
      by_cases c : 3 ≤ pr_cs A (p : Int) (x : Int) 0 9 0
      · rw [decide_eq_true c] at h
        rw [show fw_bo (3 ≤ pr_cs A (p : Int) (x : Int) (((0 : Nat) : Int)) 9 0) = 1 from fw_bo_t c]
        exact h
      · rw [decide_eq_false c] at h
        rw [show fw_bo (3 ≤ pr_cs A (p : Int) (x : Int) (((0 : Nat) : Int)) 9 0) = 0 from fw_bo_f c]
        exact h
  · replace e1 : σ 95 (234 + 4 * t.toNat) = 50 + w := e1
    replace e3 : σ 95 (234 + (4 * t.toNat + 3)) = r := e3
    replace eL : L = [(6 + 3 * (w - 13) + (r - 60), σ 95 (234 + (4 * t.toNat + 2)))] := eL
    have hq : vs A (6 + 3 * (w - 13) + (r - 60), σ 95 (234 + (4 * t.toNat + 2))) := hv _ (by rw [eL]; exact List.mem_cons_self)
    have cb : fw_c (σ 95 (234 + (4 * t.toNat + 2))) = σ 95 (234 + (4 * t.toNat + 2)) := (vs_c nn hq).2
    have en : ns (fun j => σ 95 (234 + j)) t = (6 + 3 * (w - 13) + (r - 60), σ 95 (234 + (4 * t.toNat + 2))) := by
      have e2 : ns (fun j => σ 95 (234 + j)) t = if σ 95 (234 + 4 * t.toNat) ≤ 62 then (σ 95 (234 + 4 * t.toNat) - 57, σ 95 (234 + (4 * t.toNat + 1))) else (6 + 3 * (σ 95 (234 + 4 * t.toNat) - 63) + (σ 95 (234 + (4 * t.toNat + 3)) - 60), σ 95 (234 + (4 * t.toNat + 2))) := rfl
      rw [e2, if_neg (by omega), e1, e3, show (50 : Int) + w - 63 = w - 13 by omega]
    rw [if_neg (by omega), if_neg (by omega), if_neg (by omega), en] at h
    have e : fw_c (σ 95 (234 + 4 * t.toNat)) = 50 + w := by rw [e1]; exact fw_s (by omega) (by omega)
    rw [e]
    have mb := v_meas_b hN.1 hN.2.1 hx (w - 13)
    have cm : fw_c (v_meas A x (w - 13)) = v_meas A x (w - 13) := fw_s (by omega) (by omega)
    have cr : fw_c r = r := fw_s (by omega) (by omega)
    have c60 : fw_c 60 = 60 := fw_s (by decide) (by decide)
    have c61 : fw_c 61 = 61 := fw_s (by decide) (by decide)
    have eo : ob A x (6 + 3 * (w - 13) + (r - 60), σ 95 (234 + (4 * t.toNat + 2))) = if r = 60 then decide (v_meas A x (w - 13) < σ 95 (234 + (4 * t.toNat + 2))) else if r = 61 then decide (v_meas A x (w - 13) = σ 95 (234 + (4 * t.toNat + 2))) else decide (σ 95 (234 + (4 * t.toNat + 2)) < v_meas A x (w - 13)) := by
      unfold ob
      show (if 6 + 3 * (w - 13) + (r - 60) = 3 then pr_hs (v_set A (σ 95 (234 + (4 * t.toNat + 2)))) (x : Int) else if 6 + 3 * (w - 13) + (r - 60) = 4 then decide (A 55 (9 * (σ 95 (234 + (4 * t.toNat + 2))).toNat + x) = 9) else if 6 + 3 * (w - 13) + (r - 60) = 5 then decide (3 ≤ pr_cs A (σ 95 (234 + (4 * t.toNat + 2))) (x : Int) 0 9 0) else if (6 + 3 * (w - 13) + (r - 60) - 6) % 3 = 0 then decide (v_meas A x ((6 + 3 * (w - 13) + (r - 60) - 6) / 3) < σ 95 (234 + (4 * t.toNat + 2))) else if (6 + 3 * (w - 13) + (r - 60) - 6) % 3 = 1 then decide (v_meas A x ((6 + 3 * (w - 13) + (r - 60) - 6) / 3) = σ 95 (234 + (4 * t.toNat + 2))) else decide (σ 95 (234 + (4 * t.toNat + 2)) < v_meas A x ((6 + 3 * (w - 13) + (r - 60) - 6) / 3))) = _
      rw [show (6 + 3 * (w - 13) + (r - 60) - 6) / 3 = w - 13 by omega, show (6 + 3 * (w - 13) + (r - 60) - 6) % 3 = r - 60 by omega, if_neg (by omega), if_neg (by omega), if_neg (by omega)]
      by_cases y0 : r = 60
      · rw [if_pos (show r - 60 = 0 by omega), if_pos y0]
      rw [if_neg (show ¬ r - 60 = 0 by omega), if_neg y0]
      by_cases y1 : r = 61
      · rw [if_pos (show r - 60 = 1 by omega), if_pos y1]
      rw [if_neg (show ¬ r - 60 = 1 by omega), if_neg y1]
    rw [eo] at h
    refine ⟨r1, r2, r0, fun z => absurd z (by omega), fun _ => ⟨fun z => absurd z (by omega), fun _ => ⟨fun z => absurd z (by omega), fun _ => ⟨fun z => absurd z (by omega), fun _ => ⟨fun z => absurd z (by omega), fun _ => ⟨fun z => absurd z (by omega), fun _ => ⟨r0, A, x, _, rfl, hN, hx, ⟨by omega, by omega⟩, q_221 ?_⟩⟩⟩⟩⟩⟩⟩
    rw [show σ 95 (234 + 4 * t.toNat) - 50 - 13 = w - 13 by omega, a3, n3, e3, cr, c60, c61, cb, cm]
    refine ⟨r3, fun z => ⟨r3, fun z1 => ⟨fun y => ⟨fw_01, ?_⟩, fun y => ⟨fw_11, ?_⟩⟩, fun z1 => ⟨fun y => ⟨fw_01, ?_⟩, fun y => ⟨fw_11, ?_⟩⟩⟩, fun z => ⟨fun y => ⟨fw_01, ?_⟩, fun y => ⟨fw_11, ?_⟩⟩⟩
    · rw [if_neg z, if_neg z1, decide_eq_false (by omega)] at h
      exact h
    · rw [if_neg z, if_neg z1, decide_eq_true y] at h
      exact h
    · rw [if_neg z, if_pos z1, decide_eq_false y] at h
      exact h
    · rw [if_neg z, if_pos z1, decide_eq_true y] at h
      exact h
    · rw [if_pos z, decide_eq_false (by omega)] at h
      exact h
    · rw [if_pos z, decide_eq_true y] at h
      exact h
abbrev fk_m_holds1 : List fw_CR := [(216, 2, false, 0, 0, sp_m_has), (277, 2, true, 11, 2, sp_m_tell), (284, 2, true, 11, 0, sp_m_known), (294, 4, true, 11, 4, sp_m_areLike), (525, 2, true, 11, 5, sp_m_holds 0)]
abbrev st_m_holds1 : fw_K → fw_KR → fw_K := fw_st vwCl nn_sh nn_kd fw_kv fw_wc (nn_KI20.map (fun x => x.1)) (nn_KJ20.map (fun x => x.1)) (nn_PF20.map (fun x => x.1)) (nn_PS20.map (fun x => x.1)) fk_m_holds1 6 nn_dt351 7 1
theorem fs_m_holds1_0 {G : fw_K} {R : fw_KR} (hG : fw_cls st_m_holds1 R G) {t x : Int} {σ : ab_SG} (h : (0 ≤ fw_c ((234 + (4 * t)) + 1) ∧ fw_c ((234 + (4 * t)) + 1) < ((474 : Nat) : Int)) ∧ ((0 ≤ fw_c ((234 + (4 * t)) + 2) ∧ fw_c ((234 + (4 * t)) + 2) < ((474 : Nat) : Int)) ∧ ((0 ≤ fw_c (234 + (4 * t)) ∧ fw_c (234 + (4 * t)) < ((474 : Nat) : Int)) ∧ ((1 = fw_c (σ 95 (fw_c (234 + (4 * t))).toNat) → (sp_m_holds 0 [(2, 93, 0), (0, 0, σ 95 (fw_c ((234 + (4 * t)) + 1)).toNat), (0, 0, x)] σ (fun rv σ2 => G 99 [some (2, 93, 0), some (0, 0, t), some (0, 0, x), some (0, 0, 234 + (4 * t)), some (0, 0, σ 95 (fw_c ((234 + (4 * t)) + 1)).toNat), some (0, 0, σ 95 (fw_c ((234 + (4 * t)) + 2)).toNat), none] (rv.toList ++ []) σ2))) ∧ (1 ≠ fw_c (σ 95 (fw_c (234 + (4 * t))).toNat) → ((2 = fw_c (σ 95 (fw_c (234 + (4 * t))).toNat) → (sp_m_holds 0 [(2, 93, 0), (0, 0, σ 95 (fw_c ((234 + (4 * t)) + 1)).toNat), (0, 0, x)] σ (fun rv σ2 => G 115 [some (2, 93, 0), some (0, 0, t), some (0, 0, x), some (0, 0, 234 + (4 * t)), some (0, 0, σ 95 (fw_c ((234 + (4 * t)) + 1)).toNat), some (0, 0, σ 95 (fw_c ((234 + (4 * t)) + 2)).toNat), none] (rv.toList ++ []) σ2))) ∧ (2 ≠ fw_c (σ 95 (fw_c (234 + (4 * t))).toNat) → ((3 = fw_c (σ 95 (fw_c (234 + (4 * t))).toNat) → (sp_m_holds 0 [(2, 93, 0), (0, 0, σ 95 (fw_c ((234 + (4 * t)) + 1)).toNat), (0, 0, x)] σ (fun rv σ2 => G 141 [some (2, 93, 0), some (0, 0, t), some (0, 0, x), some (0, 0, 234 + (4 * t)), some (0, 0, σ 95 (fw_c ((234 + (4 * t)) + 1)).toNat), some (0, 0, σ 95 (fw_c ((234 + (4 * t)) + 2)).toNat), none] (rv.toList ++ []) σ2))) ∧ (3 ≠ fw_c (σ 95 (fw_c (234 + (4 * t))).toNat) → ((60 = fw_c (σ 95 (fw_c (234 + (4 * t))).toNat) → ((0 ≤ fw_c (176 + (σ 95 (fw_c ((234 + (4 * t)) + 1)).toNat)) ∧ fw_c (176 + (σ 95 (fw_c ((234 + (4 * t)) + 1)).toNat)) < ((474 : Nat) : Int)) ∧ (sp_m_has [(0, 0, σ 95 (fw_c (176 + (σ 95 (fw_c ((234 + (4 * t)) + 1)).toNat))).toNat), (0, 0, x)] σ (fun rv σ2 => G 175 [some (2, 93, 0), some (0, 0, t), some (0, 0, x), some (0, 0, 234 + (4 * t)), some (0, 0, σ 95 (fw_c ((234 + (4 * t)) + 1)).toNat), some (0, 0, σ 95 (fw_c ((234 + (4 * t)) + 2)).toNat), none] (rv.toList ++ []) σ2)))) ∧ (60 ≠ fw_c (σ 95 (fw_c (234 + (4 * t))).toNat) → ((61 = fw_c (σ 95 (fw_c (234 + (4 * t))).toNat) → (sp_m_known [(2, 93, 0), (0, 0, σ 95 (fw_c ((234 + (4 * t)) + 1)).toNat), (0, 0, x)] σ (fun rv σ2 => G 183 [some (2, 93, 0), some (0, 0, t), some (0, 0, x), some (0, 0, 234 + (4 * t)), some (0, 0, σ 95 (fw_c ((234 + (4 * t)) + 1)).toNat), some (0, 0, σ 95 (fw_c ((234 + (4 * t)) + 2)).toNat), none] (rv.toList ++ []) σ2))) ∧ (61 ≠ fw_c (σ 95 (fw_c (234 + (4 * t))).toNat) → ((62 = fw_c (σ 95 (fw_c (234 + (4 * t))).toNat) → (sp_m_areLike [(2, 93, 0), (0, 0, σ 95 (fw_c ((234 + (4 * t)) + 1)).toNat), (0, 0, x), (0, 0, 3), (0, 0, 0)] σ (fun rv σ2 => G 203 [some (2, 93, 0), some (0, 0, t), some (0, 0, x), some (0, 0, 234 + (4 * t)), some (0, 0, σ 95 (fw_c ((234 + (4 * t)) + 1)).toNat), some (0, 0, σ 95 (fw_c ((234 + (4 * t)) + 2)).toNat), none] (rv.toList ++ []) σ2))) ∧ (62 ≠ fw_c (σ 95 (fw_c (234 + (4 * t))).toNat) → ((0 ≤ fw_c (234 + (4 * t)) ∧ fw_c (234 + (4 * t)) < ((474 : Nat) : Int)) ∧ (sp_m_tell [(2, 93, 0), (0, 0, x), (0, 0, ((σ 95 (fw_c (234 + (4 * t))).toNat) - 50) - 13)] σ (fun rv σ2 => G 221 [some (2, 93, 0), some (0, 0, t), some (0, 0, x), some (0, 0, 234 + (4 * t)), some (0, 0, σ 95 (fw_c ((234 + (4 * t)) + 1)).toNat), some (0, 0, σ 95 (fw_c ((234 + (4 * t)) + 2)).toNat), none] (rv.toList ++ []) σ2)))))))))))))))))) : G 0 [some (2, 93, 0), some (0, 0, t), some (0, 0, x), none, none, none, none] [] σ := fw_on hG [99, 115, 125, 141, 151, 175, 183, 203, 221] 200 h
theorem fs_m_holds1_221 {G : fw_K} {R : fw_KR} (hG : fw_cls st_m_holds1 R G) {a1 a2 a3 a4 a5 b0 : Int} {σ : ab_SG} (h : (0 ≤ fw_c (a3 + 3) ∧ fw_c (a3 + 3) < ((474 : Nat) : Int)) ∧ ((fw_c (σ 95 (fw_c (a3 + 3)).toNat) ≠ fw_c 60 → (0 ≤ fw_c (a3 + 3) ∧ fw_c (a3 + 3) < ((474 : Nat) : Int)) ∧ ((fw_c (σ 95 (fw_c (a3 + 3)).toNat) ≠ fw_c 61 → (fw_c b0 ≤ fw_c a5 → (0 ≤ fw_c 0 ∧ fw_c 0 ≤ 1) ∧ R (some (0, 0, 0)) σ) ∧ (fw_c a5 < fw_c b0 → (0 ≤ fw_c 1 ∧ fw_c 1 ≤ 1) ∧ R (some (0, 0, 1)) σ)) ∧ (fw_c (σ 95 (fw_c (a3 + 3)).toNat) = fw_c 61 → (fw_c b0 ≠ fw_c a5 → (0 ≤ fw_c 0 ∧ fw_c 0 ≤ 1) ∧ R (some (0, 0, 0)) σ) ∧ (fw_c b0 = fw_c a5 → (0 ≤ fw_c 1 ∧ fw_c 1 ≤ 1) ∧ R (some (0, 0, 1)) σ)))) ∧ (fw_c (σ 95 (fw_c (a3 + 3)).toNat) = fw_c 60 → (fw_c a5 ≤ fw_c b0 → (0 ≤ fw_c 0 ∧ fw_c 0 ≤ 1) ∧ R (some (0, 0, 0)) σ) ∧ (fw_c b0 < fw_c a5 → (0 ≤ fw_c 1 ∧ fw_c 1 ≤ 1) ∧ R (some (0, 0, 1)) σ)))) : G 221 [some (2, 93, 0), some (0, 0, a1), some (0, 0, a2), some (0, 0, a3), some (0, 0, a4), some (0, 0, a5), none] [(0, 0, b0)] σ := fw_on hG [99, 115, 125, 141, 151, 175, 183, 203, 221] 200 h
theorem fs_m_holds1_203 {G : fw_K} {R : fw_KR} (hG : fw_cls st_m_holds1 R G) {a1 a2 a3 a4 a5 b0 : Int} {σ : ab_SG} (h : (0 ≤ fw_c b0 ∧ fw_c b0 ≤ 1) ∧ R (some (0, 0, b0)) σ) : G 203 [some (2, 93, 0), some (0, 0, a1), some (0, 0, a2), some (0, 0, a3), some (0, 0, a4), some (0, 0, a5), none] [(0, 0, b0)] σ := fw_on hG [99, 115, 125, 141, 151, 175, 183, 203, 221] 200 h
theorem fs_m_holds1_183 {G : fw_K} {R : fw_KR} (hG : fw_cls st_m_holds1 R G) {a1 a2 a3 a4 a5 b0 : Int} {σ : ab_SG} (h : (fw_c b0 ≠ fw_c 9 → (0 ≤ fw_c 0 ∧ fw_c 0 ≤ 1) ∧ R (some (0, 0, 0)) σ) ∧ (fw_c b0 = fw_c 9 → (0 ≤ fw_c 1 ∧ fw_c 1 ≤ 1) ∧ R (some (0, 0, 1)) σ)) : G 183 [some (2, 93, 0), some (0, 0, a1), some (0, 0, a2), some (0, 0, a3), some (0, 0, a4), some (0, 0, a5), none] [(0, 0, b0)] σ := fw_on hG [99, 115, 125, 141, 151, 175, 183, 203, 221] 200 h
theorem fs_m_holds1_175 {G : fw_K} {R : fw_KR} (hG : fw_cls st_m_holds1 R G) {a1 a2 a3 a4 a5 b0 : Int} {σ : ab_SG} (h : (0 ≤ fw_c b0 ∧ fw_c b0 ≤ 1) ∧ R (some (0, 0, b0)) σ) : G 175 [some (2, 93, 0), some (0, 0, a1), some (0, 0, a2), some (0, 0, a3), some (0, 0, a4), some (0, 0, a5), none] [(0, 0, b0)] σ := fw_on hG [99, 115, 125, 141, 151, 175, 183, 203, 221] 200 h
theorem fs_m_holds1_141 {G : fw_K} {R : fw_KR} (hG : fw_cls st_m_holds1 R G) {a1 a2 a3 a4 a5 b0 : Int} {σ : ab_SG} (h : (fw_c b0 ≠ 0 → (0 ≤ fw_c 1 ∧ fw_c 1 ≤ 1) ∧ R (some (0, 0, 1)) σ) ∧ (fw_c b0 = 0 → sp_m_holds 0 [(2, 93, 0), (0, 0, a5), (0, 0, a2)] σ (fun rv σ2 => G 151 [some (2, 93, 0), some (0, 0, a1), some (0, 0, a2), some (0, 0, a3), some (0, 0, a4), some (0, 0, a5), none] (rv.toList ++ []) σ2))) : G 141 [some (2, 93, 0), some (0, 0, a1), some (0, 0, a2), some (0, 0, a3), some (0, 0, a4), some (0, 0, a5), none] [(0, 0, b0)] σ := fw_on hG [99, 115, 125, 141, 151, 175, 183, 203, 221] 200 h
theorem fs_m_holds1_115 {G : fw_K} {R : fw_KR} (hG : fw_cls st_m_holds1 R G) {a1 a2 a3 a4 a5 b0 : Int} {σ : ab_SG} (h : (fw_c b0 = 0 → (0 ≤ fw_c 0 ∧ fw_c 0 ≤ 1) ∧ R (some (0, 0, 0)) σ) ∧ (fw_c b0 ≠ 0 → sp_m_holds 0 [(2, 93, 0), (0, 0, a5), (0, 0, a2)] σ (fun rv σ2 => G 125 [some (2, 93, 0), some (0, 0, a1), some (0, 0, a2), some (0, 0, a3), some (0, 0, a4), some (0, 0, a5), none] (rv.toList ++ []) σ2))) : G 115 [some (2, 93, 0), some (0, 0, a1), some (0, 0, a2), some (0, 0, a3), some (0, 0, a4), some (0, 0, a5), none] [(0, 0, b0)] σ := fw_on hG [99, 115, 125, 141, 151, 175, 183, 203, 221] 200 h
theorem fs_m_holds1_99 {G : fw_K} {R : fw_KR} (hG : fw_cls st_m_holds1 R G) {a1 a2 a3 a4 a5 b0 : Int} {σ : ab_SG} (h : (fw_c b0 ≠ 0 → (0 ≤ fw_c 0 ∧ fw_c 0 ≤ 1) ∧ R (some (0, 0, 0)) σ) ∧ (fw_c b0 = 0 → (0 ≤ fw_c 1 ∧ fw_c 1 ≤ 1) ∧ R (some (0, 0, 1)) σ)) : G 99 [some (2, 93, 0), some (0, 0, a1), some (0, 0, a2), some (0, 0, a3), some (0, 0, a4), some (0, 0, a5), none] [(0, 0, b0)] σ := fw_on hG [99, 115, 125, 141, 151, 175, 183, 203, 221] 200 h
theorem fs_m_holds1_151 {G : fw_K} {R : fw_KR} (hG : fw_cls st_m_holds1 R G) {a1 a2 a3 a4 a5 b0 : Int} {σ : ab_SG} (h : (fw_c b0 = 0 → (0 ≤ fw_c 0 ∧ fw_c 0 ≤ 1) ∧ R (some (0, 0, 0)) σ) ∧ (fw_c b0 ≠ 0 → (0 ≤ fw_c 1 ∧ fw_c 1 ≤ 1) ∧ R (some (0, 0, 1)) σ)) : G 151 [some (2, 93, 0), some (0, 0, a1), some (0, 0, a2), some (0, 0, a3), some (0, 0, a4), some (0, 0, a5), none] [(0, 0, b0)] σ := fw_on hG [99, 115, 125, 141, 151, 175, 183, 203, 221] 200 h
theorem fs_m_holds1_125 {G : fw_K} {R : fw_KR} (hG : fw_cls st_m_holds1 R G) {a1 a2 a3 a4 a5 b0 : Int} {σ : ab_SG} (h : (fw_c b0 = 0 → (0 ≤ fw_c 0 ∧ fw_c 0 ≤ 1) ∧ R (some (0, 0, 0)) σ) ∧ (fw_c b0 ≠ 0 → (0 ≤ fw_c 1 ∧ fw_c 1 ≤ 1) ∧ R (some (0, 0, 1)) σ)) : G 125 [some (2, 93, 0), some (0, 0, a1), some (0, 0, a2), some (0, 0, a3), some (0, 0, a4), some (0, 0, a5), none] [(0, 0, b0)] σ := fw_on hG [99, 115, 125, 141, 151, 175, 183, 203, 221] 200 h
section
variable {l : Launch} {cy : Nat → ClassId} {ad wr cr : Nat → Nat} {D : va_G}
theorem fm_m_holds1 (hinj : nn_inj ad) : fw_H l cy ad wr cr D 351 6 (sp_m_holds 1) := fw_mk hinj (⟨"NameNotesModel", "holds", "(II)Z"⟩, prog_14_method_148_code, 7, (Option.some Jvm.ClassFile.FieldType.boolean), 2, true, 1) rfl rfl nn_KI20_ok nn_KJ20_ok nn_PF20_ok nn_PS20_ok (by decide +kernel) rfl rfl (List.forall_mem_cons.mpr ⟨fw_row nn_PM20_ok (x := 216) (k := 0) (mn := 230) (np := 2) (ob := false) (ci := 0) (⟨"NameNotesModel", "has", "(II)Z"⟩, prog_14_method_9_code, 2, (Option.some Jvm.ClassFile.FieldType.boolean), 2, false, 1) rfl (by decide +kernel) rfl rfl (by decide) (fun q => by cases q) (fm_m_has hinj), (List.forall_mem_cons.mpr ⟨fw_row nn_PM20_ok (x := 277) (k := 0) (mn := 244) (np := 2) (ob := true) (ci := 11) (⟨"NameNotesModel", "tell", "(II)I"⟩, prog_14_method_50_code, 6, (Option.some Jvm.ClassFile.FieldType.int), 2, true, 0) rfl (by decide +kernel) rfl rfl (by decide) (fun _ => ⟨_, _, rfl⟩) (fm_m_tell hinj), (List.forall_mem_cons.mpr ⟨fw_row nn_PM20_ok (x := 284) (k := 0) (mn := 250) (np := 2) (ob := true) (ci := 11) (⟨"NameNotesModel", "known", "(II)I"⟩, prog_14_method_54_code, 3, (Option.some Jvm.ClassFile.FieldType.int), 2, true, 0) rfl (by decide +kernel) rfl rfl (by decide) (fun _ => ⟨_, _, rfl⟩) (fm_m_known hinj), (List.forall_mem_cons.mpr ⟨fw_row nn_PM20_ok (x := 294) (k := 0) (mn := 257) (np := 4) (ob := true) (ci := 11) (⟨"NameNotesModel", "areLike", "(IIII)Z"⟩, prog_14_method_59_code, 5, (Option.some Jvm.ClassFile.FieldType.boolean), 4, true, 1) rfl (by decide +kernel) rfl rfl (by decide) (fun _ => ⟨_, _, rfl⟩) (fm_m_areLike hinj), (List.forall_mem_cons.mpr ⟨fw_row nn_PM20_ok (x := 525) (k := 0) (mn := 351) (np := 2) (ob := true) (ci := 11) (⟨"NameNotesModel", "holds", "(II)Z"⟩, prog_14_method_148_code, 7, (Option.some Jvm.ClassFile.FieldType.boolean), 2, true, 1) rfl (by decide +kernel) rfl rfl (by decide) (fun _ => ⟨_, _, rfl⟩) (fm_m_holds0 hinj), (fun _ h => absurd h List.not_mem_nil)⟩)⟩)⟩)⟩)⟩) (fun as σ K h => by
  obtain ⟨A, x, t, L, rfl, hN, hx, H, hv, h⟩ := h
  exact ⟨rfl, fun G hG => mh_core hN hx H hv h (fs_m_holds1_0 hG) (fs_m_holds1_221 hG) (fs_m_holds1_203 hG) (fs_m_holds1_183 hG) (fs_m_holds1_175 hG) (fs_m_holds1_141 hG) (fs_m_holds1_115 hG) (fs_m_holds1_99 hG) (fs_m_holds1_151 hG) (fs_m_holds1_125 hG)⟩)
end
abbrev fk_m_holds2 : List fw_CR := [(216, 2, false, 0, 0, sp_m_has), (277, 2, true, 11, 2, sp_m_tell), (284, 2, true, 11, 0, sp_m_known), (294, 4, true, 11, 4, sp_m_areLike), (525, 2, true, 11, 6, sp_m_holds 1)]
abbrev st_m_holds2 : fw_K → fw_KR → fw_K := fw_st vwCl nn_sh nn_kd fw_kv fw_wc (nn_KI20.map (fun x => x.1)) (nn_KJ20.map (fun x => x.1)) (nn_PF20.map (fun x => x.1)) (nn_PS20.map (fun x => x.1)) fk_m_holds2 7 nn_dt351 7 1
theorem fs_m_holds2_0 {G : fw_K} {R : fw_KR} (hG : fw_cls st_m_holds2 R G) {t x : Int} {σ : ab_SG} (h : (0 ≤ fw_c ((234 + (4 * t)) + 1) ∧ fw_c ((234 + (4 * t)) + 1) < ((474 : Nat) : Int)) ∧ ((0 ≤ fw_c ((234 + (4 * t)) + 2) ∧ fw_c ((234 + (4 * t)) + 2) < ((474 : Nat) : Int)) ∧ ((0 ≤ fw_c (234 + (4 * t)) ∧ fw_c (234 + (4 * t)) < ((474 : Nat) : Int)) ∧ ((1 = fw_c (σ 95 (fw_c (234 + (4 * t))).toNat) → (sp_m_holds 1 [(2, 93, 0), (0, 0, σ 95 (fw_c ((234 + (4 * t)) + 1)).toNat), (0, 0, x)] σ (fun rv σ2 => G 99 [some (2, 93, 0), some (0, 0, t), some (0, 0, x), some (0, 0, 234 + (4 * t)), some (0, 0, σ 95 (fw_c ((234 + (4 * t)) + 1)).toNat), some (0, 0, σ 95 (fw_c ((234 + (4 * t)) + 2)).toNat), none] (rv.toList ++ []) σ2))) ∧ (1 ≠ fw_c (σ 95 (fw_c (234 + (4 * t))).toNat) → ((2 = fw_c (σ 95 (fw_c (234 + (4 * t))).toNat) → (sp_m_holds 1 [(2, 93, 0), (0, 0, σ 95 (fw_c ((234 + (4 * t)) + 1)).toNat), (0, 0, x)] σ (fun rv σ2 => G 115 [some (2, 93, 0), some (0, 0, t), some (0, 0, x), some (0, 0, 234 + (4 * t)), some (0, 0, σ 95 (fw_c ((234 + (4 * t)) + 1)).toNat), some (0, 0, σ 95 (fw_c ((234 + (4 * t)) + 2)).toNat), none] (rv.toList ++ []) σ2))) ∧ (2 ≠ fw_c (σ 95 (fw_c (234 + (4 * t))).toNat) → ((3 = fw_c (σ 95 (fw_c (234 + (4 * t))).toNat) → (sp_m_holds 1 [(2, 93, 0), (0, 0, σ 95 (fw_c ((234 + (4 * t)) + 1)).toNat), (0, 0, x)] σ (fun rv σ2 => G 141 [some (2, 93, 0), some (0, 0, t), some (0, 0, x), some (0, 0, 234 + (4 * t)), some (0, 0, σ 95 (fw_c ((234 + (4 * t)) + 1)).toNat), some (0, 0, σ 95 (fw_c ((234 + (4 * t)) + 2)).toNat), none] (rv.toList ++ []) σ2))) ∧ (3 ≠ fw_c (σ 95 (fw_c (234 + (4 * t))).toNat) → ((60 = fw_c (σ 95 (fw_c (234 + (4 * t))).toNat) → ((0 ≤ fw_c (176 + (σ 95 (fw_c ((234 + (4 * t)) + 1)).toNat)) ∧ fw_c (176 + (σ 95 (fw_c ((234 + (4 * t)) + 1)).toNat)) < ((474 : Nat) : Int)) ∧ (sp_m_has [(0, 0, σ 95 (fw_c (176 + (σ 95 (fw_c ((234 + (4 * t)) + 1)).toNat))).toNat), (0, 0, x)] σ (fun rv σ2 => G 175 [some (2, 93, 0), some (0, 0, t), some (0, 0, x), some (0, 0, 234 + (4 * t)), some (0, 0, σ 95 (fw_c ((234 + (4 * t)) + 1)).toNat), some (0, 0, σ 95 (fw_c ((234 + (4 * t)) + 2)).toNat), none] (rv.toList ++ []) σ2)))) ∧ (60 ≠ fw_c (σ 95 (fw_c (234 + (4 * t))).toNat) → ((61 = fw_c (σ 95 (fw_c (234 + (4 * t))).toNat) → (sp_m_known [(2, 93, 0), (0, 0, σ 95 (fw_c ((234 + (4 * t)) + 1)).toNat), (0, 0, x)] σ (fun rv σ2 => G 183 [some (2, 93, 0), some (0, 0, t), some (0, 0, x), some (0, 0, 234 + (4 * t)), some (0, 0, σ 95 (fw_c ((234 + (4 * t)) + 1)).toNat), some (0, 0, σ 95 (fw_c ((234 + (4 * t)) + 2)).toNat), none] (rv.toList ++ []) σ2))) ∧ (61 ≠ fw_c (σ 95 (fw_c (234 + (4 * t))).toNat) → ((62 = fw_c (σ 95 (fw_c (234 + (4 * t))).toNat) → (sp_m_areLike [(2, 93, 0), (0, 0, σ 95 (fw_c ((234 + (4 * t)) + 1)).toNat), (0, 0, x), (0, 0, 3), (0, 0, 0)] σ (fun rv σ2 => G 203 [some (2, 93, 0), some (0, 0, t), some (0, 0, x), some (0, 0, 234 + (4 * t)), some (0, 0, σ 95 (fw_c ((234 + (4 * t)) + 1)).toNat), some (0, 0, σ 95 (fw_c ((234 + (4 * t)) + 2)).toNat), none] (rv.toList ++ []) σ2))) ∧ (62 ≠ fw_c (σ 95 (fw_c (234 + (4 * t))).toNat) → ((0 ≤ fw_c (234 + (4 * t)) ∧ fw_c (234 + (4 * t)) < ((474 : Nat) : Int)) ∧ (sp_m_tell [(2, 93, 0), (0, 0, x), (0, 0, ((σ 95 (fw_c (234 + (4 * t))).toNat) - 50) - 13)] σ (fun rv σ2 => G 221 [some (2, 93, 0), some (0, 0, t), some (0, 0, x), some (0, 0, 234 + (4 * t)), some (0, 0, σ 95 (fw_c ((234 + (4 * t)) + 1)).toNat), some (0, 0, σ 95 (fw_c ((234 + (4 * t)) + 2)).toNat), none] (rv.toList ++ []) σ2)))))))))))))))))) : G 0 [some (2, 93, 0), some (0, 0, t), some (0, 0, x), none, none, none, none] [] σ := fw_on hG [99, 115, 125, 141, 151, 175, 183, 203, 221] 200 h
theorem fs_m_holds2_221 {G : fw_K} {R : fw_KR} (hG : fw_cls st_m_holds2 R G) {a1 a2 a3 a4 a5 b0 : Int} {σ : ab_SG} (h : (0 ≤ fw_c (a3 + 3) ∧ fw_c (a3 + 3) < ((474 : Nat) : Int)) ∧ ((fw_c (σ 95 (fw_c (a3 + 3)).toNat) ≠ fw_c 60 → (0 ≤ fw_c (a3 + 3) ∧ fw_c (a3 + 3) < ((474 : Nat) : Int)) ∧ ((fw_c (σ 95 (fw_c (a3 + 3)).toNat) ≠ fw_c 61 → (fw_c b0 ≤ fw_c a5 → (0 ≤ fw_c 0 ∧ fw_c 0 ≤ 1) ∧ R (some (0, 0, 0)) σ) ∧ (fw_c a5 < fw_c b0 → (0 ≤ fw_c 1 ∧ fw_c 1 ≤ 1) ∧ R (some (0, 0, 1)) σ)) ∧ (fw_c (σ 95 (fw_c (a3 + 3)).toNat) = fw_c 61 → (fw_c b0 ≠ fw_c a5 → (0 ≤ fw_c 0 ∧ fw_c 0 ≤ 1) ∧ R (some (0, 0, 0)) σ) ∧ (fw_c b0 = fw_c a5 → (0 ≤ fw_c 1 ∧ fw_c 1 ≤ 1) ∧ R (some (0, 0, 1)) σ)))) ∧ (fw_c (σ 95 (fw_c (a3 + 3)).toNat) = fw_c 60 → (fw_c a5 ≤ fw_c b0 → (0 ≤ fw_c 0 ∧ fw_c 0 ≤ 1) ∧ R (some (0, 0, 0)) σ) ∧ (fw_c b0 < fw_c a5 → (0 ≤ fw_c 1 ∧ fw_c 1 ≤ 1) ∧ R (some (0, 0, 1)) σ)))) : G 221 [some (2, 93, 0), some (0, 0, a1), some (0, 0, a2), some (0, 0, a3), some (0, 0, a4), some (0, 0, a5), none] [(0, 0, b0)] σ := fw_on hG [99, 115, 125, 141, 151, 175, 183, 203, 221] 200 h
theorem fs_m_holds2_203 {G : fw_K} {R : fw_KR} (hG : fw_cls st_m_holds2 R G) {a1 a2 a3 a4 a5 b0 : Int} {σ : ab_SG} (h : (0 ≤ fw_c b0 ∧ fw_c b0 ≤ 1) ∧ R (some (0, 0, b0)) σ) : G 203 [some (2, 93, 0), some (0, 0, a1), some (0, 0, a2), some (0, 0, a3), some (0, 0, a4), some (0, 0, a5), none] [(0, 0, b0)] σ := fw_on hG [99, 115, 125, 141, 151, 175, 183, 203, 221] 200 h
theorem fs_m_holds2_183 {G : fw_K} {R : fw_KR} (hG : fw_cls st_m_holds2 R G) {a1 a2 a3 a4 a5 b0 : Int} {σ : ab_SG} (h : (fw_c b0 ≠ fw_c 9 → (0 ≤ fw_c 0 ∧ fw_c 0 ≤ 1) ∧ R (some (0, 0, 0)) σ) ∧ (fw_c b0 = fw_c 9 → (0 ≤ fw_c 1 ∧ fw_c 1 ≤ 1) ∧ R (some (0, 0, 1)) σ)) : G 183 [some (2, 93, 0), some (0, 0, a1), some (0, 0, a2), some (0, 0, a3), some (0, 0, a4), some (0, 0, a5), none] [(0, 0, b0)] σ := fw_on hG [99, 115, 125, 141, 151, 175, 183, 203, 221] 200 h
theorem fs_m_holds2_175 {G : fw_K} {R : fw_KR} (hG : fw_cls st_m_holds2 R G) {a1 a2 a3 a4 a5 b0 : Int} {σ : ab_SG} (h : (0 ≤ fw_c b0 ∧ fw_c b0 ≤ 1) ∧ R (some (0, 0, b0)) σ) : G 175 [some (2, 93, 0), some (0, 0, a1), some (0, 0, a2), some (0, 0, a3), some (0, 0, a4), some (0, 0, a5), none] [(0, 0, b0)] σ := fw_on hG [99, 115, 125, 141, 151, 175, 183, 203, 221] 200 h
theorem fs_m_holds2_141 {G : fw_K} {R : fw_KR} (hG : fw_cls st_m_holds2 R G) {a1 a2 a3 a4 a5 b0 : Int} {σ : ab_SG} (h : (fw_c b0 ≠ 0 → (0 ≤ fw_c 1 ∧ fw_c 1 ≤ 1) ∧ R (some (0, 0, 1)) σ) ∧ (fw_c b0 = 0 → sp_m_holds 1 [(2, 93, 0), (0, 0, a5), (0, 0, a2)] σ (fun rv σ2 => G 151 [some (2, 93, 0), some (0, 0, a1), some (0, 0, a2), some (0, 0, a3), some (0, 0, a4), some (0, 0, a5), none] (rv.toList ++ []) σ2))) : G 141 [some (2, 93, 0), some (0, 0, a1), some (0, 0, a2), some (0, 0, a3), some (0, 0, a4), some (0, 0, a5), none] [(0, 0, b0)] σ := fw_on hG [99, 115, 125, 141, 151, 175, 183, 203, 221] 200 h
theorem fs_m_holds2_115 {G : fw_K} {R : fw_KR} (hG : fw_cls st_m_holds2 R G) {a1 a2 a3 a4 a5 b0 : Int} {σ : ab_SG} (h : (fw_c b0 = 0 → (0 ≤ fw_c 0 ∧ fw_c 0 ≤ 1) ∧ R (some (0, 0, 0)) σ) ∧ (fw_c b0 ≠ 0 → sp_m_holds 1 [(2, 93, 0), (0, 0, a5), (0, 0, a2)] σ (fun rv σ2 => G 125 [some (2, 93, 0), some (0, 0, a1), some (0, 0, a2), some (0, 0, a3), some (0, 0, a4), some (0, 0, a5), none] (rv.toList ++ []) σ2))) : G 115 [some (2, 93, 0), some (0, 0, a1), some (0, 0, a2), some (0, 0, a3), some (0, 0, a4), some (0, 0, a5), none] [(0, 0, b0)] σ := fw_on hG [99, 115, 125, 141, 151, 175, 183, 203, 221] 200 h
theorem fs_m_holds2_99 {G : fw_K} {R : fw_KR} (hG : fw_cls st_m_holds2 R G) {a1 a2 a3 a4 a5 b0 : Int} {σ : ab_SG} (h : (fw_c b0 ≠ 0 → (0 ≤ fw_c 0 ∧ fw_c 0 ≤ 1) ∧ R (some (0, 0, 0)) σ) ∧ (fw_c b0 = 0 → (0 ≤ fw_c 1 ∧ fw_c 1 ≤ 1) ∧ R (some (0, 0, 1)) σ)) : G 99 [some (2, 93, 0), some (0, 0, a1), some (0, 0, a2), some (0, 0, a3), some (0, 0, a4), some (0, 0, a5), none] [(0, 0, b0)] σ := fw_on hG [99, 115, 125, 141, 151, 175, 183, 203, 221] 200 h
theorem fs_m_holds2_151 {G : fw_K} {R : fw_KR} (hG : fw_cls st_m_holds2 R G) {a1 a2 a3 a4 a5 b0 : Int} {σ : ab_SG} (h : (fw_c b0 = 0 → (0 ≤ fw_c 0 ∧ fw_c 0 ≤ 1) ∧ R (some (0, 0, 0)) σ) ∧ (fw_c b0 ≠ 0 → (0 ≤ fw_c 1 ∧ fw_c 1 ≤ 1) ∧ R (some (0, 0, 1)) σ)) : G 151 [some (2, 93, 0), some (0, 0, a1), some (0, 0, a2), some (0, 0, a3), some (0, 0, a4), some (0, 0, a5), none] [(0, 0, b0)] σ := fw_on hG [99, 115, 125, 141, 151, 175, 183, 203, 221] 200 h
theorem fs_m_holds2_125 {G : fw_K} {R : fw_KR} (hG : fw_cls st_m_holds2 R G) {a1 a2 a3 a4 a5 b0 : Int} {σ : ab_SG} (h : (fw_c b0 = 0 → (0 ≤ fw_c 0 ∧ fw_c 0 ≤ 1) ∧ R (some (0, 0, 0)) σ) ∧ (fw_c b0 ≠ 0 → (0 ≤ fw_c 1 ∧ fw_c 1 ≤ 1) ∧ R (some (0, 0, 1)) σ)) : G 125 [some (2, 93, 0), some (0, 0, a1), some (0, 0, a2), some (0, 0, a3), some (0, 0, a4), some (0, 0, a5), none] [(0, 0, b0)] σ := fw_on hG [99, 115, 125, 141, 151, 175, 183, 203, 221] 200 h
section
variable {l : Launch} {cy : Nat → ClassId} {ad wr cr : Nat → Nat} {D : va_G}
theorem fm_m_holds2 (hinj : nn_inj ad) : fw_H l cy ad wr cr D 351 7 (sp_m_holds 2) := fw_mk hinj (⟨"NameNotesModel", "holds", "(II)Z"⟩, prog_14_method_148_code, 7, (Option.some Jvm.ClassFile.FieldType.boolean), 2, true, 1) rfl rfl nn_KI20_ok nn_KJ20_ok nn_PF20_ok nn_PS20_ok (by decide +kernel) rfl rfl (List.forall_mem_cons.mpr ⟨fw_row nn_PM20_ok (x := 216) (k := 0) (mn := 230) (np := 2) (ob := false) (ci := 0) (⟨"NameNotesModel", "has", "(II)Z"⟩, prog_14_method_9_code, 2, (Option.some Jvm.ClassFile.FieldType.boolean), 2, false, 1) rfl (by decide +kernel) rfl rfl (by decide) (fun q => by cases q) (fm_m_has hinj), (List.forall_mem_cons.mpr ⟨fw_row nn_PM20_ok (x := 277) (k := 0) (mn := 244) (np := 2) (ob := true) (ci := 11) (⟨"NameNotesModel", "tell", "(II)I"⟩, prog_14_method_50_code, 6, (Option.some Jvm.ClassFile.FieldType.int), 2, true, 0) rfl (by decide +kernel) rfl rfl (by decide) (fun _ => ⟨_, _, rfl⟩) (fm_m_tell hinj), (List.forall_mem_cons.mpr ⟨fw_row nn_PM20_ok (x := 284) (k := 0) (mn := 250) (np := 2) (ob := true) (ci := 11) (⟨"NameNotesModel", "known", "(II)I"⟩, prog_14_method_54_code, 3, (Option.some Jvm.ClassFile.FieldType.int), 2, true, 0) rfl (by decide +kernel) rfl rfl (by decide) (fun _ => ⟨_, _, rfl⟩) (fm_m_known hinj), (List.forall_mem_cons.mpr ⟨fw_row nn_PM20_ok (x := 294) (k := 0) (mn := 257) (np := 4) (ob := true) (ci := 11) (⟨"NameNotesModel", "areLike", "(IIII)Z"⟩, prog_14_method_59_code, 5, (Option.some Jvm.ClassFile.FieldType.boolean), 4, true, 1) rfl (by decide +kernel) rfl rfl (by decide) (fun _ => ⟨_, _, rfl⟩) (fm_m_areLike hinj), (List.forall_mem_cons.mpr ⟨fw_row nn_PM20_ok (x := 525) (k := 0) (mn := 351) (np := 2) (ob := true) (ci := 11) (⟨"NameNotesModel", "holds", "(II)Z"⟩, prog_14_method_148_code, 7, (Option.some Jvm.ClassFile.FieldType.boolean), 2, true, 1) rfl (by decide +kernel) rfl rfl (by decide) (fun _ => ⟨_, _, rfl⟩) (fm_m_holds1 hinj), (fun _ h => absurd h List.not_mem_nil)⟩)⟩)⟩)⟩)⟩) (fun as σ K h => by
  obtain ⟨A, x, t, L, rfl, hN, hx, H, hv, h⟩ := h
  exact ⟨rfl, fun G hG => mh_core hN hx H hv h (fs_m_holds2_0 hG) (fs_m_holds2_221 hG) (fs_m_holds2_203 hG) (fs_m_holds2_183 hG) (fs_m_holds2_175 hG) (fs_m_holds2_141 hG) (fs_m_holds2_115 hG) (fs_m_holds2_99 hG) (fs_m_holds2_151 hG) (fs_m_holds2_125 hG)⟩)
end
abbrev fk_m_holds3 : List fw_CR := [(216, 2, false, 0, 0, sp_m_has), (277, 2, true, 11, 2, sp_m_tell), (284, 2, true, 11, 0, sp_m_known), (294, 4, true, 11, 4, sp_m_areLike), (525, 2, true, 11, 7, sp_m_holds 2)]
abbrev st_m_holds3 : fw_K → fw_KR → fw_K := fw_st vwCl nn_sh nn_kd fw_kv fw_wc (nn_KI20.map (fun x => x.1)) (nn_KJ20.map (fun x => x.1)) (nn_PF20.map (fun x => x.1)) (nn_PS20.map (fun x => x.1)) fk_m_holds3 8 nn_dt351 7 1
theorem fs_m_holds3_0 {G : fw_K} {R : fw_KR} (hG : fw_cls st_m_holds3 R G) {t x : Int} {σ : ab_SG} (h : (0 ≤ fw_c ((234 + (4 * t)) + 1) ∧ fw_c ((234 + (4 * t)) + 1) < ((474 : Nat) : Int)) ∧ ((0 ≤ fw_c ((234 + (4 * t)) + 2) ∧ fw_c ((234 + (4 * t)) + 2) < ((474 : Nat) : Int)) ∧ ((0 ≤ fw_c (234 + (4 * t)) ∧ fw_c (234 + (4 * t)) < ((474 : Nat) : Int)) ∧ ((1 = fw_c (σ 95 (fw_c (234 + (4 * t))).toNat) → (sp_m_holds 2 [(2, 93, 0), (0, 0, σ 95 (fw_c ((234 + (4 * t)) + 1)).toNat), (0, 0, x)] σ (fun rv σ2 => G 99 [some (2, 93, 0), some (0, 0, t), some (0, 0, x), some (0, 0, 234 + (4 * t)), some (0, 0, σ 95 (fw_c ((234 + (4 * t)) + 1)).toNat), some (0, 0, σ 95 (fw_c ((234 + (4 * t)) + 2)).toNat), none] (rv.toList ++ []) σ2))) ∧ (1 ≠ fw_c (σ 95 (fw_c (234 + (4 * t))).toNat) → ((2 = fw_c (σ 95 (fw_c (234 + (4 * t))).toNat) → (sp_m_holds 2 [(2, 93, 0), (0, 0, σ 95 (fw_c ((234 + (4 * t)) + 1)).toNat), (0, 0, x)] σ (fun rv σ2 => G 115 [some (2, 93, 0), some (0, 0, t), some (0, 0, x), some (0, 0, 234 + (4 * t)), some (0, 0, σ 95 (fw_c ((234 + (4 * t)) + 1)).toNat), some (0, 0, σ 95 (fw_c ((234 + (4 * t)) + 2)).toNat), none] (rv.toList ++ []) σ2))) ∧ (2 ≠ fw_c (σ 95 (fw_c (234 + (4 * t))).toNat) → ((3 = fw_c (σ 95 (fw_c (234 + (4 * t))).toNat) → (sp_m_holds 2 [(2, 93, 0), (0, 0, σ 95 (fw_c ((234 + (4 * t)) + 1)).toNat), (0, 0, x)] σ (fun rv σ2 => G 141 [some (2, 93, 0), some (0, 0, t), some (0, 0, x), some (0, 0, 234 + (4 * t)), some (0, 0, σ 95 (fw_c ((234 + (4 * t)) + 1)).toNat), some (0, 0, σ 95 (fw_c ((234 + (4 * t)) + 2)).toNat), none] (rv.toList ++ []) σ2))) ∧ (3 ≠ fw_c (σ 95 (fw_c (234 + (4 * t))).toNat) → ((60 = fw_c (σ 95 (fw_c (234 + (4 * t))).toNat) → ((0 ≤ fw_c (176 + (σ 95 (fw_c ((234 + (4 * t)) + 1)).toNat)) ∧ fw_c (176 + (σ 95 (fw_c ((234 + (4 * t)) + 1)).toNat)) < ((474 : Nat) : Int)) ∧ (sp_m_has [(0, 0, σ 95 (fw_c (176 + (σ 95 (fw_c ((234 + (4 * t)) + 1)).toNat))).toNat), (0, 0, x)] σ (fun rv σ2 => G 175 [some (2, 93, 0), some (0, 0, t), some (0, 0, x), some (0, 0, 234 + (4 * t)), some (0, 0, σ 95 (fw_c ((234 + (4 * t)) + 1)).toNat), some (0, 0, σ 95 (fw_c ((234 + (4 * t)) + 2)).toNat), none] (rv.toList ++ []) σ2)))) ∧ (60 ≠ fw_c (σ 95 (fw_c (234 + (4 * t))).toNat) → ((61 = fw_c (σ 95 (fw_c (234 + (4 * t))).toNat) → (sp_m_known [(2, 93, 0), (0, 0, σ 95 (fw_c ((234 + (4 * t)) + 1)).toNat), (0, 0, x)] σ (fun rv σ2 => G 183 [some (2, 93, 0), some (0, 0, t), some (0, 0, x), some (0, 0, 234 + (4 * t)), some (0, 0, σ 95 (fw_c ((234 + (4 * t)) + 1)).toNat), some (0, 0, σ 95 (fw_c ((234 + (4 * t)) + 2)).toNat), none] (rv.toList ++ []) σ2))) ∧ (61 ≠ fw_c (σ 95 (fw_c (234 + (4 * t))).toNat) → ((62 = fw_c (σ 95 (fw_c (234 + (4 * t))).toNat) → (sp_m_areLike [(2, 93, 0), (0, 0, σ 95 (fw_c ((234 + (4 * t)) + 1)).toNat), (0, 0, x), (0, 0, 3), (0, 0, 0)] σ (fun rv σ2 => G 203 [some (2, 93, 0), some (0, 0, t), some (0, 0, x), some (0, 0, 234 + (4 * t)), some (0, 0, σ 95 (fw_c ((234 + (4 * t)) + 1)).toNat), some (0, 0, σ 95 (fw_c ((234 + (4 * t)) + 2)).toNat), none] (rv.toList ++ []) σ2))) ∧ (62 ≠ fw_c (σ 95 (fw_c (234 + (4 * t))).toNat) → ((0 ≤ fw_c (234 + (4 * t)) ∧ fw_c (234 + (4 * t)) < ((474 : Nat) : Int)) ∧ (sp_m_tell [(2, 93, 0), (0, 0, x), (0, 0, ((σ 95 (fw_c (234 + (4 * t))).toNat) - 50) - 13)] σ (fun rv σ2 => G 221 [some (2, 93, 0), some (0, 0, t), some (0, 0, x), some (0, 0, 234 + (4 * t)), some (0, 0, σ 95 (fw_c ((234 + (4 * t)) + 1)).toNat), some (0, 0, σ 95 (fw_c ((234 + (4 * t)) + 2)).toNat), none] (rv.toList ++ []) σ2)))))))))))))))))) : G 0 [some (2, 93, 0), some (0, 0, t), some (0, 0, x), none, none, none, none] [] σ := fw_on hG [99, 115, 125, 141, 151, 175, 183, 203, 221] 200 h
theorem fs_m_holds3_221 {G : fw_K} {R : fw_KR} (hG : fw_cls st_m_holds3 R G) {a1 a2 a3 a4 a5 b0 : Int} {σ : ab_SG} (h : (0 ≤ fw_c (a3 + 3) ∧ fw_c (a3 + 3) < ((474 : Nat) : Int)) ∧ ((fw_c (σ 95 (fw_c (a3 + 3)).toNat) ≠ fw_c 60 → (0 ≤ fw_c (a3 + 3) ∧ fw_c (a3 + 3) < ((474 : Nat) : Int)) ∧ ((fw_c (σ 95 (fw_c (a3 + 3)).toNat) ≠ fw_c 61 → (fw_c b0 ≤ fw_c a5 → (0 ≤ fw_c 0 ∧ fw_c 0 ≤ 1) ∧ R (some (0, 0, 0)) σ) ∧ (fw_c a5 < fw_c b0 → (0 ≤ fw_c 1 ∧ fw_c 1 ≤ 1) ∧ R (some (0, 0, 1)) σ)) ∧ (fw_c (σ 95 (fw_c (a3 + 3)).toNat) = fw_c 61 → (fw_c b0 ≠ fw_c a5 → (0 ≤ fw_c 0 ∧ fw_c 0 ≤ 1) ∧ R (some (0, 0, 0)) σ) ∧ (fw_c b0 = fw_c a5 → (0 ≤ fw_c 1 ∧ fw_c 1 ≤ 1) ∧ R (some (0, 0, 1)) σ)))) ∧ (fw_c (σ 95 (fw_c (a3 + 3)).toNat) = fw_c 60 → (fw_c a5 ≤ fw_c b0 → (0 ≤ fw_c 0 ∧ fw_c 0 ≤ 1) ∧ R (some (0, 0, 0)) σ) ∧ (fw_c b0 < fw_c a5 → (0 ≤ fw_c 1 ∧ fw_c 1 ≤ 1) ∧ R (some (0, 0, 1)) σ)))) : G 221 [some (2, 93, 0), some (0, 0, a1), some (0, 0, a2), some (0, 0, a3), some (0, 0, a4), some (0, 0, a5), none] [(0, 0, b0)] σ := fw_on hG [99, 115, 125, 141, 151, 175, 183, 203, 221] 200 h
theorem fs_m_holds3_203 {G : fw_K} {R : fw_KR} (hG : fw_cls st_m_holds3 R G) {a1 a2 a3 a4 a5 b0 : Int} {σ : ab_SG} (h : (0 ≤ fw_c b0 ∧ fw_c b0 ≤ 1) ∧ R (some (0, 0, b0)) σ) : G 203 [some (2, 93, 0), some (0, 0, a1), some (0, 0, a2), some (0, 0, a3), some (0, 0, a4), some (0, 0, a5), none] [(0, 0, b0)] σ := fw_on hG [99, 115, 125, 141, 151, 175, 183, 203, 221] 200 h
theorem fs_m_holds3_183 {G : fw_K} {R : fw_KR} (hG : fw_cls st_m_holds3 R G) {a1 a2 a3 a4 a5 b0 : Int} {σ : ab_SG} (h : (fw_c b0 ≠ fw_c 9 → (0 ≤ fw_c 0 ∧ fw_c 0 ≤ 1) ∧ R (some (0, 0, 0)) σ) ∧ (fw_c b0 = fw_c 9 → (0 ≤ fw_c 1 ∧ fw_c 1 ≤ 1) ∧ R (some (0, 0, 1)) σ)) : G 183 [some (2, 93, 0), some (0, 0, a1), some (0, 0, a2), some (0, 0, a3), some (0, 0, a4), some (0, 0, a5), none] [(0, 0, b0)] σ := fw_on hG [99, 115, 125, 141, 151, 175, 183, 203, 221] 200 h
theorem fs_m_holds3_175 {G : fw_K} {R : fw_KR} (hG : fw_cls st_m_holds3 R G) {a1 a2 a3 a4 a5 b0 : Int} {σ : ab_SG} (h : (0 ≤ fw_c b0 ∧ fw_c b0 ≤ 1) ∧ R (some (0, 0, b0)) σ) : G 175 [some (2, 93, 0), some (0, 0, a1), some (0, 0, a2), some (0, 0, a3), some (0, 0, a4), some (0, 0, a5), none] [(0, 0, b0)] σ := fw_on hG [99, 115, 125, 141, 151, 175, 183, 203, 221] 200 h
theorem fs_m_holds3_141 {G : fw_K} {R : fw_KR} (hG : fw_cls st_m_holds3 R G) {a1 a2 a3 a4 a5 b0 : Int} {σ : ab_SG} (h : (fw_c b0 ≠ 0 → (0 ≤ fw_c 1 ∧ fw_c 1 ≤ 1) ∧ R (some (0, 0, 1)) σ) ∧ (fw_c b0 = 0 → sp_m_holds 2 [(2, 93, 0), (0, 0, a5), (0, 0, a2)] σ (fun rv σ2 => G 151 [some (2, 93, 0), some (0, 0, a1), some (0, 0, a2), some (0, 0, a3), some (0, 0, a4), some (0, 0, a5), none] (rv.toList ++ []) σ2))) : G 141 [some (2, 93, 0), some (0, 0, a1), some (0, 0, a2), some (0, 0, a3), some (0, 0, a4), some (0, 0, a5), none] [(0, 0, b0)] σ := fw_on hG [99, 115, 125, 141, 151, 175, 183, 203, 221] 200 h
theorem fs_m_holds3_115 {G : fw_K} {R : fw_KR} (hG : fw_cls st_m_holds3 R G) {a1 a2 a3 a4 a5 b0 : Int} {σ : ab_SG} (h : (fw_c b0 = 0 → (0 ≤ fw_c 0 ∧ fw_c 0 ≤ 1) ∧ R (some (0, 0, 0)) σ) ∧ (fw_c b0 ≠ 0 → sp_m_holds 2 [(2, 93, 0), (0, 0, a5), (0, 0, a2)] σ (fun rv σ2 => G 125 [some (2, 93, 0), some (0, 0, a1), some (0, 0, a2), some (0, 0, a3), some (0, 0, a4), some (0, 0, a5), none] (rv.toList ++ []) σ2))) : G 115 [some (2, 93, 0), some (0, 0, a1), some (0, 0, a2), some (0, 0, a3), some (0, 0, a4), some (0, 0, a5), none] [(0, 0, b0)] σ := fw_on hG [99, 115, 125, 141, 151, 175, 183, 203, 221] 200 h
theorem fs_m_holds3_99 {G : fw_K} {R : fw_KR} (hG : fw_cls st_m_holds3 R G) {a1 a2 a3 a4 a5 b0 : Int} {σ : ab_SG} (h : (fw_c b0 ≠ 0 → (0 ≤ fw_c 0 ∧ fw_c 0 ≤ 1) ∧ R (some (0, 0, 0)) σ) ∧ (fw_c b0 = 0 → (0 ≤ fw_c 1 ∧ fw_c 1 ≤ 1) ∧ R (some (0, 0, 1)) σ)) : G 99 [some (2, 93, 0), some (0, 0, a1), some (0, 0, a2), some (0, 0, a3), some (0, 0, a4), some (0, 0, a5), none] [(0, 0, b0)] σ := fw_on hG [99, 115, 125, 141, 151, 175, 183, 203, 221] 200 h
theorem fs_m_holds3_151 {G : fw_K} {R : fw_KR} (hG : fw_cls st_m_holds3 R G) {a1 a2 a3 a4 a5 b0 : Int} {σ : ab_SG} (h : (fw_c b0 = 0 → (0 ≤ fw_c 0 ∧ fw_c 0 ≤ 1) ∧ R (some (0, 0, 0)) σ) ∧ (fw_c b0 ≠ 0 → (0 ≤ fw_c 1 ∧ fw_c 1 ≤ 1) ∧ R (some (0, 0, 1)) σ)) : G 151 [some (2, 93, 0), some (0, 0, a1), some (0, 0, a2), some (0, 0, a3), some (0, 0, a4), some (0, 0, a5), none] [(0, 0, b0)] σ := fw_on hG [99, 115, 125, 141, 151, 175, 183, 203, 221] 200 h
theorem fs_m_holds3_125 {G : fw_K} {R : fw_KR} (hG : fw_cls st_m_holds3 R G) {a1 a2 a3 a4 a5 b0 : Int} {σ : ab_SG} (h : (fw_c b0 = 0 → (0 ≤ fw_c 0 ∧ fw_c 0 ≤ 1) ∧ R (some (0, 0, 0)) σ) ∧ (fw_c b0 ≠ 0 → (0 ≤ fw_c 1 ∧ fw_c 1 ≤ 1) ∧ R (some (0, 0, 1)) σ)) : G 125 [some (2, 93, 0), some (0, 0, a1), some (0, 0, a2), some (0, 0, a3), some (0, 0, a4), some (0, 0, a5), none] [(0, 0, b0)] σ := fw_on hG [99, 115, 125, 141, 151, 175, 183, 203, 221] 200 h
section
variable {l : Launch} {cy : Nat → ClassId} {ad wr cr : Nat → Nat} {D : va_G}
theorem fm_m_holds3 (hinj : nn_inj ad) : fw_H l cy ad wr cr D 351 8 (sp_m_holds 3) := fw_mk hinj (⟨"NameNotesModel", "holds", "(II)Z"⟩, prog_14_method_148_code, 7, (Option.some Jvm.ClassFile.FieldType.boolean), 2, true, 1) rfl rfl nn_KI20_ok nn_KJ20_ok nn_PF20_ok nn_PS20_ok (by decide +kernel) rfl rfl (List.forall_mem_cons.mpr ⟨fw_row nn_PM20_ok (x := 216) (k := 0) (mn := 230) (np := 2) (ob := false) (ci := 0) (⟨"NameNotesModel", "has", "(II)Z"⟩, prog_14_method_9_code, 2, (Option.some Jvm.ClassFile.FieldType.boolean), 2, false, 1) rfl (by decide +kernel) rfl rfl (by decide) (fun q => by cases q) (fm_m_has hinj), (List.forall_mem_cons.mpr ⟨fw_row nn_PM20_ok (x := 277) (k := 0) (mn := 244) (np := 2) (ob := true) (ci := 11) (⟨"NameNotesModel", "tell", "(II)I"⟩, prog_14_method_50_code, 6, (Option.some Jvm.ClassFile.FieldType.int), 2, true, 0) rfl (by decide +kernel) rfl rfl (by decide) (fun _ => ⟨_, _, rfl⟩) (fm_m_tell hinj), (List.forall_mem_cons.mpr ⟨fw_row nn_PM20_ok (x := 284) (k := 0) (mn := 250) (np := 2) (ob := true) (ci := 11) (⟨"NameNotesModel", "known", "(II)I"⟩, prog_14_method_54_code, 3, (Option.some Jvm.ClassFile.FieldType.int), 2, true, 0) rfl (by decide +kernel) rfl rfl (by decide) (fun _ => ⟨_, _, rfl⟩) (fm_m_known hinj), (List.forall_mem_cons.mpr ⟨fw_row nn_PM20_ok (x := 294) (k := 0) (mn := 257) (np := 4) (ob := true) (ci := 11) (⟨"NameNotesModel", "areLike", "(IIII)Z"⟩, prog_14_method_59_code, 5, (Option.some Jvm.ClassFile.FieldType.boolean), 4, true, 1) rfl (by decide +kernel) rfl rfl (by decide) (fun _ => ⟨_, _, rfl⟩) (fm_m_areLike hinj), (List.forall_mem_cons.mpr ⟨fw_row nn_PM20_ok (x := 525) (k := 0) (mn := 351) (np := 2) (ob := true) (ci := 11) (⟨"NameNotesModel", "holds", "(II)Z"⟩, prog_14_method_148_code, 7, (Option.some Jvm.ClassFile.FieldType.boolean), 2, true, 1) rfl (by decide +kernel) rfl rfl (by decide) (fun _ => ⟨_, _, rfl⟩) (fm_m_holds2 hinj), (fun _ h => absurd h List.not_mem_nil)⟩)⟩)⟩)⟩)⟩) (fun as σ K h => by
  obtain ⟨A, x, t, L, rfl, hN, hx, H, hv, h⟩ := h
  exact ⟨rfl, fun G hG => mh_core hN hx H hv h (fs_m_holds3_0 hG) (fs_m_holds3_221 hG) (fs_m_holds3_203 hG) (fs_m_holds3_183 hG) (fs_m_holds3_175 hG) (fs_m_holds3_141 hG) (fs_m_holds3_115 hG) (fs_m_holds3_99 hG) (fs_m_holds3_151 hG) (fs_m_holds3_125 hG)⟩)
end
abbrev fk_m_holds4 : List fw_CR := [(216, 2, false, 0, 0, sp_m_has), (277, 2, true, 11, 2, sp_m_tell), (284, 2, true, 11, 0, sp_m_known), (294, 4, true, 11, 4, sp_m_areLike), (525, 2, true, 11, 8, sp_m_holds 3)]
abbrev st_m_holds4 : fw_K → fw_KR → fw_K := fw_st vwCl nn_sh nn_kd fw_kv fw_wc (nn_KI20.map (fun x => x.1)) (nn_KJ20.map (fun x => x.1)) (nn_PF20.map (fun x => x.1)) (nn_PS20.map (fun x => x.1)) fk_m_holds4 9 nn_dt351 7 1
theorem fs_m_holds4_0 {G : fw_K} {R : fw_KR} (hG : fw_cls st_m_holds4 R G) {t x : Int} {σ : ab_SG} (h : (0 ≤ fw_c ((234 + (4 * t)) + 1) ∧ fw_c ((234 + (4 * t)) + 1) < ((474 : Nat) : Int)) ∧ ((0 ≤ fw_c ((234 + (4 * t)) + 2) ∧ fw_c ((234 + (4 * t)) + 2) < ((474 : Nat) : Int)) ∧ ((0 ≤ fw_c (234 + (4 * t)) ∧ fw_c (234 + (4 * t)) < ((474 : Nat) : Int)) ∧ ((1 = fw_c (σ 95 (fw_c (234 + (4 * t))).toNat) → (sp_m_holds 3 [(2, 93, 0), (0, 0, σ 95 (fw_c ((234 + (4 * t)) + 1)).toNat), (0, 0, x)] σ (fun rv σ2 => G 99 [some (2, 93, 0), some (0, 0, t), some (0, 0, x), some (0, 0, 234 + (4 * t)), some (0, 0, σ 95 (fw_c ((234 + (4 * t)) + 1)).toNat), some (0, 0, σ 95 (fw_c ((234 + (4 * t)) + 2)).toNat), none] (rv.toList ++ []) σ2))) ∧ (1 ≠ fw_c (σ 95 (fw_c (234 + (4 * t))).toNat) → ((2 = fw_c (σ 95 (fw_c (234 + (4 * t))).toNat) → (sp_m_holds 3 [(2, 93, 0), (0, 0, σ 95 (fw_c ((234 + (4 * t)) + 1)).toNat), (0, 0, x)] σ (fun rv σ2 => G 115 [some (2, 93, 0), some (0, 0, t), some (0, 0, x), some (0, 0, 234 + (4 * t)), some (0, 0, σ 95 (fw_c ((234 + (4 * t)) + 1)).toNat), some (0, 0, σ 95 (fw_c ((234 + (4 * t)) + 2)).toNat), none] (rv.toList ++ []) σ2))) ∧ (2 ≠ fw_c (σ 95 (fw_c (234 + (4 * t))).toNat) → ((3 = fw_c (σ 95 (fw_c (234 + (4 * t))).toNat) → (sp_m_holds 3 [(2, 93, 0), (0, 0, σ 95 (fw_c ((234 + (4 * t)) + 1)).toNat), (0, 0, x)] σ (fun rv σ2 => G 141 [some (2, 93, 0), some (0, 0, t), some (0, 0, x), some (0, 0, 234 + (4 * t)), some (0, 0, σ 95 (fw_c ((234 + (4 * t)) + 1)).toNat), some (0, 0, σ 95 (fw_c ((234 + (4 * t)) + 2)).toNat), none] (rv.toList ++ []) σ2))) ∧ (3 ≠ fw_c (σ 95 (fw_c (234 + (4 * t))).toNat) → ((60 = fw_c (σ 95 (fw_c (234 + (4 * t))).toNat) → ((0 ≤ fw_c (176 + (σ 95 (fw_c ((234 + (4 * t)) + 1)).toNat)) ∧ fw_c (176 + (σ 95 (fw_c ((234 + (4 * t)) + 1)).toNat)) < ((474 : Nat) : Int)) ∧ (sp_m_has [(0, 0, σ 95 (fw_c (176 + (σ 95 (fw_c ((234 + (4 * t)) + 1)).toNat))).toNat), (0, 0, x)] σ (fun rv σ2 => G 175 [some (2, 93, 0), some (0, 0, t), some (0, 0, x), some (0, 0, 234 + (4 * t)), some (0, 0, σ 95 (fw_c ((234 + (4 * t)) + 1)).toNat), some (0, 0, σ 95 (fw_c ((234 + (4 * t)) + 2)).toNat), none] (rv.toList ++ []) σ2)))) ∧ (60 ≠ fw_c (σ 95 (fw_c (234 + (4 * t))).toNat) → ((61 = fw_c (σ 95 (fw_c (234 + (4 * t))).toNat) → (sp_m_known [(2, 93, 0), (0, 0, σ 95 (fw_c ((234 + (4 * t)) + 1)).toNat), (0, 0, x)] σ (fun rv σ2 => G 183 [some (2, 93, 0), some (0, 0, t), some (0, 0, x), some (0, 0, 234 + (4 * t)), some (0, 0, σ 95 (fw_c ((234 + (4 * t)) + 1)).toNat), some (0, 0, σ 95 (fw_c ((234 + (4 * t)) + 2)).toNat), none] (rv.toList ++ []) σ2))) ∧ (61 ≠ fw_c (σ 95 (fw_c (234 + (4 * t))).toNat) → ((62 = fw_c (σ 95 (fw_c (234 + (4 * t))).toNat) → (sp_m_areLike [(2, 93, 0), (0, 0, σ 95 (fw_c ((234 + (4 * t)) + 1)).toNat), (0, 0, x), (0, 0, 3), (0, 0, 0)] σ (fun rv σ2 => G 203 [some (2, 93, 0), some (0, 0, t), some (0, 0, x), some (0, 0, 234 + (4 * t)), some (0, 0, σ 95 (fw_c ((234 + (4 * t)) + 1)).toNat), some (0, 0, σ 95 (fw_c ((234 + (4 * t)) + 2)).toNat), none] (rv.toList ++ []) σ2))) ∧ (62 ≠ fw_c (σ 95 (fw_c (234 + (4 * t))).toNat) → ((0 ≤ fw_c (234 + (4 * t)) ∧ fw_c (234 + (4 * t)) < ((474 : Nat) : Int)) ∧ (sp_m_tell [(2, 93, 0), (0, 0, x), (0, 0, ((σ 95 (fw_c (234 + (4 * t))).toNat) - 50) - 13)] σ (fun rv σ2 => G 221 [some (2, 93, 0), some (0, 0, t), some (0, 0, x), some (0, 0, 234 + (4 * t)), some (0, 0, σ 95 (fw_c ((234 + (4 * t)) + 1)).toNat), some (0, 0, σ 95 (fw_c ((234 + (4 * t)) + 2)).toNat), none] (rv.toList ++ []) σ2)))))))))))))))))) : G 0 [some (2, 93, 0), some (0, 0, t), some (0, 0, x), none, none, none, none] [] σ := fw_on hG [99, 115, 125, 141, 151, 175, 183, 203, 221] 200 h
theorem fs_m_holds4_221 {G : fw_K} {R : fw_KR} (hG : fw_cls st_m_holds4 R G) {a1 a2 a3 a4 a5 b0 : Int} {σ : ab_SG} (h : (0 ≤ fw_c (a3 + 3) ∧ fw_c (a3 + 3) < ((474 : Nat) : Int)) ∧ ((fw_c (σ 95 (fw_c (a3 + 3)).toNat) ≠ fw_c 60 → (0 ≤ fw_c (a3 + 3) ∧ fw_c (a3 + 3) < ((474 : Nat) : Int)) ∧ ((fw_c (σ 95 (fw_c (a3 + 3)).toNat) ≠ fw_c 61 → (fw_c b0 ≤ fw_c a5 → (0 ≤ fw_c 0 ∧ fw_c 0 ≤ 1) ∧ R (some (0, 0, 0)) σ) ∧ (fw_c a5 < fw_c b0 → (0 ≤ fw_c 1 ∧ fw_c 1 ≤ 1) ∧ R (some (0, 0, 1)) σ)) ∧ (fw_c (σ 95 (fw_c (a3 + 3)).toNat) = fw_c 61 → (fw_c b0 ≠ fw_c a5 → (0 ≤ fw_c 0 ∧ fw_c 0 ≤ 1) ∧ R (some (0, 0, 0)) σ) ∧ (fw_c b0 = fw_c a5 → (0 ≤ fw_c 1 ∧ fw_c 1 ≤ 1) ∧ R (some (0, 0, 1)) σ)))) ∧ (fw_c (σ 95 (fw_c (a3 + 3)).toNat) = fw_c 60 → (fw_c a5 ≤ fw_c b0 → (0 ≤ fw_c 0 ∧ fw_c 0 ≤ 1) ∧ R (some (0, 0, 0)) σ) ∧ (fw_c b0 < fw_c a5 → (0 ≤ fw_c 1 ∧ fw_c 1 ≤ 1) ∧ R (some (0, 0, 1)) σ)))) : G 221 [some (2, 93, 0), some (0, 0, a1), some (0, 0, a2), some (0, 0, a3), some (0, 0, a4), some (0, 0, a5), none] [(0, 0, b0)] σ := fw_on hG [99, 115, 125, 141, 151, 175, 183, 203, 221] 200 h
theorem fs_m_holds4_203 {G : fw_K} {R : fw_KR} (hG : fw_cls st_m_holds4 R G) {a1 a2 a3 a4 a5 b0 : Int} {σ : ab_SG} (h : (0 ≤ fw_c b0 ∧ fw_c b0 ≤ 1) ∧ R (some (0, 0, b0)) σ) : G 203 [some (2, 93, 0), some (0, 0, a1), some (0, 0, a2), some (0, 0, a3), some (0, 0, a4), some (0, 0, a5), none] [(0, 0, b0)] σ := fw_on hG [99, 115, 125, 141, 151, 175, 183, 203, 221] 200 h
theorem fs_m_holds4_183 {G : fw_K} {R : fw_KR} (hG : fw_cls st_m_holds4 R G) {a1 a2 a3 a4 a5 b0 : Int} {σ : ab_SG} (h : (fw_c b0 ≠ fw_c 9 → (0 ≤ fw_c 0 ∧ fw_c 0 ≤ 1) ∧ R (some (0, 0, 0)) σ) ∧ (fw_c b0 = fw_c 9 → (0 ≤ fw_c 1 ∧ fw_c 1 ≤ 1) ∧ R (some (0, 0, 1)) σ)) : G 183 [some (2, 93, 0), some (0, 0, a1), some (0, 0, a2), some (0, 0, a3), some (0, 0, a4), some (0, 0, a5), none] [(0, 0, b0)] σ := fw_on hG [99, 115, 125, 141, 151, 175, 183, 203, 221] 200 h
theorem fs_m_holds4_175 {G : fw_K} {R : fw_KR} (hG : fw_cls st_m_holds4 R G) {a1 a2 a3 a4 a5 b0 : Int} {σ : ab_SG} (h : (0 ≤ fw_c b0 ∧ fw_c b0 ≤ 1) ∧ R (some (0, 0, b0)) σ) : G 175 [some (2, 93, 0), some (0, 0, a1), some (0, 0, a2), some (0, 0, a3), some (0, 0, a4), some (0, 0, a5), none] [(0, 0, b0)] σ := fw_on hG [99, 115, 125, 141, 151, 175, 183, 203, 221] 200 h
theorem fs_m_holds4_141 {G : fw_K} {R : fw_KR} (hG : fw_cls st_m_holds4 R G) {a1 a2 a3 a4 a5 b0 : Int} {σ : ab_SG} (h : (fw_c b0 ≠ 0 → (0 ≤ fw_c 1 ∧ fw_c 1 ≤ 1) ∧ R (some (0, 0, 1)) σ) ∧ (fw_c b0 = 0 → sp_m_holds 3 [(2, 93, 0), (0, 0, a5), (0, 0, a2)] σ (fun rv σ2 => G 151 [some (2, 93, 0), some (0, 0, a1), some (0, 0, a2), some (0, 0, a3), some (0, 0, a4), some (0, 0, a5), none] (rv.toList ++ []) σ2))) : G 141 [some (2, 93, 0), some (0, 0, a1), some (0, 0, a2), some (0, 0, a3), some (0, 0, a4), some (0, 0, a5), none] [(0, 0, b0)] σ := fw_on hG [99, 115, 125, 141, 151, 175, 183, 203, 221] 200 h
theorem fs_m_holds4_115 {G : fw_K} {R : fw_KR} (hG : fw_cls st_m_holds4 R G) {a1 a2 a3 a4 a5 b0 : Int} {σ : ab_SG} (h : (fw_c b0 = 0 → (0 ≤ fw_c 0 ∧ fw_c 0 ≤ 1) ∧ R (some (0, 0, 0)) σ) ∧ (fw_c b0 ≠ 0 → sp_m_holds 3 [(2, 93, 0), (0, 0, a5), (0, 0, a2)] σ (fun rv σ2 => G 125 [some (2, 93, 0), some (0, 0, a1), some (0, 0, a2), some (0, 0, a3), some (0, 0, a4), some (0, 0, a5), none] (rv.toList ++ []) σ2))) : G 115 [some (2, 93, 0), some (0, 0, a1), some (0, 0, a2), some (0, 0, a3), some (0, 0, a4), some (0, 0, a5), none] [(0, 0, b0)] σ := fw_on hG [99, 115, 125, 141, 151, 175, 183, 203, 221] 200 h
theorem fs_m_holds4_99 {G : fw_K} {R : fw_KR} (hG : fw_cls st_m_holds4 R G) {a1 a2 a3 a4 a5 b0 : Int} {σ : ab_SG} (h : (fw_c b0 ≠ 0 → (0 ≤ fw_c 0 ∧ fw_c 0 ≤ 1) ∧ R (some (0, 0, 0)) σ) ∧ (fw_c b0 = 0 → (0 ≤ fw_c 1 ∧ fw_c 1 ≤ 1) ∧ R (some (0, 0, 1)) σ)) : G 99 [some (2, 93, 0), some (0, 0, a1), some (0, 0, a2), some (0, 0, a3), some (0, 0, a4), some (0, 0, a5), none] [(0, 0, b0)] σ := fw_on hG [99, 115, 125, 141, 151, 175, 183, 203, 221] 200 h
theorem fs_m_holds4_151 {G : fw_K} {R : fw_KR} (hG : fw_cls st_m_holds4 R G) {a1 a2 a3 a4 a5 b0 : Int} {σ : ab_SG} (h : (fw_c b0 = 0 → (0 ≤ fw_c 0 ∧ fw_c 0 ≤ 1) ∧ R (some (0, 0, 0)) σ) ∧ (fw_c b0 ≠ 0 → (0 ≤ fw_c 1 ∧ fw_c 1 ≤ 1) ∧ R (some (0, 0, 1)) σ)) : G 151 [some (2, 93, 0), some (0, 0, a1), some (0, 0, a2), some (0, 0, a3), some (0, 0, a4), some (0, 0, a5), none] [(0, 0, b0)] σ := fw_on hG [99, 115, 125, 141, 151, 175, 183, 203, 221] 200 h
theorem fs_m_holds4_125 {G : fw_K} {R : fw_KR} (hG : fw_cls st_m_holds4 R G) {a1 a2 a3 a4 a5 b0 : Int} {σ : ab_SG} (h : (fw_c b0 = 0 → (0 ≤ fw_c 0 ∧ fw_c 0 ≤ 1) ∧ R (some (0, 0, 0)) σ) ∧ (fw_c b0 ≠ 0 → (0 ≤ fw_c 1 ∧ fw_c 1 ≤ 1) ∧ R (some (0, 0, 1)) σ)) : G 125 [some (2, 93, 0), some (0, 0, a1), some (0, 0, a2), some (0, 0, a3), some (0, 0, a4), some (0, 0, a5), none] [(0, 0, b0)] σ := fw_on hG [99, 115, 125, 141, 151, 175, 183, 203, 221] 200 h
section
variable {l : Launch} {cy : Nat → ClassId} {ad wr cr : Nat → Nat} {D : va_G}
theorem fm_m_holds4 (hinj : nn_inj ad) : fw_H l cy ad wr cr D 351 9 (sp_m_holds 4) := fw_mk hinj (⟨"NameNotesModel", "holds", "(II)Z"⟩, prog_14_method_148_code, 7, (Option.some Jvm.ClassFile.FieldType.boolean), 2, true, 1) rfl rfl nn_KI20_ok nn_KJ20_ok nn_PF20_ok nn_PS20_ok (by decide +kernel) rfl rfl (List.forall_mem_cons.mpr ⟨fw_row nn_PM20_ok (x := 216) (k := 0) (mn := 230) (np := 2) (ob := false) (ci := 0) (⟨"NameNotesModel", "has", "(II)Z"⟩, prog_14_method_9_code, 2, (Option.some Jvm.ClassFile.FieldType.boolean), 2, false, 1) rfl (by decide +kernel) rfl rfl (by decide) (fun q => by cases q) (fm_m_has hinj), (List.forall_mem_cons.mpr ⟨fw_row nn_PM20_ok (x := 277) (k := 0) (mn := 244) (np := 2) (ob := true) (ci := 11) (⟨"NameNotesModel", "tell", "(II)I"⟩, prog_14_method_50_code, 6, (Option.some Jvm.ClassFile.FieldType.int), 2, true, 0) rfl (by decide +kernel) rfl rfl (by decide) (fun _ => ⟨_, _, rfl⟩) (fm_m_tell hinj), (List.forall_mem_cons.mpr ⟨fw_row nn_PM20_ok (x := 284) (k := 0) (mn := 250) (np := 2) (ob := true) (ci := 11) (⟨"NameNotesModel", "known", "(II)I"⟩, prog_14_method_54_code, 3, (Option.some Jvm.ClassFile.FieldType.int), 2, true, 0) rfl (by decide +kernel) rfl rfl (by decide) (fun _ => ⟨_, _, rfl⟩) (fm_m_known hinj), (List.forall_mem_cons.mpr ⟨fw_row nn_PM20_ok (x := 294) (k := 0) (mn := 257) (np := 4) (ob := true) (ci := 11) (⟨"NameNotesModel", "areLike", "(IIII)Z"⟩, prog_14_method_59_code, 5, (Option.some Jvm.ClassFile.FieldType.boolean), 4, true, 1) rfl (by decide +kernel) rfl rfl (by decide) (fun _ => ⟨_, _, rfl⟩) (fm_m_areLike hinj), (List.forall_mem_cons.mpr ⟨fw_row nn_PM20_ok (x := 525) (k := 0) (mn := 351) (np := 2) (ob := true) (ci := 11) (⟨"NameNotesModel", "holds", "(II)Z"⟩, prog_14_method_148_code, 7, (Option.some Jvm.ClassFile.FieldType.boolean), 2, true, 1) rfl (by decide +kernel) rfl rfl (by decide) (fun _ => ⟨_, _, rfl⟩) (fm_m_holds3 hinj), (fun _ h => absurd h List.not_mem_nil)⟩)⟩)⟩)⟩)⟩) (fun as σ K h => by
  obtain ⟨A, x, t, L, rfl, hN, hx, H, hv, h⟩ := h
  exact ⟨rfl, fun G hG => mh_core hN hx H hv h (fs_m_holds4_0 hG) (fs_m_holds4_221 hG) (fs_m_holds4_203 hG) (fs_m_holds4_183 hG) (fs_m_holds4_175 hG) (fs_m_holds4_141 hG) (fs_m_holds4_115 hG) (fs_m_holds4_99 hG) (fs_m_holds4_151 hG) (fs_m_holds4_125 hG)⟩)
end
abbrev fk_m_holds5 : List fw_CR := [(216, 2, false, 0, 0, sp_m_has), (277, 2, true, 11, 2, sp_m_tell), (284, 2, true, 11, 0, sp_m_known), (294, 4, true, 11, 4, sp_m_areLike), (525, 2, true, 11, 9, sp_m_holds 4)]
abbrev st_m_holds5 : fw_K → fw_KR → fw_K := fw_st vwCl nn_sh nn_kd fw_kv fw_wc (nn_KI20.map (fun x => x.1)) (nn_KJ20.map (fun x => x.1)) (nn_PF20.map (fun x => x.1)) (nn_PS20.map (fun x => x.1)) fk_m_holds5 10 nn_dt351 7 1
theorem fs_m_holds5_0 {G : fw_K} {R : fw_KR} (hG : fw_cls st_m_holds5 R G) {t x : Int} {σ : ab_SG} (h : (0 ≤ fw_c ((234 + (4 * t)) + 1) ∧ fw_c ((234 + (4 * t)) + 1) < ((474 : Nat) : Int)) ∧ ((0 ≤ fw_c ((234 + (4 * t)) + 2) ∧ fw_c ((234 + (4 * t)) + 2) < ((474 : Nat) : Int)) ∧ ((0 ≤ fw_c (234 + (4 * t)) ∧ fw_c (234 + (4 * t)) < ((474 : Nat) : Int)) ∧ ((1 = fw_c (σ 95 (fw_c (234 + (4 * t))).toNat) → (sp_m_holds 4 [(2, 93, 0), (0, 0, σ 95 (fw_c ((234 + (4 * t)) + 1)).toNat), (0, 0, x)] σ (fun rv σ2 => G 99 [some (2, 93, 0), some (0, 0, t), some (0, 0, x), some (0, 0, 234 + (4 * t)), some (0, 0, σ 95 (fw_c ((234 + (4 * t)) + 1)).toNat), some (0, 0, σ 95 (fw_c ((234 + (4 * t)) + 2)).toNat), none] (rv.toList ++ []) σ2))) ∧ (1 ≠ fw_c (σ 95 (fw_c (234 + (4 * t))).toNat) → ((2 = fw_c (σ 95 (fw_c (234 + (4 * t))).toNat) → (sp_m_holds 4 [(2, 93, 0), (0, 0, σ 95 (fw_c ((234 + (4 * t)) + 1)).toNat), (0, 0, x)] σ (fun rv σ2 => G 115 [some (2, 93, 0), some (0, 0, t), some (0, 0, x), some (0, 0, 234 + (4 * t)), some (0, 0, σ 95 (fw_c ((234 + (4 * t)) + 1)).toNat), some (0, 0, σ 95 (fw_c ((234 + (4 * t)) + 2)).toNat), none] (rv.toList ++ []) σ2))) ∧ (2 ≠ fw_c (σ 95 (fw_c (234 + (4 * t))).toNat) → ((3 = fw_c (σ 95 (fw_c (234 + (4 * t))).toNat) → (sp_m_holds 4 [(2, 93, 0), (0, 0, σ 95 (fw_c ((234 + (4 * t)) + 1)).toNat), (0, 0, x)] σ (fun rv σ2 => G 141 [some (2, 93, 0), some (0, 0, t), some (0, 0, x), some (0, 0, 234 + (4 * t)), some (0, 0, σ 95 (fw_c ((234 + (4 * t)) + 1)).toNat), some (0, 0, σ 95 (fw_c ((234 + (4 * t)) + 2)).toNat), none] (rv.toList ++ []) σ2))) ∧ (3 ≠ fw_c (σ 95 (fw_c (234 + (4 * t))).toNat) → ((60 = fw_c (σ 95 (fw_c (234 + (4 * t))).toNat) → ((0 ≤ fw_c (176 + (σ 95 (fw_c ((234 + (4 * t)) + 1)).toNat)) ∧ fw_c (176 + (σ 95 (fw_c ((234 + (4 * t)) + 1)).toNat)) < ((474 : Nat) : Int)) ∧ (sp_m_has [(0, 0, σ 95 (fw_c (176 + (σ 95 (fw_c ((234 + (4 * t)) + 1)).toNat))).toNat), (0, 0, x)] σ (fun rv σ2 => G 175 [some (2, 93, 0), some (0, 0, t), some (0, 0, x), some (0, 0, 234 + (4 * t)), some (0, 0, σ 95 (fw_c ((234 + (4 * t)) + 1)).toNat), some (0, 0, σ 95 (fw_c ((234 + (4 * t)) + 2)).toNat), none] (rv.toList ++ []) σ2)))) ∧ (60 ≠ fw_c (σ 95 (fw_c (234 + (4 * t))).toNat) → ((61 = fw_c (σ 95 (fw_c (234 + (4 * t))).toNat) → (sp_m_known [(2, 93, 0), (0, 0, σ 95 (fw_c ((234 + (4 * t)) + 1)).toNat), (0, 0, x)] σ (fun rv σ2 => G 183 [some (2, 93, 0), some (0, 0, t), some (0, 0, x), some (0, 0, 234 + (4 * t)), some (0, 0, σ 95 (fw_c ((234 + (4 * t)) + 1)).toNat), some (0, 0, σ 95 (fw_c ((234 + (4 * t)) + 2)).toNat), none] (rv.toList ++ []) σ2))) ∧ (61 ≠ fw_c (σ 95 (fw_c (234 + (4 * t))).toNat) → ((62 = fw_c (σ 95 (fw_c (234 + (4 * t))).toNat) → (sp_m_areLike [(2, 93, 0), (0, 0, σ 95 (fw_c ((234 + (4 * t)) + 1)).toNat), (0, 0, x), (0, 0, 3), (0, 0, 0)] σ (fun rv σ2 => G 203 [some (2, 93, 0), some (0, 0, t), some (0, 0, x), some (0, 0, 234 + (4 * t)), some (0, 0, σ 95 (fw_c ((234 + (4 * t)) + 1)).toNat), some (0, 0, σ 95 (fw_c ((234 + (4 * t)) + 2)).toNat), none] (rv.toList ++ []) σ2))) ∧ (62 ≠ fw_c (σ 95 (fw_c (234 + (4 * t))).toNat) → ((0 ≤ fw_c (234 + (4 * t)) ∧ fw_c (234 + (4 * t)) < ((474 : Nat) : Int)) ∧ (sp_m_tell [(2, 93, 0), (0, 0, x), (0, 0, ((σ 95 (fw_c (234 + (4 * t))).toNat) - 50) - 13)] σ (fun rv σ2 => G 221 [some (2, 93, 0), some (0, 0, t), some (0, 0, x), some (0, 0, 234 + (4 * t)), some (0, 0, σ 95 (fw_c ((234 + (4 * t)) + 1)).toNat), some (0, 0, σ 95 (fw_c ((234 + (4 * t)) + 2)).toNat), none] (rv.toList ++ []) σ2)))))))))))))))))) : G 0 [some (2, 93, 0), some (0, 0, t), some (0, 0, x), none, none, none, none] [] σ := fw_on hG [99, 115, 125, 141, 151, 175, 183, 203, 221] 200 h
theorem fs_m_holds5_221 {G : fw_K} {R : fw_KR} (hG : fw_cls st_m_holds5 R G) {a1 a2 a3 a4 a5 b0 : Int} {σ : ab_SG} (h : (0 ≤ fw_c (a3 + 3) ∧ fw_c (a3 + 3) < ((474 : Nat) : Int)) ∧ ((fw_c (σ 95 (fw_c (a3 + 3)).toNat) ≠ fw_c 60 → (0 ≤ fw_c (a3 + 3) ∧ fw_c (a3 + 3) < ((474 : Nat) : Int)) ∧ ((fw_c (σ 95 (fw_c (a3 + 3)).toNat) ≠ fw_c 61 → (fw_c b0 ≤ fw_c a5 → (0 ≤ fw_c 0 ∧ fw_c 0 ≤ 1) ∧ R (some (0, 0, 0)) σ) ∧ (fw_c a5 < fw_c b0 → (0 ≤ fw_c 1 ∧ fw_c 1 ≤ 1) ∧ R (some (0, 0, 1)) σ)) ∧ (fw_c (σ 95 (fw_c (a3 + 3)).toNat) = fw_c 61 → (fw_c b0 ≠ fw_c a5 → (0 ≤ fw_c 0 ∧ fw_c 0 ≤ 1) ∧ R (some (0, 0, 0)) σ) ∧ (fw_c b0 = fw_c a5 → (0 ≤ fw_c 1 ∧ fw_c 1 ≤ 1) ∧ R (some (0, 0, 1)) σ)))) ∧ (fw_c (σ 95 (fw_c (a3 + 3)).toNat) = fw_c 60 → (fw_c a5 ≤ fw_c b0 → (0 ≤ fw_c 0 ∧ fw_c 0 ≤ 1) ∧ R (some (0, 0, 0)) σ) ∧ (fw_c b0 < fw_c a5 → (0 ≤ fw_c 1 ∧ fw_c 1 ≤ 1) ∧ R (some (0, 0, 1)) σ)))) : G 221 [some (2, 93, 0), some (0, 0, a1), some (0, 0, a2), some (0, 0, a3), some (0, 0, a4), some (0, 0, a5), none] [(0, 0, b0)] σ := fw_on hG [99, 115, 125, 141, 151, 175, 183, 203, 221] 200 h
theorem fs_m_holds5_203 {G : fw_K} {R : fw_KR} (hG : fw_cls st_m_holds5 R G) {a1 a2 a3 a4 a5 b0 : Int} {σ : ab_SG} (h : (0 ≤ fw_c b0 ∧ fw_c b0 ≤ 1) ∧ R (some (0, 0, b0)) σ) : G 203 [some (2, 93, 0), some (0, 0, a1), some (0, 0, a2), some (0, 0, a3), some (0, 0, a4), some (0, 0, a5), none] [(0, 0, b0)] σ := fw_on hG [99, 115, 125, 141, 151, 175, 183, 203, 221] 200 h
theorem fs_m_holds5_183 {G : fw_K} {R : fw_KR} (hG : fw_cls st_m_holds5 R G) {a1 a2 a3 a4 a5 b0 : Int} {σ : ab_SG} (h : (fw_c b0 ≠ fw_c 9 → (0 ≤ fw_c 0 ∧ fw_c 0 ≤ 1) ∧ R (some (0, 0, 0)) σ) ∧ (fw_c b0 = fw_c 9 → (0 ≤ fw_c 1 ∧ fw_c 1 ≤ 1) ∧ R (some (0, 0, 1)) σ)) : G 183 [some (2, 93, 0), some (0, 0, a1), some (0, 0, a2), some (0, 0, a3), some (0, 0, a4), some (0, 0, a5), none] [(0, 0, b0)] σ := fw_on hG [99, 115, 125, 141, 151, 175, 183, 203, 221] 200 h
theorem fs_m_holds5_175 {G : fw_K} {R : fw_KR} (hG : fw_cls st_m_holds5 R G) {a1 a2 a3 a4 a5 b0 : Int} {σ : ab_SG} (h : (0 ≤ fw_c b0 ∧ fw_c b0 ≤ 1) ∧ R (some (0, 0, b0)) σ) : G 175 [some (2, 93, 0), some (0, 0, a1), some (0, 0, a2), some (0, 0, a3), some (0, 0, a4), some (0, 0, a5), none] [(0, 0, b0)] σ := fw_on hG [99, 115, 125, 141, 151, 175, 183, 203, 221] 200 h
theorem fs_m_holds5_141 {G : fw_K} {R : fw_KR} (hG : fw_cls st_m_holds5 R G) {a1 a2 a3 a4 a5 b0 : Int} {σ : ab_SG} (h : (fw_c b0 ≠ 0 → (0 ≤ fw_c 1 ∧ fw_c 1 ≤ 1) ∧ R (some (0, 0, 1)) σ) ∧ (fw_c b0 = 0 → sp_m_holds 4 [(2, 93, 0), (0, 0, a5), (0, 0, a2)] σ (fun rv σ2 => G 151 [some (2, 93, 0), some (0, 0, a1), some (0, 0, a2), some (0, 0, a3), some (0, 0, a4), some (0, 0, a5), none] (rv.toList ++ []) σ2))) : G 141 [some (2, 93, 0), some (0, 0, a1), some (0, 0, a2), some (0, 0, a3), some (0, 0, a4), some (0, 0, a5), none] [(0, 0, b0)] σ := fw_on hG [99, 115, 125, 141, 151, 175, 183, 203, 221] 200 h
theorem fs_m_holds5_115 {G : fw_K} {R : fw_KR} (hG : fw_cls st_m_holds5 R G) {a1 a2 a3 a4 a5 b0 : Int} {σ : ab_SG} (h : (fw_c b0 = 0 → (0 ≤ fw_c 0 ∧ fw_c 0 ≤ 1) ∧ R (some (0, 0, 0)) σ) ∧ (fw_c b0 ≠ 0 → sp_m_holds 4 [(2, 93, 0), (0, 0, a5), (0, 0, a2)] σ (fun rv σ2 => G 125 [some (2, 93, 0), some (0, 0, a1), some (0, 0, a2), some (0, 0, a3), some (0, 0, a4), some (0, 0, a5), none] (rv.toList ++ []) σ2))) : G 115 [some (2, 93, 0), some (0, 0, a1), some (0, 0, a2), some (0, 0, a3), some (0, 0, a4), some (0, 0, a5), none] [(0, 0, b0)] σ := fw_on hG [99, 115, 125, 141, 151, 175, 183, 203, 221] 200 h
theorem fs_m_holds5_99 {G : fw_K} {R : fw_KR} (hG : fw_cls st_m_holds5 R G) {a1 a2 a3 a4 a5 b0 : Int} {σ : ab_SG} (h : (fw_c b0 ≠ 0 → (0 ≤ fw_c 0 ∧ fw_c 0 ≤ 1) ∧ R (some (0, 0, 0)) σ) ∧ (fw_c b0 = 0 → (0 ≤ fw_c 1 ∧ fw_c 1 ≤ 1) ∧ R (some (0, 0, 1)) σ)) : G 99 [some (2, 93, 0), some (0, 0, a1), some (0, 0, a2), some (0, 0, a3), some (0, 0, a4), some (0, 0, a5), none] [(0, 0, b0)] σ := fw_on hG [99, 115, 125, 141, 151, 175, 183, 203, 221] 200 h
theorem fs_m_holds5_151 {G : fw_K} {R : fw_KR} (hG : fw_cls st_m_holds5 R G) {a1 a2 a3 a4 a5 b0 : Int} {σ : ab_SG} (h : (fw_c b0 = 0 → (0 ≤ fw_c 0 ∧ fw_c 0 ≤ 1) ∧ R (some (0, 0, 0)) σ) ∧ (fw_c b0 ≠ 0 → (0 ≤ fw_c 1 ∧ fw_c 1 ≤ 1) ∧ R (some (0, 0, 1)) σ)) : G 151 [some (2, 93, 0), some (0, 0, a1), some (0, 0, a2), some (0, 0, a3), some (0, 0, a4), some (0, 0, a5), none] [(0, 0, b0)] σ := fw_on hG [99, 115, 125, 141, 151, 175, 183, 203, 221] 200 h
theorem fs_m_holds5_125 {G : fw_K} {R : fw_KR} (hG : fw_cls st_m_holds5 R G) {a1 a2 a3 a4 a5 b0 : Int} {σ : ab_SG} (h : (fw_c b0 = 0 → (0 ≤ fw_c 0 ∧ fw_c 0 ≤ 1) ∧ R (some (0, 0, 0)) σ) ∧ (fw_c b0 ≠ 0 → (0 ≤ fw_c 1 ∧ fw_c 1 ≤ 1) ∧ R (some (0, 0, 1)) σ)) : G 125 [some (2, 93, 0), some (0, 0, a1), some (0, 0, a2), some (0, 0, a3), some (0, 0, a4), some (0, 0, a5), none] [(0, 0, b0)] σ := fw_on hG [99, 115, 125, 141, 151, 175, 183, 203, 221] 200 h
section
variable {l : Launch} {cy : Nat → ClassId} {ad wr cr : Nat → Nat} {D : va_G}
theorem fm_m_holds5 (hinj : nn_inj ad) : fw_H l cy ad wr cr D 351 10 (sp_m_holds 5) := fw_mk hinj (⟨"NameNotesModel", "holds", "(II)Z"⟩, prog_14_method_148_code, 7, (Option.some Jvm.ClassFile.FieldType.boolean), 2, true, 1) rfl rfl nn_KI20_ok nn_KJ20_ok nn_PF20_ok nn_PS20_ok (by decide +kernel) rfl rfl (List.forall_mem_cons.mpr ⟨fw_row nn_PM20_ok (x := 216) (k := 0) (mn := 230) (np := 2) (ob := false) (ci := 0) (⟨"NameNotesModel", "has", "(II)Z"⟩, prog_14_method_9_code, 2, (Option.some Jvm.ClassFile.FieldType.boolean), 2, false, 1) rfl (by decide +kernel) rfl rfl (by decide) (fun q => by cases q) (fm_m_has hinj), (List.forall_mem_cons.mpr ⟨fw_row nn_PM20_ok (x := 277) (k := 0) (mn := 244) (np := 2) (ob := true) (ci := 11) (⟨"NameNotesModel", "tell", "(II)I"⟩, prog_14_method_50_code, 6, (Option.some Jvm.ClassFile.FieldType.int), 2, true, 0) rfl (by decide +kernel) rfl rfl (by decide) (fun _ => ⟨_, _, rfl⟩) (fm_m_tell hinj), (List.forall_mem_cons.mpr ⟨fw_row nn_PM20_ok (x := 284) (k := 0) (mn := 250) (np := 2) (ob := true) (ci := 11) (⟨"NameNotesModel", "known", "(II)I"⟩, prog_14_method_54_code, 3, (Option.some Jvm.ClassFile.FieldType.int), 2, true, 0) rfl (by decide +kernel) rfl rfl (by decide) (fun _ => ⟨_, _, rfl⟩) (fm_m_known hinj), (List.forall_mem_cons.mpr ⟨fw_row nn_PM20_ok (x := 294) (k := 0) (mn := 257) (np := 4) (ob := true) (ci := 11) (⟨"NameNotesModel", "areLike", "(IIII)Z"⟩, prog_14_method_59_code, 5, (Option.some Jvm.ClassFile.FieldType.boolean), 4, true, 1) rfl (by decide +kernel) rfl rfl (by decide) (fun _ => ⟨_, _, rfl⟩) (fm_m_areLike hinj), (List.forall_mem_cons.mpr ⟨fw_row nn_PM20_ok (x := 525) (k := 0) (mn := 351) (np := 2) (ob := true) (ci := 11) (⟨"NameNotesModel", "holds", "(II)Z"⟩, prog_14_method_148_code, 7, (Option.some Jvm.ClassFile.FieldType.boolean), 2, true, 1) rfl (by decide +kernel) rfl rfl (by decide) (fun _ => ⟨_, _, rfl⟩) (fm_m_holds4 hinj), (fun _ h => absurd h List.not_mem_nil)⟩)⟩)⟩)⟩)⟩) (fun as σ K h => by
  obtain ⟨A, x, t, L, rfl, hN, hx, H, hv, h⟩ := h
  exact ⟨rfl, fun G hG => mh_core hN hx H hv h (fs_m_holds5_0 hG) (fs_m_holds5_221 hG) (fs_m_holds5_203 hG) (fs_m_holds5_183 hG) (fs_m_holds5_175 hG) (fs_m_holds5_141 hG) (fs_m_holds5_115 hG) (fs_m_holds5_99 hG) (fs_m_holds5_151 hG) (fs_m_holds5_125 hG)⟩)
end
abbrev fk_m_holds6 : List fw_CR := [(216, 2, false, 0, 0, sp_m_has), (277, 2, true, 11, 2, sp_m_tell), (284, 2, true, 11, 0, sp_m_known), (294, 4, true, 11, 4, sp_m_areLike), (525, 2, true, 11, 10, sp_m_holds 5)]
abbrev st_m_holds6 : fw_K → fw_KR → fw_K := fw_st vwCl nn_sh nn_kd fw_kv fw_wc (nn_KI20.map (fun x => x.1)) (nn_KJ20.map (fun x => x.1)) (nn_PF20.map (fun x => x.1)) (nn_PS20.map (fun x => x.1)) fk_m_holds6 11 nn_dt351 7 1
theorem fs_m_holds6_0 {G : fw_K} {R : fw_KR} (hG : fw_cls st_m_holds6 R G) {t x : Int} {σ : ab_SG} (h : (0 ≤ fw_c ((234 + (4 * t)) + 1) ∧ fw_c ((234 + (4 * t)) + 1) < ((474 : Nat) : Int)) ∧ ((0 ≤ fw_c ((234 + (4 * t)) + 2) ∧ fw_c ((234 + (4 * t)) + 2) < ((474 : Nat) : Int)) ∧ ((0 ≤ fw_c (234 + (4 * t)) ∧ fw_c (234 + (4 * t)) < ((474 : Nat) : Int)) ∧ ((1 = fw_c (σ 95 (fw_c (234 + (4 * t))).toNat) → (sp_m_holds 5 [(2, 93, 0), (0, 0, σ 95 (fw_c ((234 + (4 * t)) + 1)).toNat), (0, 0, x)] σ (fun rv σ2 => G 99 [some (2, 93, 0), some (0, 0, t), some (0, 0, x), some (0, 0, 234 + (4 * t)), some (0, 0, σ 95 (fw_c ((234 + (4 * t)) + 1)).toNat), some (0, 0, σ 95 (fw_c ((234 + (4 * t)) + 2)).toNat), none] (rv.toList ++ []) σ2))) ∧ (1 ≠ fw_c (σ 95 (fw_c (234 + (4 * t))).toNat) → ((2 = fw_c (σ 95 (fw_c (234 + (4 * t))).toNat) → (sp_m_holds 5 [(2, 93, 0), (0, 0, σ 95 (fw_c ((234 + (4 * t)) + 1)).toNat), (0, 0, x)] σ (fun rv σ2 => G 115 [some (2, 93, 0), some (0, 0, t), some (0, 0, x), some (0, 0, 234 + (4 * t)), some (0, 0, σ 95 (fw_c ((234 + (4 * t)) + 1)).toNat), some (0, 0, σ 95 (fw_c ((234 + (4 * t)) + 2)).toNat), none] (rv.toList ++ []) σ2))) ∧ (2 ≠ fw_c (σ 95 (fw_c (234 + (4 * t))).toNat) → ((3 = fw_c (σ 95 (fw_c (234 + (4 * t))).toNat) → (sp_m_holds 5 [(2, 93, 0), (0, 0, σ 95 (fw_c ((234 + (4 * t)) + 1)).toNat), (0, 0, x)] σ (fun rv σ2 => G 141 [some (2, 93, 0), some (0, 0, t), some (0, 0, x), some (0, 0, 234 + (4 * t)), some (0, 0, σ 95 (fw_c ((234 + (4 * t)) + 1)).toNat), some (0, 0, σ 95 (fw_c ((234 + (4 * t)) + 2)).toNat), none] (rv.toList ++ []) σ2))) ∧ (3 ≠ fw_c (σ 95 (fw_c (234 + (4 * t))).toNat) → ((60 = fw_c (σ 95 (fw_c (234 + (4 * t))).toNat) → ((0 ≤ fw_c (176 + (σ 95 (fw_c ((234 + (4 * t)) + 1)).toNat)) ∧ fw_c (176 + (σ 95 (fw_c ((234 + (4 * t)) + 1)).toNat)) < ((474 : Nat) : Int)) ∧ (sp_m_has [(0, 0, σ 95 (fw_c (176 + (σ 95 (fw_c ((234 + (4 * t)) + 1)).toNat))).toNat), (0, 0, x)] σ (fun rv σ2 => G 175 [some (2, 93, 0), some (0, 0, t), some (0, 0, x), some (0, 0, 234 + (4 * t)), some (0, 0, σ 95 (fw_c ((234 + (4 * t)) + 1)).toNat), some (0, 0, σ 95 (fw_c ((234 + (4 * t)) + 2)).toNat), none] (rv.toList ++ []) σ2)))) ∧ (60 ≠ fw_c (σ 95 (fw_c (234 + (4 * t))).toNat) → ((61 = fw_c (σ 95 (fw_c (234 + (4 * t))).toNat) → (sp_m_known [(2, 93, 0), (0, 0, σ 95 (fw_c ((234 + (4 * t)) + 1)).toNat), (0, 0, x)] σ (fun rv σ2 => G 183 [some (2, 93, 0), some (0, 0, t), some (0, 0, x), some (0, 0, 234 + (4 * t)), some (0, 0, σ 95 (fw_c ((234 + (4 * t)) + 1)).toNat), some (0, 0, σ 95 (fw_c ((234 + (4 * t)) + 2)).toNat), none] (rv.toList ++ []) σ2))) ∧ (61 ≠ fw_c (σ 95 (fw_c (234 + (4 * t))).toNat) → ((62 = fw_c (σ 95 (fw_c (234 + (4 * t))).toNat) → (sp_m_areLike [(2, 93, 0), (0, 0, σ 95 (fw_c ((234 + (4 * t)) + 1)).toNat), (0, 0, x), (0, 0, 3), (0, 0, 0)] σ (fun rv σ2 => G 203 [some (2, 93, 0), some (0, 0, t), some (0, 0, x), some (0, 0, 234 + (4 * t)), some (0, 0, σ 95 (fw_c ((234 + (4 * t)) + 1)).toNat), some (0, 0, σ 95 (fw_c ((234 + (4 * t)) + 2)).toNat), none] (rv.toList ++ []) σ2))) ∧ (62 ≠ fw_c (σ 95 (fw_c (234 + (4 * t))).toNat) → ((0 ≤ fw_c (234 + (4 * t)) ∧ fw_c (234 + (4 * t)) < ((474 : Nat) : Int)) ∧ (sp_m_tell [(2, 93, 0), (0, 0, x), (0, 0, ((σ 95 (fw_c (234 + (4 * t))).toNat) - 50) - 13)] σ (fun rv σ2 => G 221 [some (2, 93, 0), some (0, 0, t), some (0, 0, x), some (0, 0, 234 + (4 * t)), some (0, 0, σ 95 (fw_c ((234 + (4 * t)) + 1)).toNat), some (0, 0, σ 95 (fw_c ((234 + (4 * t)) + 2)).toNat), none] (rv.toList ++ []) σ2)))))))))))))))))) : G 0 [some (2, 93, 0), some (0, 0, t), some (0, 0, x), none, none, none, none] [] σ := fw_on hG [99, 115, 125, 141, 151, 175, 183, 203, 221] 200 h
theorem fs_m_holds6_221 {G : fw_K} {R : fw_KR} (hG : fw_cls st_m_holds6 R G) {a1 a2 a3 a4 a5 b0 : Int} {σ : ab_SG} (h : (0 ≤ fw_c (a3 + 3) ∧ fw_c (a3 + 3) < ((474 : Nat) : Int)) ∧ ((fw_c (σ 95 (fw_c (a3 + 3)).toNat) ≠ fw_c 60 → (0 ≤ fw_c (a3 + 3) ∧ fw_c (a3 + 3) < ((474 : Nat) : Int)) ∧ ((fw_c (σ 95 (fw_c (a3 + 3)).toNat) ≠ fw_c 61 → (fw_c b0 ≤ fw_c a5 → (0 ≤ fw_c 0 ∧ fw_c 0 ≤ 1) ∧ R (some (0, 0, 0)) σ) ∧ (fw_c a5 < fw_c b0 → (0 ≤ fw_c 1 ∧ fw_c 1 ≤ 1) ∧ R (some (0, 0, 1)) σ)) ∧ (fw_c (σ 95 (fw_c (a3 + 3)).toNat) = fw_c 61 → (fw_c b0 ≠ fw_c a5 → (0 ≤ fw_c 0 ∧ fw_c 0 ≤ 1) ∧ R (some (0, 0, 0)) σ) ∧ (fw_c b0 = fw_c a5 → (0 ≤ fw_c 1 ∧ fw_c 1 ≤ 1) ∧ R (some (0, 0, 1)) σ)))) ∧ (fw_c (σ 95 (fw_c (a3 + 3)).toNat) = fw_c 60 → (fw_c a5 ≤ fw_c b0 → (0 ≤ fw_c 0 ∧ fw_c 0 ≤ 1) ∧ R (some (0, 0, 0)) σ) ∧ (fw_c b0 < fw_c a5 → (0 ≤ fw_c 1 ∧ fw_c 1 ≤ 1) ∧ R (some (0, 0, 1)) σ)))) : G 221 [some (2, 93, 0), some (0, 0, a1), some (0, 0, a2), some (0, 0, a3), some (0, 0, a4), some (0, 0, a5), none] [(0, 0, b0)] σ := fw_on hG [99, 115, 125, 141, 151, 175, 183, 203, 221] 200 h
theorem fs_m_holds6_203 {G : fw_K} {R : fw_KR} (hG : fw_cls st_m_holds6 R G) {a1 a2 a3 a4 a5 b0 : Int} {σ : ab_SG} (h : (0 ≤ fw_c b0 ∧ fw_c b0 ≤ 1) ∧ R (some (0, 0, b0)) σ) : G 203 [some (2, 93, 0), some (0, 0, a1), some (0, 0, a2), some (0, 0, a3), some (0, 0, a4), some (0, 0, a5), none] [(0, 0, b0)] σ := fw_on hG [99, 115, 125, 141, 151, 175, 183, 203, 221] 200 h
theorem fs_m_holds6_183 {G : fw_K} {R : fw_KR} (hG : fw_cls st_m_holds6 R G) {a1 a2 a3 a4 a5 b0 : Int} {σ : ab_SG} (h : (fw_c b0 ≠ fw_c 9 → (0 ≤ fw_c 0 ∧ fw_c 0 ≤ 1) ∧ R (some (0, 0, 0)) σ) ∧ (fw_c b0 = fw_c 9 → (0 ≤ fw_c 1 ∧ fw_c 1 ≤ 1) ∧ R (some (0, 0, 1)) σ)) : G 183 [some (2, 93, 0), some (0, 0, a1), some (0, 0, a2), some (0, 0, a3), some (0, 0, a4), some (0, 0, a5), none] [(0, 0, b0)] σ := fw_on hG [99, 115, 125, 141, 151, 175, 183, 203, 221] 200 h
theorem fs_m_holds6_175 {G : fw_K} {R : fw_KR} (hG : fw_cls st_m_holds6 R G) {a1 a2 a3 a4 a5 b0 : Int} {σ : ab_SG} (h : (0 ≤ fw_c b0 ∧ fw_c b0 ≤ 1) ∧ R (some (0, 0, b0)) σ) : G 175 [some (2, 93, 0), some (0, 0, a1), some (0, 0, a2), some (0, 0, a3), some (0, 0, a4), some (0, 0, a5), none] [(0, 0, b0)] σ := fw_on hG [99, 115, 125, 141, 151, 175, 183, 203, 221] 200 h
theorem fs_m_holds6_141 {G : fw_K} {R : fw_KR} (hG : fw_cls st_m_holds6 R G) {a1 a2 a3 a4 a5 b0 : Int} {σ : ab_SG} (h : (fw_c b0 ≠ 0 → (0 ≤ fw_c 1 ∧ fw_c 1 ≤ 1) ∧ R (some (0, 0, 1)) σ) ∧ (fw_c b0 = 0 → sp_m_holds 5 [(2, 93, 0), (0, 0, a5), (0, 0, a2)] σ (fun rv σ2 => G 151 [some (2, 93, 0), some (0, 0, a1), some (0, 0, a2), some (0, 0, a3), some (0, 0, a4), some (0, 0, a5), none] (rv.toList ++ []) σ2))) : G 141 [some (2, 93, 0), some (0, 0, a1), some (0, 0, a2), some (0, 0, a3), some (0, 0, a4), some (0, 0, a5), none] [(0, 0, b0)] σ := fw_on hG [99, 115, 125, 141, 151, 175, 183, 203, 221] 200 h
theorem fs_m_holds6_115 {G : fw_K} {R : fw_KR} (hG : fw_cls st_m_holds6 R G) {a1 a2 a3 a4 a5 b0 : Int} {σ : ab_SG} (h : (fw_c b0 = 0 → (0 ≤ fw_c 0 ∧ fw_c 0 ≤ 1) ∧ R (some (0, 0, 0)) σ) ∧ (fw_c b0 ≠ 0 → sp_m_holds 5 [(2, 93, 0), (0, 0, a5), (0, 0, a2)] σ (fun rv σ2 => G 125 [some (2, 93, 0), some (0, 0, a1), some (0, 0, a2), some (0, 0, a3), some (0, 0, a4), some (0, 0, a5), none] (rv.toList ++ []) σ2))) : G 115 [some (2, 93, 0), some (0, 0, a1), some (0, 0, a2), some (0, 0, a3), some (0, 0, a4), some (0, 0, a5), none] [(0, 0, b0)] σ := fw_on hG [99, 115, 125, 141, 151, 175, 183, 203, 221] 200 h
theorem fs_m_holds6_99 {G : fw_K} {R : fw_KR} (hG : fw_cls st_m_holds6 R G) {a1 a2 a3 a4 a5 b0 : Int} {σ : ab_SG} (h : (fw_c b0 ≠ 0 → (0 ≤ fw_c 0 ∧ fw_c 0 ≤ 1) ∧ R (some (0, 0, 0)) σ) ∧ (fw_c b0 = 0 → (0 ≤ fw_c 1 ∧ fw_c 1 ≤ 1) ∧ R (some (0, 0, 1)) σ)) : G 99 [some (2, 93, 0), some (0, 0, a1), some (0, 0, a2), some (0, 0, a3), some (0, 0, a4), some (0, 0, a5), none] [(0, 0, b0)] σ := fw_on hG [99, 115, 125, 141, 151, 175, 183, 203, 221] 200 h
theorem fs_m_holds6_151 {G : fw_K} {R : fw_KR} (hG : fw_cls st_m_holds6 R G) {a1 a2 a3 a4 a5 b0 : Int} {σ : ab_SG} (h : (fw_c b0 = 0 → (0 ≤ fw_c 0 ∧ fw_c 0 ≤ 1) ∧ R (some (0, 0, 0)) σ) ∧ (fw_c b0 ≠ 0 → (0 ≤ fw_c 1 ∧ fw_c 1 ≤ 1) ∧ R (some (0, 0, 1)) σ)) : G 151 [some (2, 93, 0), some (0, 0, a1), some (0, 0, a2), some (0, 0, a3), some (0, 0, a4), some (0, 0, a5), none] [(0, 0, b0)] σ := fw_on hG [99, 115, 125, 141, 151, 175, 183, 203, 221] 200 h
theorem fs_m_holds6_125 {G : fw_K} {R : fw_KR} (hG : fw_cls st_m_holds6 R G) {a1 a2 a3 a4 a5 b0 : Int} {σ : ab_SG} (h : (fw_c b0 = 0 → (0 ≤ fw_c 0 ∧ fw_c 0 ≤ 1) ∧ R (some (0, 0, 0)) σ) ∧ (fw_c b0 ≠ 0 → (0 ≤ fw_c 1 ∧ fw_c 1 ≤ 1) ∧ R (some (0, 0, 1)) σ)) : G 125 [some (2, 93, 0), some (0, 0, a1), some (0, 0, a2), some (0, 0, a3), some (0, 0, a4), some (0, 0, a5), none] [(0, 0, b0)] σ := fw_on hG [99, 115, 125, 141, 151, 175, 183, 203, 221] 200 h
section
variable {l : Launch} {cy : Nat → ClassId} {ad wr cr : Nat → Nat} {D : va_G}
theorem fm_m_holds6 (hinj : nn_inj ad) : fw_H l cy ad wr cr D 351 11 (sp_m_holds 6) := fw_mk hinj (⟨"NameNotesModel", "holds", "(II)Z"⟩, prog_14_method_148_code, 7, (Option.some Jvm.ClassFile.FieldType.boolean), 2, true, 1) rfl rfl nn_KI20_ok nn_KJ20_ok nn_PF20_ok nn_PS20_ok (by decide +kernel) rfl rfl (List.forall_mem_cons.mpr ⟨fw_row nn_PM20_ok (x := 216) (k := 0) (mn := 230) (np := 2) (ob := false) (ci := 0) (⟨"NameNotesModel", "has", "(II)Z"⟩, prog_14_method_9_code, 2, (Option.some Jvm.ClassFile.FieldType.boolean), 2, false, 1) rfl (by decide +kernel) rfl rfl (by decide) (fun q => by cases q) (fm_m_has hinj), (List.forall_mem_cons.mpr ⟨fw_row nn_PM20_ok (x := 277) (k := 0) (mn := 244) (np := 2) (ob := true) (ci := 11) (⟨"NameNotesModel", "tell", "(II)I"⟩, prog_14_method_50_code, 6, (Option.some Jvm.ClassFile.FieldType.int), 2, true, 0) rfl (by decide +kernel) rfl rfl (by decide) (fun _ => ⟨_, _, rfl⟩) (fm_m_tell hinj), (List.forall_mem_cons.mpr ⟨fw_row nn_PM20_ok (x := 284) (k := 0) (mn := 250) (np := 2) (ob := true) (ci := 11) (⟨"NameNotesModel", "known", "(II)I"⟩, prog_14_method_54_code, 3, (Option.some Jvm.ClassFile.FieldType.int), 2, true, 0) rfl (by decide +kernel) rfl rfl (by decide) (fun _ => ⟨_, _, rfl⟩) (fm_m_known hinj), (List.forall_mem_cons.mpr ⟨fw_row nn_PM20_ok (x := 294) (k := 0) (mn := 257) (np := 4) (ob := true) (ci := 11) (⟨"NameNotesModel", "areLike", "(IIII)Z"⟩, prog_14_method_59_code, 5, (Option.some Jvm.ClassFile.FieldType.boolean), 4, true, 1) rfl (by decide +kernel) rfl rfl (by decide) (fun _ => ⟨_, _, rfl⟩) (fm_m_areLike hinj), (List.forall_mem_cons.mpr ⟨fw_row nn_PM20_ok (x := 525) (k := 0) (mn := 351) (np := 2) (ob := true) (ci := 11) (⟨"NameNotesModel", "holds", "(II)Z"⟩, prog_14_method_148_code, 7, (Option.some Jvm.ClassFile.FieldType.boolean), 2, true, 1) rfl (by decide +kernel) rfl rfl (by decide) (fun _ => ⟨_, _, rfl⟩) (fm_m_holds5 hinj), (fun _ h => absurd h List.not_mem_nil)⟩)⟩)⟩)⟩)⟩) (fun as σ K h => by
  obtain ⟨A, x, t, L, rfl, hN, hx, H, hv, h⟩ := h
  exact ⟨rfl, fun G hG => mh_core hN hx H hv h (fs_m_holds6_0 hG) (fs_m_holds6_221 hG) (fs_m_holds6_203 hG) (fs_m_holds6_183 hG) (fs_m_holds6_175 hG) (fs_m_holds6_141 hG) (fs_m_holds6_115 hG) (fs_m_holds6_99 hG) (fs_m_holds6_151 hG) (fs_m_holds6_125 hG)⟩)
end
abbrev fk_m_holds7 : List fw_CR := [(216, 2, false, 0, 0, sp_m_has), (277, 2, true, 11, 2, sp_m_tell), (284, 2, true, 11, 0, sp_m_known), (294, 4, true, 11, 4, sp_m_areLike), (525, 2, true, 11, 11, sp_m_holds 6)]
abbrev st_m_holds7 : fw_K → fw_KR → fw_K := fw_st vwCl nn_sh nn_kd fw_kv fw_wc (nn_KI20.map (fun x => x.1)) (nn_KJ20.map (fun x => x.1)) (nn_PF20.map (fun x => x.1)) (nn_PS20.map (fun x => x.1)) fk_m_holds7 12 nn_dt351 7 1
theorem fs_m_holds7_0 {G : fw_K} {R : fw_KR} (hG : fw_cls st_m_holds7 R G) {t x : Int} {σ : ab_SG} (h : (0 ≤ fw_c ((234 + (4 * t)) + 1) ∧ fw_c ((234 + (4 * t)) + 1) < ((474 : Nat) : Int)) ∧ ((0 ≤ fw_c ((234 + (4 * t)) + 2) ∧ fw_c ((234 + (4 * t)) + 2) < ((474 : Nat) : Int)) ∧ ((0 ≤ fw_c (234 + (4 * t)) ∧ fw_c (234 + (4 * t)) < ((474 : Nat) : Int)) ∧ ((1 = fw_c (σ 95 (fw_c (234 + (4 * t))).toNat) → (sp_m_holds 6 [(2, 93, 0), (0, 0, σ 95 (fw_c ((234 + (4 * t)) + 1)).toNat), (0, 0, x)] σ (fun rv σ2 => G 99 [some (2, 93, 0), some (0, 0, t), some (0, 0, x), some (0, 0, 234 + (4 * t)), some (0, 0, σ 95 (fw_c ((234 + (4 * t)) + 1)).toNat), some (0, 0, σ 95 (fw_c ((234 + (4 * t)) + 2)).toNat), none] (rv.toList ++ []) σ2))) ∧ (1 ≠ fw_c (σ 95 (fw_c (234 + (4 * t))).toNat) → ((2 = fw_c (σ 95 (fw_c (234 + (4 * t))).toNat) → (sp_m_holds 6 [(2, 93, 0), (0, 0, σ 95 (fw_c ((234 + (4 * t)) + 1)).toNat), (0, 0, x)] σ (fun rv σ2 => G 115 [some (2, 93, 0), some (0, 0, t), some (0, 0, x), some (0, 0, 234 + (4 * t)), some (0, 0, σ 95 (fw_c ((234 + (4 * t)) + 1)).toNat), some (0, 0, σ 95 (fw_c ((234 + (4 * t)) + 2)).toNat), none] (rv.toList ++ []) σ2))) ∧ (2 ≠ fw_c (σ 95 (fw_c (234 + (4 * t))).toNat) → ((3 = fw_c (σ 95 (fw_c (234 + (4 * t))).toNat) → (sp_m_holds 6 [(2, 93, 0), (0, 0, σ 95 (fw_c ((234 + (4 * t)) + 1)).toNat), (0, 0, x)] σ (fun rv σ2 => G 141 [some (2, 93, 0), some (0, 0, t), some (0, 0, x), some (0, 0, 234 + (4 * t)), some (0, 0, σ 95 (fw_c ((234 + (4 * t)) + 1)).toNat), some (0, 0, σ 95 (fw_c ((234 + (4 * t)) + 2)).toNat), none] (rv.toList ++ []) σ2))) ∧ (3 ≠ fw_c (σ 95 (fw_c (234 + (4 * t))).toNat) → ((60 = fw_c (σ 95 (fw_c (234 + (4 * t))).toNat) → ((0 ≤ fw_c (176 + (σ 95 (fw_c ((234 + (4 * t)) + 1)).toNat)) ∧ fw_c (176 + (σ 95 (fw_c ((234 + (4 * t)) + 1)).toNat)) < ((474 : Nat) : Int)) ∧ (sp_m_has [(0, 0, σ 95 (fw_c (176 + (σ 95 (fw_c ((234 + (4 * t)) + 1)).toNat))).toNat), (0, 0, x)] σ (fun rv σ2 => G 175 [some (2, 93, 0), some (0, 0, t), some (0, 0, x), some (0, 0, 234 + (4 * t)), some (0, 0, σ 95 (fw_c ((234 + (4 * t)) + 1)).toNat), some (0, 0, σ 95 (fw_c ((234 + (4 * t)) + 2)).toNat), none] (rv.toList ++ []) σ2)))) ∧ (60 ≠ fw_c (σ 95 (fw_c (234 + (4 * t))).toNat) → ((61 = fw_c (σ 95 (fw_c (234 + (4 * t))).toNat) → (sp_m_known [(2, 93, 0), (0, 0, σ 95 (fw_c ((234 + (4 * t)) + 1)).toNat), (0, 0, x)] σ (fun rv σ2 => G 183 [some (2, 93, 0), some (0, 0, t), some (0, 0, x), some (0, 0, 234 + (4 * t)), some (0, 0, σ 95 (fw_c ((234 + (4 * t)) + 1)).toNat), some (0, 0, σ 95 (fw_c ((234 + (4 * t)) + 2)).toNat), none] (rv.toList ++ []) σ2))) ∧ (61 ≠ fw_c (σ 95 (fw_c (234 + (4 * t))).toNat) → ((62 = fw_c (σ 95 (fw_c (234 + (4 * t))).toNat) → (sp_m_areLike [(2, 93, 0), (0, 0, σ 95 (fw_c ((234 + (4 * t)) + 1)).toNat), (0, 0, x), (0, 0, 3), (0, 0, 0)] σ (fun rv σ2 => G 203 [some (2, 93, 0), some (0, 0, t), some (0, 0, x), some (0, 0, 234 + (4 * t)), some (0, 0, σ 95 (fw_c ((234 + (4 * t)) + 1)).toNat), some (0, 0, σ 95 (fw_c ((234 + (4 * t)) + 2)).toNat), none] (rv.toList ++ []) σ2))) ∧ (62 ≠ fw_c (σ 95 (fw_c (234 + (4 * t))).toNat) → ((0 ≤ fw_c (234 + (4 * t)) ∧ fw_c (234 + (4 * t)) < ((474 : Nat) : Int)) ∧ (sp_m_tell [(2, 93, 0), (0, 0, x), (0, 0, ((σ 95 (fw_c (234 + (4 * t))).toNat) - 50) - 13)] σ (fun rv σ2 => G 221 [some (2, 93, 0), some (0, 0, t), some (0, 0, x), some (0, 0, 234 + (4 * t)), some (0, 0, σ 95 (fw_c ((234 + (4 * t)) + 1)).toNat), some (0, 0, σ 95 (fw_c ((234 + (4 * t)) + 2)).toNat), none] (rv.toList ++ []) σ2)))))))))))))))))) : G 0 [some (2, 93, 0), some (0, 0, t), some (0, 0, x), none, none, none, none] [] σ := fw_on hG [99, 115, 125, 141, 151, 175, 183, 203, 221] 200 h
theorem fs_m_holds7_221 {G : fw_K} {R : fw_KR} (hG : fw_cls st_m_holds7 R G) {a1 a2 a3 a4 a5 b0 : Int} {σ : ab_SG} (h : (0 ≤ fw_c (a3 + 3) ∧ fw_c (a3 + 3) < ((474 : Nat) : Int)) ∧ ((fw_c (σ 95 (fw_c (a3 + 3)).toNat) ≠ fw_c 60 → (0 ≤ fw_c (a3 + 3) ∧ fw_c (a3 + 3) < ((474 : Nat) : Int)) ∧ ((fw_c (σ 95 (fw_c (a3 + 3)).toNat) ≠ fw_c 61 → (fw_c b0 ≤ fw_c a5 → (0 ≤ fw_c 0 ∧ fw_c 0 ≤ 1) ∧ R (some (0, 0, 0)) σ) ∧ (fw_c a5 < fw_c b0 → (0 ≤ fw_c 1 ∧ fw_c 1 ≤ 1) ∧ R (some (0, 0, 1)) σ)) ∧ (fw_c (σ 95 (fw_c (a3 + 3)).toNat) = fw_c 61 → (fw_c b0 ≠ fw_c a5 → (0 ≤ fw_c 0 ∧ fw_c 0 ≤ 1) ∧ R (some (0, 0, 0)) σ) ∧ (fw_c b0 = fw_c a5 → (0 ≤ fw_c 1 ∧ fw_c 1 ≤ 1) ∧ R (some (0, 0, 1)) σ)))) ∧ (fw_c (σ 95 (fw_c (a3 + 3)).toNat) = fw_c 60 → (fw_c a5 ≤ fw_c b0 → (0 ≤ fw_c 0 ∧ fw_c 0 ≤ 1) ∧ R (some (0, 0, 0)) σ) ∧ (fw_c b0 < fw_c a5 → (0 ≤ fw_c 1 ∧ fw_c 1 ≤ 1) ∧ R (some (0, 0, 1)) σ)))) : G 221 [some (2, 93, 0), some (0, 0, a1), some (0, 0, a2), some (0, 0, a3), some (0, 0, a4), some (0, 0, a5), none] [(0, 0, b0)] σ := fw_on hG [99, 115, 125, 141, 151, 175, 183, 203, 221] 200 h
theorem fs_m_holds7_203 {G : fw_K} {R : fw_KR} (hG : fw_cls st_m_holds7 R G) {a1 a2 a3 a4 a5 b0 : Int} {σ : ab_SG} (h : (0 ≤ fw_c b0 ∧ fw_c b0 ≤ 1) ∧ R (some (0, 0, b0)) σ) : G 203 [some (2, 93, 0), some (0, 0, a1), some (0, 0, a2), some (0, 0, a3), some (0, 0, a4), some (0, 0, a5), none] [(0, 0, b0)] σ := fw_on hG [99, 115, 125, 141, 151, 175, 183, 203, 221] 200 h
theorem fs_m_holds7_183 {G : fw_K} {R : fw_KR} (hG : fw_cls st_m_holds7 R G) {a1 a2 a3 a4 a5 b0 : Int} {σ : ab_SG} (h : (fw_c b0 ≠ fw_c 9 → (0 ≤ fw_c 0 ∧ fw_c 0 ≤ 1) ∧ R (some (0, 0, 0)) σ) ∧ (fw_c b0 = fw_c 9 → (0 ≤ fw_c 1 ∧ fw_c 1 ≤ 1) ∧ R (some (0, 0, 1)) σ)) : G 183 [some (2, 93, 0), some (0, 0, a1), some (0, 0, a2), some (0, 0, a3), some (0, 0, a4), some (0, 0, a5), none] [(0, 0, b0)] σ := fw_on hG [99, 115, 125, 141, 151, 175, 183, 203, 221] 200 h
theorem fs_m_holds7_175 {G : fw_K} {R : fw_KR} (hG : fw_cls st_m_holds7 R G) {a1 a2 a3 a4 a5 b0 : Int} {σ : ab_SG} (h : (0 ≤ fw_c b0 ∧ fw_c b0 ≤ 1) ∧ R (some (0, 0, b0)) σ) : G 175 [some (2, 93, 0), some (0, 0, a1), some (0, 0, a2), some (0, 0, a3), some (0, 0, a4), some (0, 0, a5), none] [(0, 0, b0)] σ := fw_on hG [99, 115, 125, 141, 151, 175, 183, 203, 221] 200 h
theorem fs_m_holds7_141 {G : fw_K} {R : fw_KR} (hG : fw_cls st_m_holds7 R G) {a1 a2 a3 a4 a5 b0 : Int} {σ : ab_SG} (h : (fw_c b0 ≠ 0 → (0 ≤ fw_c 1 ∧ fw_c 1 ≤ 1) ∧ R (some (0, 0, 1)) σ) ∧ (fw_c b0 = 0 → sp_m_holds 6 [(2, 93, 0), (0, 0, a5), (0, 0, a2)] σ (fun rv σ2 => G 151 [some (2, 93, 0), some (0, 0, a1), some (0, 0, a2), some (0, 0, a3), some (0, 0, a4), some (0, 0, a5), none] (rv.toList ++ []) σ2))) : G 141 [some (2, 93, 0), some (0, 0, a1), some (0, 0, a2), some (0, 0, a3), some (0, 0, a4), some (0, 0, a5), none] [(0, 0, b0)] σ := fw_on hG [99, 115, 125, 141, 151, 175, 183, 203, 221] 200 h
theorem fs_m_holds7_115 {G : fw_K} {R : fw_KR} (hG : fw_cls st_m_holds7 R G) {a1 a2 a3 a4 a5 b0 : Int} {σ : ab_SG} (h : (fw_c b0 = 0 → (0 ≤ fw_c 0 ∧ fw_c 0 ≤ 1) ∧ R (some (0, 0, 0)) σ) ∧ (fw_c b0 ≠ 0 → sp_m_holds 6 [(2, 93, 0), (0, 0, a5), (0, 0, a2)] σ (fun rv σ2 => G 125 [some (2, 93, 0), some (0, 0, a1), some (0, 0, a2), some (0, 0, a3), some (0, 0, a4), some (0, 0, a5), none] (rv.toList ++ []) σ2))) : G 115 [some (2, 93, 0), some (0, 0, a1), some (0, 0, a2), some (0, 0, a3), some (0, 0, a4), some (0, 0, a5), none] [(0, 0, b0)] σ := fw_on hG [99, 115, 125, 141, 151, 175, 183, 203, 221] 200 h
theorem fs_m_holds7_99 {G : fw_K} {R : fw_KR} (hG : fw_cls st_m_holds7 R G) {a1 a2 a3 a4 a5 b0 : Int} {σ : ab_SG} (h : (fw_c b0 ≠ 0 → (0 ≤ fw_c 0 ∧ fw_c 0 ≤ 1) ∧ R (some (0, 0, 0)) σ) ∧ (fw_c b0 = 0 → (0 ≤ fw_c 1 ∧ fw_c 1 ≤ 1) ∧ R (some (0, 0, 1)) σ)) : G 99 [some (2, 93, 0), some (0, 0, a1), some (0, 0, a2), some (0, 0, a3), some (0, 0, a4), some (0, 0, a5), none] [(0, 0, b0)] σ := fw_on hG [99, 115, 125, 141, 151, 175, 183, 203, 221] 200 h
theorem fs_m_holds7_151 {G : fw_K} {R : fw_KR} (hG : fw_cls st_m_holds7 R G) {a1 a2 a3 a4 a5 b0 : Int} {σ : ab_SG} (h : (fw_c b0 = 0 → (0 ≤ fw_c 0 ∧ fw_c 0 ≤ 1) ∧ R (some (0, 0, 0)) σ) ∧ (fw_c b0 ≠ 0 → (0 ≤ fw_c 1 ∧ fw_c 1 ≤ 1) ∧ R (some (0, 0, 1)) σ)) : G 151 [some (2, 93, 0), some (0, 0, a1), some (0, 0, a2), some (0, 0, a3), some (0, 0, a4), some (0, 0, a5), none] [(0, 0, b0)] σ := fw_on hG [99, 115, 125, 141, 151, 175, 183, 203, 221] 200 h
theorem fs_m_holds7_125 {G : fw_K} {R : fw_KR} (hG : fw_cls st_m_holds7 R G) {a1 a2 a3 a4 a5 b0 : Int} {σ : ab_SG} (h : (fw_c b0 = 0 → (0 ≤ fw_c 0 ∧ fw_c 0 ≤ 1) ∧ R (some (0, 0, 0)) σ) ∧ (fw_c b0 ≠ 0 → (0 ≤ fw_c 1 ∧ fw_c 1 ≤ 1) ∧ R (some (0, 0, 1)) σ)) : G 125 [some (2, 93, 0), some (0, 0, a1), some (0, 0, a2), some (0, 0, a3), some (0, 0, a4), some (0, 0, a5), none] [(0, 0, b0)] σ := fw_on hG [99, 115, 125, 141, 151, 175, 183, 203, 221] 200 h
section
variable {l : Launch} {cy : Nat → ClassId} {ad wr cr : Nat → Nat} {D : va_G}
theorem fm_m_holds7 (hinj : nn_inj ad) : fw_H l cy ad wr cr D 351 12 (sp_m_holds 7) := fw_mk hinj (⟨"NameNotesModel", "holds", "(II)Z"⟩, prog_14_method_148_code, 7, (Option.some Jvm.ClassFile.FieldType.boolean), 2, true, 1) rfl rfl nn_KI20_ok nn_KJ20_ok nn_PF20_ok nn_PS20_ok (by decide +kernel) rfl rfl (List.forall_mem_cons.mpr ⟨fw_row nn_PM20_ok (x := 216) (k := 0) (mn := 230) (np := 2) (ob := false) (ci := 0) (⟨"NameNotesModel", "has", "(II)Z"⟩, prog_14_method_9_code, 2, (Option.some Jvm.ClassFile.FieldType.boolean), 2, false, 1) rfl (by decide +kernel) rfl rfl (by decide) (fun q => by cases q) (fm_m_has hinj), (List.forall_mem_cons.mpr ⟨fw_row nn_PM20_ok (x := 277) (k := 0) (mn := 244) (np := 2) (ob := true) (ci := 11) (⟨"NameNotesModel", "tell", "(II)I"⟩, prog_14_method_50_code, 6, (Option.some Jvm.ClassFile.FieldType.int), 2, true, 0) rfl (by decide +kernel) rfl rfl (by decide) (fun _ => ⟨_, _, rfl⟩) (fm_m_tell hinj), (List.forall_mem_cons.mpr ⟨fw_row nn_PM20_ok (x := 284) (k := 0) (mn := 250) (np := 2) (ob := true) (ci := 11) (⟨"NameNotesModel", "known", "(II)I"⟩, prog_14_method_54_code, 3, (Option.some Jvm.ClassFile.FieldType.int), 2, true, 0) rfl (by decide +kernel) rfl rfl (by decide) (fun _ => ⟨_, _, rfl⟩) (fm_m_known hinj), (List.forall_mem_cons.mpr ⟨fw_row nn_PM20_ok (x := 294) (k := 0) (mn := 257) (np := 4) (ob := true) (ci := 11) (⟨"NameNotesModel", "areLike", "(IIII)Z"⟩, prog_14_method_59_code, 5, (Option.some Jvm.ClassFile.FieldType.boolean), 4, true, 1) rfl (by decide +kernel) rfl rfl (by decide) (fun _ => ⟨_, _, rfl⟩) (fm_m_areLike hinj), (List.forall_mem_cons.mpr ⟨fw_row nn_PM20_ok (x := 525) (k := 0) (mn := 351) (np := 2) (ob := true) (ci := 11) (⟨"NameNotesModel", "holds", "(II)Z"⟩, prog_14_method_148_code, 7, (Option.some Jvm.ClassFile.FieldType.boolean), 2, true, 1) rfl (by decide +kernel) rfl rfl (by decide) (fun _ => ⟨_, _, rfl⟩) (fm_m_holds6 hinj), (fun _ h => absurd h List.not_mem_nil)⟩)⟩)⟩)⟩)⟩) (fun as σ K h => by
  obtain ⟨A, x, t, L, rfl, hN, hx, H, hv, h⟩ := h
  exact ⟨rfl, fun G hG => mh_core hN hx H hv h (fs_m_holds7_0 hG) (fs_m_holds7_221 hG) (fs_m_holds7_203 hG) (fs_m_holds7_183 hG) (fs_m_holds7_175 hG) (fs_m_holds7_141 hG) (fs_m_holds7_115 hG) (fs_m_holds7_99 hG) (fs_m_holds7_151 hG) (fs_m_holds7_125 hG)⟩)
end
abbrev fk_m_holds8 : List fw_CR := [(216, 2, false, 0, 0, sp_m_has), (277, 2, true, 11, 2, sp_m_tell), (284, 2, true, 11, 0, sp_m_known), (294, 4, true, 11, 4, sp_m_areLike), (525, 2, true, 11, 12, sp_m_holds 7)]
abbrev st_m_holds8 : fw_K → fw_KR → fw_K := fw_st vwCl nn_sh nn_kd fw_kv fw_wc (nn_KI20.map (fun x => x.1)) (nn_KJ20.map (fun x => x.1)) (nn_PF20.map (fun x => x.1)) (nn_PS20.map (fun x => x.1)) fk_m_holds8 13 nn_dt351 7 1
theorem fs_m_holds8_0 {G : fw_K} {R : fw_KR} (hG : fw_cls st_m_holds8 R G) {t x : Int} {σ : ab_SG} (h : (0 ≤ fw_c ((234 + (4 * t)) + 1) ∧ fw_c ((234 + (4 * t)) + 1) < ((474 : Nat) : Int)) ∧ ((0 ≤ fw_c ((234 + (4 * t)) + 2) ∧ fw_c ((234 + (4 * t)) + 2) < ((474 : Nat) : Int)) ∧ ((0 ≤ fw_c (234 + (4 * t)) ∧ fw_c (234 + (4 * t)) < ((474 : Nat) : Int)) ∧ ((1 = fw_c (σ 95 (fw_c (234 + (4 * t))).toNat) → (sp_m_holds 7 [(2, 93, 0), (0, 0, σ 95 (fw_c ((234 + (4 * t)) + 1)).toNat), (0, 0, x)] σ (fun rv σ2 => G 99 [some (2, 93, 0), some (0, 0, t), some (0, 0, x), some (0, 0, 234 + (4 * t)), some (0, 0, σ 95 (fw_c ((234 + (4 * t)) + 1)).toNat), some (0, 0, σ 95 (fw_c ((234 + (4 * t)) + 2)).toNat), none] (rv.toList ++ []) σ2))) ∧ (1 ≠ fw_c (σ 95 (fw_c (234 + (4 * t))).toNat) → ((2 = fw_c (σ 95 (fw_c (234 + (4 * t))).toNat) → (sp_m_holds 7 [(2, 93, 0), (0, 0, σ 95 (fw_c ((234 + (4 * t)) + 1)).toNat), (0, 0, x)] σ (fun rv σ2 => G 115 [some (2, 93, 0), some (0, 0, t), some (0, 0, x), some (0, 0, 234 + (4 * t)), some (0, 0, σ 95 (fw_c ((234 + (4 * t)) + 1)).toNat), some (0, 0, σ 95 (fw_c ((234 + (4 * t)) + 2)).toNat), none] (rv.toList ++ []) σ2))) ∧ (2 ≠ fw_c (σ 95 (fw_c (234 + (4 * t))).toNat) → ((3 = fw_c (σ 95 (fw_c (234 + (4 * t))).toNat) → (sp_m_holds 7 [(2, 93, 0), (0, 0, σ 95 (fw_c ((234 + (4 * t)) + 1)).toNat), (0, 0, x)] σ (fun rv σ2 => G 141 [some (2, 93, 0), some (0, 0, t), some (0, 0, x), some (0, 0, 234 + (4 * t)), some (0, 0, σ 95 (fw_c ((234 + (4 * t)) + 1)).toNat), some (0, 0, σ 95 (fw_c ((234 + (4 * t)) + 2)).toNat), none] (rv.toList ++ []) σ2))) ∧ (3 ≠ fw_c (σ 95 (fw_c (234 + (4 * t))).toNat) → ((60 = fw_c (σ 95 (fw_c (234 + (4 * t))).toNat) → ((0 ≤ fw_c (176 + (σ 95 (fw_c ((234 + (4 * t)) + 1)).toNat)) ∧ fw_c (176 + (σ 95 (fw_c ((234 + (4 * t)) + 1)).toNat)) < ((474 : Nat) : Int)) ∧ (sp_m_has [(0, 0, σ 95 (fw_c (176 + (σ 95 (fw_c ((234 + (4 * t)) + 1)).toNat))).toNat), (0, 0, x)] σ (fun rv σ2 => G 175 [some (2, 93, 0), some (0, 0, t), some (0, 0, x), some (0, 0, 234 + (4 * t)), some (0, 0, σ 95 (fw_c ((234 + (4 * t)) + 1)).toNat), some (0, 0, σ 95 (fw_c ((234 + (4 * t)) + 2)).toNat), none] (rv.toList ++ []) σ2)))) ∧ (60 ≠ fw_c (σ 95 (fw_c (234 + (4 * t))).toNat) → ((61 = fw_c (σ 95 (fw_c (234 + (4 * t))).toNat) → (sp_m_known [(2, 93, 0), (0, 0, σ 95 (fw_c ((234 + (4 * t)) + 1)).toNat), (0, 0, x)] σ (fun rv σ2 => G 183 [some (2, 93, 0), some (0, 0, t), some (0, 0, x), some (0, 0, 234 + (4 * t)), some (0, 0, σ 95 (fw_c ((234 + (4 * t)) + 1)).toNat), some (0, 0, σ 95 (fw_c ((234 + (4 * t)) + 2)).toNat), none] (rv.toList ++ []) σ2))) ∧ (61 ≠ fw_c (σ 95 (fw_c (234 + (4 * t))).toNat) → ((62 = fw_c (σ 95 (fw_c (234 + (4 * t))).toNat) → (sp_m_areLike [(2, 93, 0), (0, 0, σ 95 (fw_c ((234 + (4 * t)) + 1)).toNat), (0, 0, x), (0, 0, 3), (0, 0, 0)] σ (fun rv σ2 => G 203 [some (2, 93, 0), some (0, 0, t), some (0, 0, x), some (0, 0, 234 + (4 * t)), some (0, 0, σ 95 (fw_c ((234 + (4 * t)) + 1)).toNat), some (0, 0, σ 95 (fw_c ((234 + (4 * t)) + 2)).toNat), none] (rv.toList ++ []) σ2))) ∧ (62 ≠ fw_c (σ 95 (fw_c (234 + (4 * t))).toNat) → ((0 ≤ fw_c (234 + (4 * t)) ∧ fw_c (234 + (4 * t)) < ((474 : Nat) : Int)) ∧ (sp_m_tell [(2, 93, 0), (0, 0, x), (0, 0, ((σ 95 (fw_c (234 + (4 * t))).toNat) - 50) - 13)] σ (fun rv σ2 => G 221 [some (2, 93, 0), some (0, 0, t), some (0, 0, x), some (0, 0, 234 + (4 * t)), some (0, 0, σ 95 (fw_c ((234 + (4 * t)) + 1)).toNat), some (0, 0, σ 95 (fw_c ((234 + (4 * t)) + 2)).toNat), none] (rv.toList ++ []) σ2)))))))))))))))))) : G 0 [some (2, 93, 0), some (0, 0, t), some (0, 0, x), none, none, none, none] [] σ := fw_on hG [99, 115, 125, 141, 151, 175, 183, 203, 221] 200 h
theorem fs_m_holds8_221 {G : fw_K} {R : fw_KR} (hG : fw_cls st_m_holds8 R G) {a1 a2 a3 a4 a5 b0 : Int} {σ : ab_SG} (h : (0 ≤ fw_c (a3 + 3) ∧ fw_c (a3 + 3) < ((474 : Nat) : Int)) ∧ ((fw_c (σ 95 (fw_c (a3 + 3)).toNat) ≠ fw_c 60 → (0 ≤ fw_c (a3 + 3) ∧ fw_c (a3 + 3) < ((474 : Nat) : Int)) ∧ ((fw_c (σ 95 (fw_c (a3 + 3)).toNat) ≠ fw_c 61 → (fw_c b0 ≤ fw_c a5 → (0 ≤ fw_c 0 ∧ fw_c 0 ≤ 1) ∧ R (some (0, 0, 0)) σ) ∧ (fw_c a5 < fw_c b0 → (0 ≤ fw_c 1 ∧ fw_c 1 ≤ 1) ∧ R (some (0, 0, 1)) σ)) ∧ (fw_c (σ 95 (fw_c (a3 + 3)).toNat) = fw_c 61 → (fw_c b0 ≠ fw_c a5 → (0 ≤ fw_c 0 ∧ fw_c 0 ≤ 1) ∧ R (some (0, 0, 0)) σ) ∧ (fw_c b0 = fw_c a5 → (0 ≤ fw_c 1 ∧ fw_c 1 ≤ 1) ∧ R (some (0, 0, 1)) σ)))) ∧ (fw_c (σ 95 (fw_c (a3 + 3)).toNat) = fw_c 60 → (fw_c a5 ≤ fw_c b0 → (0 ≤ fw_c 0 ∧ fw_c 0 ≤ 1) ∧ R (some (0, 0, 0)) σ) ∧ (fw_c b0 < fw_c a5 → (0 ≤ fw_c 1 ∧ fw_c 1 ≤ 1) ∧ R (some (0, 0, 1)) σ)))) : G 221 [some (2, 93, 0), some (0, 0, a1), some (0, 0, a2), some (0, 0, a3), some (0, 0, a4), some (0, 0, a5), none] [(0, 0, b0)] σ := fw_on hG [99, 115, 125, 141, 151, 175, 183, 203, 221] 200 h
theorem fs_m_holds8_203 {G : fw_K} {R : fw_KR} (hG : fw_cls st_m_holds8 R G) {a1 a2 a3 a4 a5 b0 : Int} {σ : ab_SG} (h : (0 ≤ fw_c b0 ∧ fw_c b0 ≤ 1) ∧ R (some (0, 0, b0)) σ) : G 203 [some (2, 93, 0), some (0, 0, a1), some (0, 0, a2), some (0, 0, a3), some (0, 0, a4), some (0, 0, a5), none] [(0, 0, b0)] σ := fw_on hG [99, 115, 125, 141, 151, 175, 183, 203, 221] 200 h
theorem fs_m_holds8_183 {G : fw_K} {R : fw_KR} (hG : fw_cls st_m_holds8 R G) {a1 a2 a3 a4 a5 b0 : Int} {σ : ab_SG} (h : (fw_c b0 ≠ fw_c 9 → (0 ≤ fw_c 0 ∧ fw_c 0 ≤ 1) ∧ R (some (0, 0, 0)) σ) ∧ (fw_c b0 = fw_c 9 → (0 ≤ fw_c 1 ∧ fw_c 1 ≤ 1) ∧ R (some (0, 0, 1)) σ)) : G 183 [some (2, 93, 0), some (0, 0, a1), some (0, 0, a2), some (0, 0, a3), some (0, 0, a4), some (0, 0, a5), none] [(0, 0, b0)] σ := fw_on hG [99, 115, 125, 141, 151, 175, 183, 203, 221] 200 h
theorem fs_m_holds8_175 {G : fw_K} {R : fw_KR} (hG : fw_cls st_m_holds8 R G) {a1 a2 a3 a4 a5 b0 : Int} {σ : ab_SG} (h : (0 ≤ fw_c b0 ∧ fw_c b0 ≤ 1) ∧ R (some (0, 0, b0)) σ) : G 175 [some (2, 93, 0), some (0, 0, a1), some (0, 0, a2), some (0, 0, a3), some (0, 0, a4), some (0, 0, a5), none] [(0, 0, b0)] σ := fw_on hG [99, 115, 125, 141, 151, 175, 183, 203, 221] 200 h
theorem fs_m_holds8_141 {G : fw_K} {R : fw_KR} (hG : fw_cls st_m_holds8 R G) {a1 a2 a3 a4 a5 b0 : Int} {σ : ab_SG} (h : (fw_c b0 ≠ 0 → (0 ≤ fw_c 1 ∧ fw_c 1 ≤ 1) ∧ R (some (0, 0, 1)) σ) ∧ (fw_c b0 = 0 → sp_m_holds 7 [(2, 93, 0), (0, 0, a5), (0, 0, a2)] σ (fun rv σ2 => G 151 [some (2, 93, 0), some (0, 0, a1), some (0, 0, a2), some (0, 0, a3), some (0, 0, a4), some (0, 0, a5), none] (rv.toList ++ []) σ2))) : G 141 [some (2, 93, 0), some (0, 0, a1), some (0, 0, a2), some (0, 0, a3), some (0, 0, a4), some (0, 0, a5), none] [(0, 0, b0)] σ := fw_on hG [99, 115, 125, 141, 151, 175, 183, 203, 221] 200 h
theorem fs_m_holds8_115 {G : fw_K} {R : fw_KR} (hG : fw_cls st_m_holds8 R G) {a1 a2 a3 a4 a5 b0 : Int} {σ : ab_SG} (h : (fw_c b0 = 0 → (0 ≤ fw_c 0 ∧ fw_c 0 ≤ 1) ∧ R (some (0, 0, 0)) σ) ∧ (fw_c b0 ≠ 0 → sp_m_holds 7 [(2, 93, 0), (0, 0, a5), (0, 0, a2)] σ (fun rv σ2 => G 125 [some (2, 93, 0), some (0, 0, a1), some (0, 0, a2), some (0, 0, a3), some (0, 0, a4), some (0, 0, a5), none] (rv.toList ++ []) σ2))) : G 115 [some (2, 93, 0), some (0, 0, a1), some (0, 0, a2), some (0, 0, a3), some (0, 0, a4), some (0, 0, a5), none] [(0, 0, b0)] σ := fw_on hG [99, 115, 125, 141, 151, 175, 183, 203, 221] 200 h
theorem fs_m_holds8_99 {G : fw_K} {R : fw_KR} (hG : fw_cls st_m_holds8 R G) {a1 a2 a3 a4 a5 b0 : Int} {σ : ab_SG} (h : (fw_c b0 ≠ 0 → (0 ≤ fw_c 0 ∧ fw_c 0 ≤ 1) ∧ R (some (0, 0, 0)) σ) ∧ (fw_c b0 = 0 → (0 ≤ fw_c 1 ∧ fw_c 1 ≤ 1) ∧ R (some (0, 0, 1)) σ)) : G 99 [some (2, 93, 0), some (0, 0, a1), some (0, 0, a2), some (0, 0, a3), some (0, 0, a4), some (0, 0, a5), none] [(0, 0, b0)] σ := fw_on hG [99, 115, 125, 141, 151, 175, 183, 203, 221] 200 h
theorem fs_m_holds8_151 {G : fw_K} {R : fw_KR} (hG : fw_cls st_m_holds8 R G) {a1 a2 a3 a4 a5 b0 : Int} {σ : ab_SG} (h : (fw_c b0 = 0 → (0 ≤ fw_c 0 ∧ fw_c 0 ≤ 1) ∧ R (some (0, 0, 0)) σ) ∧ (fw_c b0 ≠ 0 → (0 ≤ fw_c 1 ∧ fw_c 1 ≤ 1) ∧ R (some (0, 0, 1)) σ)) : G 151 [some (2, 93, 0), some (0, 0, a1), some (0, 0, a2), some (0, 0, a3), some (0, 0, a4), some (0, 0, a5), none] [(0, 0, b0)] σ := fw_on hG [99, 115, 125, 141, 151, 175, 183, 203, 221] 200 h
theorem fs_m_holds8_125 {G : fw_K} {R : fw_KR} (hG : fw_cls st_m_holds8 R G) {a1 a2 a3 a4 a5 b0 : Int} {σ : ab_SG} (h : (fw_c b0 = 0 → (0 ≤ fw_c 0 ∧ fw_c 0 ≤ 1) ∧ R (some (0, 0, 0)) σ) ∧ (fw_c b0 ≠ 0 → (0 ≤ fw_c 1 ∧ fw_c 1 ≤ 1) ∧ R (some (0, 0, 1)) σ)) : G 125 [some (2, 93, 0), some (0, 0, a1), some (0, 0, a2), some (0, 0, a3), some (0, 0, a4), some (0, 0, a5), none] [(0, 0, b0)] σ := fw_on hG [99, 115, 125, 141, 151, 175, 183, 203, 221] 200 h
section
variable {l : Launch} {cy : Nat → ClassId} {ad wr cr : Nat → Nat} {D : va_G}
theorem fm_m_holds8 (hinj : nn_inj ad) : fw_H l cy ad wr cr D 351 13 (sp_m_holds 8) := fw_mk hinj (⟨"NameNotesModel", "holds", "(II)Z"⟩, prog_14_method_148_code, 7, (Option.some Jvm.ClassFile.FieldType.boolean), 2, true, 1) rfl rfl nn_KI20_ok nn_KJ20_ok nn_PF20_ok nn_PS20_ok (by decide +kernel) rfl rfl (List.forall_mem_cons.mpr ⟨fw_row nn_PM20_ok (x := 216) (k := 0) (mn := 230) (np := 2) (ob := false) (ci := 0) (⟨"NameNotesModel", "has", "(II)Z"⟩, prog_14_method_9_code, 2, (Option.some Jvm.ClassFile.FieldType.boolean), 2, false, 1) rfl (by decide +kernel) rfl rfl (by decide) (fun q => by cases q) (fm_m_has hinj), (List.forall_mem_cons.mpr ⟨fw_row nn_PM20_ok (x := 277) (k := 0) (mn := 244) (np := 2) (ob := true) (ci := 11) (⟨"NameNotesModel", "tell", "(II)I"⟩, prog_14_method_50_code, 6, (Option.some Jvm.ClassFile.FieldType.int), 2, true, 0) rfl (by decide +kernel) rfl rfl (by decide) (fun _ => ⟨_, _, rfl⟩) (fm_m_tell hinj), (List.forall_mem_cons.mpr ⟨fw_row nn_PM20_ok (x := 284) (k := 0) (mn := 250) (np := 2) (ob := true) (ci := 11) (⟨"NameNotesModel", "known", "(II)I"⟩, prog_14_method_54_code, 3, (Option.some Jvm.ClassFile.FieldType.int), 2, true, 0) rfl (by decide +kernel) rfl rfl (by decide) (fun _ => ⟨_, _, rfl⟩) (fm_m_known hinj), (List.forall_mem_cons.mpr ⟨fw_row nn_PM20_ok (x := 294) (k := 0) (mn := 257) (np := 4) (ob := true) (ci := 11) (⟨"NameNotesModel", "areLike", "(IIII)Z"⟩, prog_14_method_59_code, 5, (Option.some Jvm.ClassFile.FieldType.boolean), 4, true, 1) rfl (by decide +kernel) rfl rfl (by decide) (fun _ => ⟨_, _, rfl⟩) (fm_m_areLike hinj), (List.forall_mem_cons.mpr ⟨fw_row nn_PM20_ok (x := 525) (k := 0) (mn := 351) (np := 2) (ob := true) (ci := 11) (⟨"NameNotesModel", "holds", "(II)Z"⟩, prog_14_method_148_code, 7, (Option.some Jvm.ClassFile.FieldType.boolean), 2, true, 1) rfl (by decide +kernel) rfl rfl (by decide) (fun _ => ⟨_, _, rfl⟩) (fm_m_holds7 hinj), (fun _ h => absurd h List.not_mem_nil)⟩)⟩)⟩)⟩)⟩) (fun as σ K h => by
  obtain ⟨A, x, t, L, rfl, hN, hx, H, hv, h⟩ := h
  exact ⟨rfl, fun G hG => mh_core hN hx H hv h (fs_m_holds8_0 hG) (fs_m_holds8_221 hG) (fs_m_holds8_203 hG) (fs_m_holds8_183 hG) (fs_m_holds8_175 hG) (fs_m_holds8_141 hG) (fs_m_holds8_115 hG) (fs_m_holds8_99 hG) (fs_m_holds8_151 hG) (fs_m_holds8_125 hG)⟩)
end
abbrev fk_m_holds9 : List fw_CR := [(216, 2, false, 0, 0, sp_m_has), (277, 2, true, 11, 2, sp_m_tell), (284, 2, true, 11, 0, sp_m_known), (294, 4, true, 11, 4, sp_m_areLike), (525, 2, true, 11, 13, sp_m_holds 8)]
abbrev st_m_holds9 : fw_K → fw_KR → fw_K := fw_st vwCl nn_sh nn_kd fw_kv fw_wc (nn_KI20.map (fun x => x.1)) (nn_KJ20.map (fun x => x.1)) (nn_PF20.map (fun x => x.1)) (nn_PS20.map (fun x => x.1)) fk_m_holds9 14 nn_dt351 7 1
theorem fs_m_holds9_0 {G : fw_K} {R : fw_KR} (hG : fw_cls st_m_holds9 R G) {t x : Int} {σ : ab_SG} (h : (0 ≤ fw_c ((234 + (4 * t)) + 1) ∧ fw_c ((234 + (4 * t)) + 1) < ((474 : Nat) : Int)) ∧ ((0 ≤ fw_c ((234 + (4 * t)) + 2) ∧ fw_c ((234 + (4 * t)) + 2) < ((474 : Nat) : Int)) ∧ ((0 ≤ fw_c (234 + (4 * t)) ∧ fw_c (234 + (4 * t)) < ((474 : Nat) : Int)) ∧ ((1 = fw_c (σ 95 (fw_c (234 + (4 * t))).toNat) → (sp_m_holds 8 [(2, 93, 0), (0, 0, σ 95 (fw_c ((234 + (4 * t)) + 1)).toNat), (0, 0, x)] σ (fun rv σ2 => G 99 [some (2, 93, 0), some (0, 0, t), some (0, 0, x), some (0, 0, 234 + (4 * t)), some (0, 0, σ 95 (fw_c ((234 + (4 * t)) + 1)).toNat), some (0, 0, σ 95 (fw_c ((234 + (4 * t)) + 2)).toNat), none] (rv.toList ++ []) σ2))) ∧ (1 ≠ fw_c (σ 95 (fw_c (234 + (4 * t))).toNat) → ((2 = fw_c (σ 95 (fw_c (234 + (4 * t))).toNat) → (sp_m_holds 8 [(2, 93, 0), (0, 0, σ 95 (fw_c ((234 + (4 * t)) + 1)).toNat), (0, 0, x)] σ (fun rv σ2 => G 115 [some (2, 93, 0), some (0, 0, t), some (0, 0, x), some (0, 0, 234 + (4 * t)), some (0, 0, σ 95 (fw_c ((234 + (4 * t)) + 1)).toNat), some (0, 0, σ 95 (fw_c ((234 + (4 * t)) + 2)).toNat), none] (rv.toList ++ []) σ2))) ∧ (2 ≠ fw_c (σ 95 (fw_c (234 + (4 * t))).toNat) → ((3 = fw_c (σ 95 (fw_c (234 + (4 * t))).toNat) → (sp_m_holds 8 [(2, 93, 0), (0, 0, σ 95 (fw_c ((234 + (4 * t)) + 1)).toNat), (0, 0, x)] σ (fun rv σ2 => G 141 [some (2, 93, 0), some (0, 0, t), some (0, 0, x), some (0, 0, 234 + (4 * t)), some (0, 0, σ 95 (fw_c ((234 + (4 * t)) + 1)).toNat), some (0, 0, σ 95 (fw_c ((234 + (4 * t)) + 2)).toNat), none] (rv.toList ++ []) σ2))) ∧ (3 ≠ fw_c (σ 95 (fw_c (234 + (4 * t))).toNat) → ((60 = fw_c (σ 95 (fw_c (234 + (4 * t))).toNat) → ((0 ≤ fw_c (176 + (σ 95 (fw_c ((234 + (4 * t)) + 1)).toNat)) ∧ fw_c (176 + (σ 95 (fw_c ((234 + (4 * t)) + 1)).toNat)) < ((474 : Nat) : Int)) ∧ (sp_m_has [(0, 0, σ 95 (fw_c (176 + (σ 95 (fw_c ((234 + (4 * t)) + 1)).toNat))).toNat), (0, 0, x)] σ (fun rv σ2 => G 175 [some (2, 93, 0), some (0, 0, t), some (0, 0, x), some (0, 0, 234 + (4 * t)), some (0, 0, σ 95 (fw_c ((234 + (4 * t)) + 1)).toNat), some (0, 0, σ 95 (fw_c ((234 + (4 * t)) + 2)).toNat), none] (rv.toList ++ []) σ2)))) ∧ (60 ≠ fw_c (σ 95 (fw_c (234 + (4 * t))).toNat) → ((61 = fw_c (σ 95 (fw_c (234 + (4 * t))).toNat) → (sp_m_known [(2, 93, 0), (0, 0, σ 95 (fw_c ((234 + (4 * t)) + 1)).toNat), (0, 0, x)] σ (fun rv σ2 => G 183 [some (2, 93, 0), some (0, 0, t), some (0, 0, x), some (0, 0, 234 + (4 * t)), some (0, 0, σ 95 (fw_c ((234 + (4 * t)) + 1)).toNat), some (0, 0, σ 95 (fw_c ((234 + (4 * t)) + 2)).toNat), none] (rv.toList ++ []) σ2))) ∧ (61 ≠ fw_c (σ 95 (fw_c (234 + (4 * t))).toNat) → ((62 = fw_c (σ 95 (fw_c (234 + (4 * t))).toNat) → (sp_m_areLike [(2, 93, 0), (0, 0, σ 95 (fw_c ((234 + (4 * t)) + 1)).toNat), (0, 0, x), (0, 0, 3), (0, 0, 0)] σ (fun rv σ2 => G 203 [some (2, 93, 0), some (0, 0, t), some (0, 0, x), some (0, 0, 234 + (4 * t)), some (0, 0, σ 95 (fw_c ((234 + (4 * t)) + 1)).toNat), some (0, 0, σ 95 (fw_c ((234 + (4 * t)) + 2)).toNat), none] (rv.toList ++ []) σ2))) ∧ (62 ≠ fw_c (σ 95 (fw_c (234 + (4 * t))).toNat) → ((0 ≤ fw_c (234 + (4 * t)) ∧ fw_c (234 + (4 * t)) < ((474 : Nat) : Int)) ∧ (sp_m_tell [(2, 93, 0), (0, 0, x), (0, 0, ((σ 95 (fw_c (234 + (4 * t))).toNat) - 50) - 13)] σ (fun rv σ2 => G 221 [some (2, 93, 0), some (0, 0, t), some (0, 0, x), some (0, 0, 234 + (4 * t)), some (0, 0, σ 95 (fw_c ((234 + (4 * t)) + 1)).toNat), some (0, 0, σ 95 (fw_c ((234 + (4 * t)) + 2)).toNat), none] (rv.toList ++ []) σ2)))))))))))))))))) : G 0 [some (2, 93, 0), some (0, 0, t), some (0, 0, x), none, none, none, none] [] σ := fw_on hG [99, 115, 125, 141, 151, 175, 183, 203, 221] 200 h
theorem fs_m_holds9_221 {G : fw_K} {R : fw_KR} (hG : fw_cls st_m_holds9 R G) {a1 a2 a3 a4 a5 b0 : Int} {σ : ab_SG} (h : (0 ≤ fw_c (a3 + 3) ∧ fw_c (a3 + 3) < ((474 : Nat) : Int)) ∧ ((fw_c (σ 95 (fw_c (a3 + 3)).toNat) ≠ fw_c 60 → (0 ≤ fw_c (a3 + 3) ∧ fw_c (a3 + 3) < ((474 : Nat) : Int)) ∧ ((fw_c (σ 95 (fw_c (a3 + 3)).toNat) ≠ fw_c 61 → (fw_c b0 ≤ fw_c a5 → (0 ≤ fw_c 0 ∧ fw_c 0 ≤ 1) ∧ R (some (0, 0, 0)) σ) ∧ (fw_c a5 < fw_c b0 → (0 ≤ fw_c 1 ∧ fw_c 1 ≤ 1) ∧ R (some (0, 0, 1)) σ)) ∧ (fw_c (σ 95 (fw_c (a3 + 3)).toNat) = fw_c 61 → (fw_c b0 ≠ fw_c a5 → (0 ≤ fw_c 0 ∧ fw_c 0 ≤ 1) ∧ R (some (0, 0, 0)) σ) ∧ (fw_c b0 = fw_c a5 → (0 ≤ fw_c 1 ∧ fw_c 1 ≤ 1) ∧ R (some (0, 0, 1)) σ)))) ∧ (fw_c (σ 95 (fw_c (a3 + 3)).toNat) = fw_c 60 → (fw_c a5 ≤ fw_c b0 → (0 ≤ fw_c 0 ∧ fw_c 0 ≤ 1) ∧ R (some (0, 0, 0)) σ) ∧ (fw_c b0 < fw_c a5 → (0 ≤ fw_c 1 ∧ fw_c 1 ≤ 1) ∧ R (some (0, 0, 1)) σ)))) : G 221 [some (2, 93, 0), some (0, 0, a1), some (0, 0, a2), some (0, 0, a3), some (0, 0, a4), some (0, 0, a5), none] [(0, 0, b0)] σ := fw_on hG [99, 115, 125, 141, 151, 175, 183, 203, 221] 200 h
theorem fs_m_holds9_203 {G : fw_K} {R : fw_KR} (hG : fw_cls st_m_holds9 R G) {a1 a2 a3 a4 a5 b0 : Int} {σ : ab_SG} (h : (0 ≤ fw_c b0 ∧ fw_c b0 ≤ 1) ∧ R (some (0, 0, b0)) σ) : G 203 [some (2, 93, 0), some (0, 0, a1), some (0, 0, a2), some (0, 0, a3), some (0, 0, a4), some (0, 0, a5), none] [(0, 0, b0)] σ := fw_on hG [99, 115, 125, 141, 151, 175, 183, 203, 221] 200 h
theorem fs_m_holds9_183 {G : fw_K} {R : fw_KR} (hG : fw_cls st_m_holds9 R G) {a1 a2 a3 a4 a5 b0 : Int} {σ : ab_SG} (h : (fw_c b0 ≠ fw_c 9 → (0 ≤ fw_c 0 ∧ fw_c 0 ≤ 1) ∧ R (some (0, 0, 0)) σ) ∧ (fw_c b0 = fw_c 9 → (0 ≤ fw_c 1 ∧ fw_c 1 ≤ 1) ∧ R (some (0, 0, 1)) σ)) : G 183 [some (2, 93, 0), some (0, 0, a1), some (0, 0, a2), some (0, 0, a3), some (0, 0, a4), some (0, 0, a5), none] [(0, 0, b0)] σ := fw_on hG [99, 115, 125, 141, 151, 175, 183, 203, 221] 200 h
theorem fs_m_holds9_175 {G : fw_K} {R : fw_KR} (hG : fw_cls st_m_holds9 R G) {a1 a2 a3 a4 a5 b0 : Int} {σ : ab_SG} (h : (0 ≤ fw_c b0 ∧ fw_c b0 ≤ 1) ∧ R (some (0, 0, b0)) σ) : G 175 [some (2, 93, 0), some (0, 0, a1), some (0, 0, a2), some (0, 0, a3), some (0, 0, a4), some (0, 0, a5), none] [(0, 0, b0)] σ := fw_on hG [99, 115, 125, 141, 151, 175, 183, 203, 221] 200 h
theorem fs_m_holds9_141 {G : fw_K} {R : fw_KR} (hG : fw_cls st_m_holds9 R G) {a1 a2 a3 a4 a5 b0 : Int} {σ : ab_SG} (h : (fw_c b0 ≠ 0 → (0 ≤ fw_c 1 ∧ fw_c 1 ≤ 1) ∧ R (some (0, 0, 1)) σ) ∧ (fw_c b0 = 0 → sp_m_holds 8 [(2, 93, 0), (0, 0, a5), (0, 0, a2)] σ (fun rv σ2 => G 151 [some (2, 93, 0), some (0, 0, a1), some (0, 0, a2), some (0, 0, a3), some (0, 0, a4), some (0, 0, a5), none] (rv.toList ++ []) σ2))) : G 141 [some (2, 93, 0), some (0, 0, a1), some (0, 0, a2), some (0, 0, a3), some (0, 0, a4), some (0, 0, a5), none] [(0, 0, b0)] σ := fw_on hG [99, 115, 125, 141, 151, 175, 183, 203, 221] 200 h
theorem fs_m_holds9_115 {G : fw_K} {R : fw_KR} (hG : fw_cls st_m_holds9 R G) {a1 a2 a3 a4 a5 b0 : Int} {σ : ab_SG} (h : (fw_c b0 = 0 → (0 ≤ fw_c 0 ∧ fw_c 0 ≤ 1) ∧ R (some (0, 0, 0)) σ) ∧ (fw_c b0 ≠ 0 → sp_m_holds 8 [(2, 93, 0), (0, 0, a5), (0, 0, a2)] σ (fun rv σ2 => G 125 [some (2, 93, 0), some (0, 0, a1), some (0, 0, a2), some (0, 0, a3), some (0, 0, a4), some (0, 0, a5), none] (rv.toList ++ []) σ2))) : G 115 [some (2, 93, 0), some (0, 0, a1), some (0, 0, a2), some (0, 0, a3), some (0, 0, a4), some (0, 0, a5), none] [(0, 0, b0)] σ := fw_on hG [99, 115, 125, 141, 151, 175, 183, 203, 221] 200 h
theorem fs_m_holds9_99 {G : fw_K} {R : fw_KR} (hG : fw_cls st_m_holds9 R G) {a1 a2 a3 a4 a5 b0 : Int} {σ : ab_SG} (h : (fw_c b0 ≠ 0 → (0 ≤ fw_c 0 ∧ fw_c 0 ≤ 1) ∧ R (some (0, 0, 0)) σ) ∧ (fw_c b0 = 0 → (0 ≤ fw_c 1 ∧ fw_c 1 ≤ 1) ∧ R (some (0, 0, 1)) σ)) : G 99 [some (2, 93, 0), some (0, 0, a1), some (0, 0, a2), some (0, 0, a3), some (0, 0, a4), some (0, 0, a5), none] [(0, 0, b0)] σ := fw_on hG [99, 115, 125, 141, 151, 175, 183, 203, 221] 200 h
theorem fs_m_holds9_151 {G : fw_K} {R : fw_KR} (hG : fw_cls st_m_holds9 R G) {a1 a2 a3 a4 a5 b0 : Int} {σ : ab_SG} (h : (fw_c b0 = 0 → (0 ≤ fw_c 0 ∧ fw_c 0 ≤ 1) ∧ R (some (0, 0, 0)) σ) ∧ (fw_c b0 ≠ 0 → (0 ≤ fw_c 1 ∧ fw_c 1 ≤ 1) ∧ R (some (0, 0, 1)) σ)) : G 151 [some (2, 93, 0), some (0, 0, a1), some (0, 0, a2), some (0, 0, a3), some (0, 0, a4), some (0, 0, a5), none] [(0, 0, b0)] σ := fw_on hG [99, 115, 125, 141, 151, 175, 183, 203, 221] 200 h
theorem fs_m_holds9_125 {G : fw_K} {R : fw_KR} (hG : fw_cls st_m_holds9 R G) {a1 a2 a3 a4 a5 b0 : Int} {σ : ab_SG} (h : (fw_c b0 = 0 → (0 ≤ fw_c 0 ∧ fw_c 0 ≤ 1) ∧ R (some (0, 0, 0)) σ) ∧ (fw_c b0 ≠ 0 → (0 ≤ fw_c 1 ∧ fw_c 1 ≤ 1) ∧ R (some (0, 0, 1)) σ)) : G 125 [some (2, 93, 0), some (0, 0, a1), some (0, 0, a2), some (0, 0, a3), some (0, 0, a4), some (0, 0, a5), none] [(0, 0, b0)] σ := fw_on hG [99, 115, 125, 141, 151, 175, 183, 203, 221] 200 h
section
variable {l : Launch} {cy : Nat → ClassId} {ad wr cr : Nat → Nat} {D : va_G}
theorem fm_m_holds9 (hinj : nn_inj ad) : fw_H l cy ad wr cr D 351 14 (sp_m_holds 9) := fw_mk hinj (⟨"NameNotesModel", "holds", "(II)Z"⟩, prog_14_method_148_code, 7, (Option.some Jvm.ClassFile.FieldType.boolean), 2, true, 1) rfl rfl nn_KI20_ok nn_KJ20_ok nn_PF20_ok nn_PS20_ok (by decide +kernel) rfl rfl (List.forall_mem_cons.mpr ⟨fw_row nn_PM20_ok (x := 216) (k := 0) (mn := 230) (np := 2) (ob := false) (ci := 0) (⟨"NameNotesModel", "has", "(II)Z"⟩, prog_14_method_9_code, 2, (Option.some Jvm.ClassFile.FieldType.boolean), 2, false, 1) rfl (by decide +kernel) rfl rfl (by decide) (fun q => by cases q) (fm_m_has hinj), (List.forall_mem_cons.mpr ⟨fw_row nn_PM20_ok (x := 277) (k := 0) (mn := 244) (np := 2) (ob := true) (ci := 11) (⟨"NameNotesModel", "tell", "(II)I"⟩, prog_14_method_50_code, 6, (Option.some Jvm.ClassFile.FieldType.int), 2, true, 0) rfl (by decide +kernel) rfl rfl (by decide) (fun _ => ⟨_, _, rfl⟩) (fm_m_tell hinj), (List.forall_mem_cons.mpr ⟨fw_row nn_PM20_ok (x := 284) (k := 0) (mn := 250) (np := 2) (ob := true) (ci := 11) (⟨"NameNotesModel", "known", "(II)I"⟩, prog_14_method_54_code, 3, (Option.some Jvm.ClassFile.FieldType.int), 2, true, 0) rfl (by decide +kernel) rfl rfl (by decide) (fun _ => ⟨_, _, rfl⟩) (fm_m_known hinj), (List.forall_mem_cons.mpr ⟨fw_row nn_PM20_ok (x := 294) (k := 0) (mn := 257) (np := 4) (ob := true) (ci := 11) (⟨"NameNotesModel", "areLike", "(IIII)Z"⟩, prog_14_method_59_code, 5, (Option.some Jvm.ClassFile.FieldType.boolean), 4, true, 1) rfl (by decide +kernel) rfl rfl (by decide) (fun _ => ⟨_, _, rfl⟩) (fm_m_areLike hinj), (List.forall_mem_cons.mpr ⟨fw_row nn_PM20_ok (x := 525) (k := 0) (mn := 351) (np := 2) (ob := true) (ci := 11) (⟨"NameNotesModel", "holds", "(II)Z"⟩, prog_14_method_148_code, 7, (Option.some Jvm.ClassFile.FieldType.boolean), 2, true, 1) rfl (by decide +kernel) rfl rfl (by decide) (fun _ => ⟨_, _, rfl⟩) (fm_m_holds8 hinj), (fun _ h => absurd h List.not_mem_nil)⟩)⟩)⟩)⟩)⟩) (fun as σ K h => by
  obtain ⟨A, x, t, L, rfl, hN, hx, H, hv, h⟩ := h
  exact ⟨rfl, fun G hG => mh_core hN hx H hv h (fs_m_holds9_0 hG) (fs_m_holds9_221 hG) (fs_m_holds9_203 hG) (fs_m_holds9_183 hG) (fs_m_holds9_175 hG) (fs_m_holds9_141 hG) (fs_m_holds9_115 hG) (fs_m_holds9_99 hG) (fs_m_holds9_151 hG) (fs_m_holds9_125 hG)⟩)
end
abbrev fk_m_holds10 : List fw_CR := [(216, 2, false, 0, 0, sp_m_has), (277, 2, true, 11, 2, sp_m_tell), (284, 2, true, 11, 0, sp_m_known), (294, 4, true, 11, 4, sp_m_areLike), (525, 2, true, 11, 14, sp_m_holds 9)]
abbrev st_m_holds10 : fw_K → fw_KR → fw_K := fw_st vwCl nn_sh nn_kd fw_kv fw_wc (nn_KI20.map (fun x => x.1)) (nn_KJ20.map (fun x => x.1)) (nn_PF20.map (fun x => x.1)) (nn_PS20.map (fun x => x.1)) fk_m_holds10 15 nn_dt351 7 1
theorem fs_m_holds10_0 {G : fw_K} {R : fw_KR} (hG : fw_cls st_m_holds10 R G) {t x : Int} {σ : ab_SG} (h : (0 ≤ fw_c ((234 + (4 * t)) + 1) ∧ fw_c ((234 + (4 * t)) + 1) < ((474 : Nat) : Int)) ∧ ((0 ≤ fw_c ((234 + (4 * t)) + 2) ∧ fw_c ((234 + (4 * t)) + 2) < ((474 : Nat) : Int)) ∧ ((0 ≤ fw_c (234 + (4 * t)) ∧ fw_c (234 + (4 * t)) < ((474 : Nat) : Int)) ∧ ((1 = fw_c (σ 95 (fw_c (234 + (4 * t))).toNat) → (sp_m_holds 9 [(2, 93, 0), (0, 0, σ 95 (fw_c ((234 + (4 * t)) + 1)).toNat), (0, 0, x)] σ (fun rv σ2 => G 99 [some (2, 93, 0), some (0, 0, t), some (0, 0, x), some (0, 0, 234 + (4 * t)), some (0, 0, σ 95 (fw_c ((234 + (4 * t)) + 1)).toNat), some (0, 0, σ 95 (fw_c ((234 + (4 * t)) + 2)).toNat), none] (rv.toList ++ []) σ2))) ∧ (1 ≠ fw_c (σ 95 (fw_c (234 + (4 * t))).toNat) → ((2 = fw_c (σ 95 (fw_c (234 + (4 * t))).toNat) → (sp_m_holds 9 [(2, 93, 0), (0, 0, σ 95 (fw_c ((234 + (4 * t)) + 1)).toNat), (0, 0, x)] σ (fun rv σ2 => G 115 [some (2, 93, 0), some (0, 0, t), some (0, 0, x), some (0, 0, 234 + (4 * t)), some (0, 0, σ 95 (fw_c ((234 + (4 * t)) + 1)).toNat), some (0, 0, σ 95 (fw_c ((234 + (4 * t)) + 2)).toNat), none] (rv.toList ++ []) σ2))) ∧ (2 ≠ fw_c (σ 95 (fw_c (234 + (4 * t))).toNat) → ((3 = fw_c (σ 95 (fw_c (234 + (4 * t))).toNat) → (sp_m_holds 9 [(2, 93, 0), (0, 0, σ 95 (fw_c ((234 + (4 * t)) + 1)).toNat), (0, 0, x)] σ (fun rv σ2 => G 141 [some (2, 93, 0), some (0, 0, t), some (0, 0, x), some (0, 0, 234 + (4 * t)), some (0, 0, σ 95 (fw_c ((234 + (4 * t)) + 1)).toNat), some (0, 0, σ 95 (fw_c ((234 + (4 * t)) + 2)).toNat), none] (rv.toList ++ []) σ2))) ∧ (3 ≠ fw_c (σ 95 (fw_c (234 + (4 * t))).toNat) → ((60 = fw_c (σ 95 (fw_c (234 + (4 * t))).toNat) → ((0 ≤ fw_c (176 + (σ 95 (fw_c ((234 + (4 * t)) + 1)).toNat)) ∧ fw_c (176 + (σ 95 (fw_c ((234 + (4 * t)) + 1)).toNat)) < ((474 : Nat) : Int)) ∧ (sp_m_has [(0, 0, σ 95 (fw_c (176 + (σ 95 (fw_c ((234 + (4 * t)) + 1)).toNat))).toNat), (0, 0, x)] σ (fun rv σ2 => G 175 [some (2, 93, 0), some (0, 0, t), some (0, 0, x), some (0, 0, 234 + (4 * t)), some (0, 0, σ 95 (fw_c ((234 + (4 * t)) + 1)).toNat), some (0, 0, σ 95 (fw_c ((234 + (4 * t)) + 2)).toNat), none] (rv.toList ++ []) σ2)))) ∧ (60 ≠ fw_c (σ 95 (fw_c (234 + (4 * t))).toNat) → ((61 = fw_c (σ 95 (fw_c (234 + (4 * t))).toNat) → (sp_m_known [(2, 93, 0), (0, 0, σ 95 (fw_c ((234 + (4 * t)) + 1)).toNat), (0, 0, x)] σ (fun rv σ2 => G 183 [some (2, 93, 0), some (0, 0, t), some (0, 0, x), some (0, 0, 234 + (4 * t)), some (0, 0, σ 95 (fw_c ((234 + (4 * t)) + 1)).toNat), some (0, 0, σ 95 (fw_c ((234 + (4 * t)) + 2)).toNat), none] (rv.toList ++ []) σ2))) ∧ (61 ≠ fw_c (σ 95 (fw_c (234 + (4 * t))).toNat) → ((62 = fw_c (σ 95 (fw_c (234 + (4 * t))).toNat) → (sp_m_areLike [(2, 93, 0), (0, 0, σ 95 (fw_c ((234 + (4 * t)) + 1)).toNat), (0, 0, x), (0, 0, 3), (0, 0, 0)] σ (fun rv σ2 => G 203 [some (2, 93, 0), some (0, 0, t), some (0, 0, x), some (0, 0, 234 + (4 * t)), some (0, 0, σ 95 (fw_c ((234 + (4 * t)) + 1)).toNat), some (0, 0, σ 95 (fw_c ((234 + (4 * t)) + 2)).toNat), none] (rv.toList ++ []) σ2))) ∧ (62 ≠ fw_c (σ 95 (fw_c (234 + (4 * t))).toNat) → ((0 ≤ fw_c (234 + (4 * t)) ∧ fw_c (234 + (4 * t)) < ((474 : Nat) : Int)) ∧ (sp_m_tell [(2, 93, 0), (0, 0, x), (0, 0, ((σ 95 (fw_c (234 + (4 * t))).toNat) - 50) - 13)] σ (fun rv σ2 => G 221 [some (2, 93, 0), some (0, 0, t), some (0, 0, x), some (0, 0, 234 + (4 * t)), some (0, 0, σ 95 (fw_c ((234 + (4 * t)) + 1)).toNat), some (0, 0, σ 95 (fw_c ((234 + (4 * t)) + 2)).toNat), none] (rv.toList ++ []) σ2)))))))))))))))))) : G 0 [some (2, 93, 0), some (0, 0, t), some (0, 0, x), none, none, none, none] [] σ := fw_on hG [99, 115, 125, 141, 151, 175, 183, 203, 221] 200 h
theorem fs_m_holds10_221 {G : fw_K} {R : fw_KR} (hG : fw_cls st_m_holds10 R G) {a1 a2 a3 a4 a5 b0 : Int} {σ : ab_SG} (h : (0 ≤ fw_c (a3 + 3) ∧ fw_c (a3 + 3) < ((474 : Nat) : Int)) ∧ ((fw_c (σ 95 (fw_c (a3 + 3)).toNat) ≠ fw_c 60 → (0 ≤ fw_c (a3 + 3) ∧ fw_c (a3 + 3) < ((474 : Nat) : Int)) ∧ ((fw_c (σ 95 (fw_c (a3 + 3)).toNat) ≠ fw_c 61 → (fw_c b0 ≤ fw_c a5 → (0 ≤ fw_c 0 ∧ fw_c 0 ≤ 1) ∧ R (some (0, 0, 0)) σ) ∧ (fw_c a5 < fw_c b0 → (0 ≤ fw_c 1 ∧ fw_c 1 ≤ 1) ∧ R (some (0, 0, 1)) σ)) ∧ (fw_c (σ 95 (fw_c (a3 + 3)).toNat) = fw_c 61 → (fw_c b0 ≠ fw_c a5 → (0 ≤ fw_c 0 ∧ fw_c 0 ≤ 1) ∧ R (some (0, 0, 0)) σ) ∧ (fw_c b0 = fw_c a5 → (0 ≤ fw_c 1 ∧ fw_c 1 ≤ 1) ∧ R (some (0, 0, 1)) σ)))) ∧ (fw_c (σ 95 (fw_c (a3 + 3)).toNat) = fw_c 60 → (fw_c a5 ≤ fw_c b0 → (0 ≤ fw_c 0 ∧ fw_c 0 ≤ 1) ∧ R (some (0, 0, 0)) σ) ∧ (fw_c b0 < fw_c a5 → (0 ≤ fw_c 1 ∧ fw_c 1 ≤ 1) ∧ R (some (0, 0, 1)) σ)))) : G 221 [some (2, 93, 0), some (0, 0, a1), some (0, 0, a2), some (0, 0, a3), some (0, 0, a4), some (0, 0, a5), none] [(0, 0, b0)] σ := fw_on hG [99, 115, 125, 141, 151, 175, 183, 203, 221] 200 h
theorem fs_m_holds10_203 {G : fw_K} {R : fw_KR} (hG : fw_cls st_m_holds10 R G) {a1 a2 a3 a4 a5 b0 : Int} {σ : ab_SG} (h : (0 ≤ fw_c b0 ∧ fw_c b0 ≤ 1) ∧ R (some (0, 0, b0)) σ) : G 203 [some (2, 93, 0), some (0, 0, a1), some (0, 0, a2), some (0, 0, a3), some (0, 0, a4), some (0, 0, a5), none] [(0, 0, b0)] σ := fw_on hG [99, 115, 125, 141, 151, 175, 183, 203, 221] 200 h
theorem fs_m_holds10_183 {G : fw_K} {R : fw_KR} (hG : fw_cls st_m_holds10 R G) {a1 a2 a3 a4 a5 b0 : Int} {σ : ab_SG} (h : (fw_c b0 ≠ fw_c 9 → (0 ≤ fw_c 0 ∧ fw_c 0 ≤ 1) ∧ R (some (0, 0, 0)) σ) ∧ (fw_c b0 = fw_c 9 → (0 ≤ fw_c 1 ∧ fw_c 1 ≤ 1) ∧ R (some (0, 0, 1)) σ)) : G 183 [some (2, 93, 0), some (0, 0, a1), some (0, 0, a2), some (0, 0, a3), some (0, 0, a4), some (0, 0, a5), none] [(0, 0, b0)] σ := fw_on hG [99, 115, 125, 141, 151, 175, 183, 203, 221] 200 h
theorem fs_m_holds10_175 {G : fw_K} {R : fw_KR} (hG : fw_cls st_m_holds10 R G) {a1 a2 a3 a4 a5 b0 : Int} {σ : ab_SG} (h : (0 ≤ fw_c b0 ∧ fw_c b0 ≤ 1) ∧ R (some (0, 0, b0)) σ) : G 175 [some (2, 93, 0), some (0, 0, a1), some (0, 0, a2), some (0, 0, a3), some (0, 0, a4), some (0, 0, a5), none] [(0, 0, b0)] σ := fw_on hG [99, 115, 125, 141, 151, 175, 183, 203, 221] 200 h
theorem fs_m_holds10_141 {G : fw_K} {R : fw_KR} (hG : fw_cls st_m_holds10 R G) {a1 a2 a3 a4 a5 b0 : Int} {σ : ab_SG} (h : (fw_c b0 ≠ 0 → (0 ≤ fw_c 1 ∧ fw_c 1 ≤ 1) ∧ R (some (0, 0, 1)) σ) ∧ (fw_c b0 = 0 → sp_m_holds 9 [(2, 93, 0), (0, 0, a5), (0, 0, a2)] σ (fun rv σ2 => G 151 [some (2, 93, 0), some (0, 0, a1), some (0, 0, a2), some (0, 0, a3), some (0, 0, a4), some (0, 0, a5), none] (rv.toList ++ []) σ2))) : G 141 [some (2, 93, 0), some (0, 0, a1), some (0, 0, a2), some (0, 0, a3), some (0, 0, a4), some (0, 0, a5), none] [(0, 0, b0)] σ := fw_on hG [99, 115, 125, 141, 151, 175, 183, 203, 221] 200 h
theorem fs_m_holds10_115 {G : fw_K} {R : fw_KR} (hG : fw_cls st_m_holds10 R G) {a1 a2 a3 a4 a5 b0 : Int} {σ : ab_SG} (h : (fw_c b0 = 0 → (0 ≤ fw_c 0 ∧ fw_c 0 ≤ 1) ∧ R (some (0, 0, 0)) σ) ∧ (fw_c b0 ≠ 0 → sp_m_holds 9 [(2, 93, 0), (0, 0, a5), (0, 0, a2)] σ (fun rv σ2 => G 125 [some (2, 93, 0), some (0, 0, a1), some (0, 0, a2), some (0, 0, a3), some (0, 0, a4), some (0, 0, a5), none] (rv.toList ++ []) σ2))) : G 115 [some (2, 93, 0), some (0, 0, a1), some (0, 0, a2), some (0, 0, a3), some (0, 0, a4), some (0, 0, a5), none] [(0, 0, b0)] σ := fw_on hG [99, 115, 125, 141, 151, 175, 183, 203, 221] 200 h
theorem fs_m_holds10_99 {G : fw_K} {R : fw_KR} (hG : fw_cls st_m_holds10 R G) {a1 a2 a3 a4 a5 b0 : Int} {σ : ab_SG} (h : (fw_c b0 ≠ 0 → (0 ≤ fw_c 0 ∧ fw_c 0 ≤ 1) ∧ R (some (0, 0, 0)) σ) ∧ (fw_c b0 = 0 → (0 ≤ fw_c 1 ∧ fw_c 1 ≤ 1) ∧ R (some (0, 0, 1)) σ)) : G 99 [some (2, 93, 0), some (0, 0, a1), some (0, 0, a2), some (0, 0, a3), some (0, 0, a4), some (0, 0, a5), none] [(0, 0, b0)] σ := fw_on hG [99, 115, 125, 141, 151, 175, 183, 203, 221] 200 h
theorem fs_m_holds10_151 {G : fw_K} {R : fw_KR} (hG : fw_cls st_m_holds10 R G) {a1 a2 a3 a4 a5 b0 : Int} {σ : ab_SG} (h : (fw_c b0 = 0 → (0 ≤ fw_c 0 ∧ fw_c 0 ≤ 1) ∧ R (some (0, 0, 0)) σ) ∧ (fw_c b0 ≠ 0 → (0 ≤ fw_c 1 ∧ fw_c 1 ≤ 1) ∧ R (some (0, 0, 1)) σ)) : G 151 [some (2, 93, 0), some (0, 0, a1), some (0, 0, a2), some (0, 0, a3), some (0, 0, a4), some (0, 0, a5), none] [(0, 0, b0)] σ := fw_on hG [99, 115, 125, 141, 151, 175, 183, 203, 221] 200 h
theorem fs_m_holds10_125 {G : fw_K} {R : fw_KR} (hG : fw_cls st_m_holds10 R G) {a1 a2 a3 a4 a5 b0 : Int} {σ : ab_SG} (h : (fw_c b0 = 0 → (0 ≤ fw_c 0 ∧ fw_c 0 ≤ 1) ∧ R (some (0, 0, 0)) σ) ∧ (fw_c b0 ≠ 0 → (0 ≤ fw_c 1 ∧ fw_c 1 ≤ 1) ∧ R (some (0, 0, 1)) σ)) : G 125 [some (2, 93, 0), some (0, 0, a1), some (0, 0, a2), some (0, 0, a3), some (0, 0, a4), some (0, 0, a5), none] [(0, 0, b0)] σ := fw_on hG [99, 115, 125, 141, 151, 175, 183, 203, 221] 200 h
section
variable {l : Launch} {cy : Nat → ClassId} {ad wr cr : Nat → Nat} {D : va_G}
theorem fm_m_holds10 (hinj : nn_inj ad) : fw_H l cy ad wr cr D 351 15 (sp_m_holds 10) := fw_mk hinj (⟨"NameNotesModel", "holds", "(II)Z"⟩, prog_14_method_148_code, 7, (Option.some Jvm.ClassFile.FieldType.boolean), 2, true, 1) rfl rfl nn_KI20_ok nn_KJ20_ok nn_PF20_ok nn_PS20_ok (by decide +kernel) rfl rfl (List.forall_mem_cons.mpr ⟨fw_row nn_PM20_ok (x := 216) (k := 0) (mn := 230) (np := 2) (ob := false) (ci := 0) (⟨"NameNotesModel", "has", "(II)Z"⟩, prog_14_method_9_code, 2, (Option.some Jvm.ClassFile.FieldType.boolean), 2, false, 1) rfl (by decide +kernel) rfl rfl (by decide) (fun q => by cases q) (fm_m_has hinj), (List.forall_mem_cons.mpr ⟨fw_row nn_PM20_ok (x := 277) (k := 0) (mn := 244) (np := 2) (ob := true) (ci := 11) (⟨"NameNotesModel", "tell", "(II)I"⟩, prog_14_method_50_code, 6, (Option.some Jvm.ClassFile.FieldType.int), 2, true, 0) rfl (by decide +kernel) rfl rfl (by decide) (fun _ => ⟨_, _, rfl⟩) (fm_m_tell hinj), (List.forall_mem_cons.mpr ⟨fw_row nn_PM20_ok (x := 284) (k := 0) (mn := 250) (np := 2) (ob := true) (ci := 11) (⟨"NameNotesModel", "known", "(II)I"⟩, prog_14_method_54_code, 3, (Option.some Jvm.ClassFile.FieldType.int), 2, true, 0) rfl (by decide +kernel) rfl rfl (by decide) (fun _ => ⟨_, _, rfl⟩) (fm_m_known hinj), (List.forall_mem_cons.mpr ⟨fw_row nn_PM20_ok (x := 294) (k := 0) (mn := 257) (np := 4) (ob := true) (ci := 11) (⟨"NameNotesModel", "areLike", "(IIII)Z"⟩, prog_14_method_59_code, 5, (Option.some Jvm.ClassFile.FieldType.boolean), 4, true, 1) rfl (by decide +kernel) rfl rfl (by decide) (fun _ => ⟨_, _, rfl⟩) (fm_m_areLike hinj), (List.forall_mem_cons.mpr ⟨fw_row nn_PM20_ok (x := 525) (k := 0) (mn := 351) (np := 2) (ob := true) (ci := 11) (⟨"NameNotesModel", "holds", "(II)Z"⟩, prog_14_method_148_code, 7, (Option.some Jvm.ClassFile.FieldType.boolean), 2, true, 1) rfl (by decide +kernel) rfl rfl (by decide) (fun _ => ⟨_, _, rfl⟩) (fm_m_holds9 hinj), (fun _ h => absurd h List.not_mem_nil)⟩)⟩)⟩)⟩)⟩) (fun as σ K h => by
  obtain ⟨A, x, t, L, rfl, hN, hx, H, hv, h⟩ := h
  exact ⟨rfl, fun G hG => mh_core hN hx H hv h (fs_m_holds10_0 hG) (fs_m_holds10_221 hG) (fs_m_holds10_203 hG) (fs_m_holds10_183 hG) (fs_m_holds10_175 hG) (fs_m_holds10_141 hG) (fs_m_holds10_115 hG) (fs_m_holds10_99 hG) (fs_m_holds10_151 hG) (fs_m_holds10_125 hG)⟩)
end
abbrev fk_m_holds11 : List fw_CR := [(216, 2, false, 0, 0, sp_m_has), (277, 2, true, 11, 2, sp_m_tell), (284, 2, true, 11, 0, sp_m_known), (294, 4, true, 11, 4, sp_m_areLike), (525, 2, true, 11, 15, sp_m_holds 10)]
abbrev st_m_holds11 : fw_K → fw_KR → fw_K := fw_st vwCl nn_sh nn_kd fw_kv fw_wc (nn_KI20.map (fun x => x.1)) (nn_KJ20.map (fun x => x.1)) (nn_PF20.map (fun x => x.1)) (nn_PS20.map (fun x => x.1)) fk_m_holds11 16 nn_dt351 7 1
theorem fs_m_holds11_0 {G : fw_K} {R : fw_KR} (hG : fw_cls st_m_holds11 R G) {t x : Int} {σ : ab_SG} (h : (0 ≤ fw_c ((234 + (4 * t)) + 1) ∧ fw_c ((234 + (4 * t)) + 1) < ((474 : Nat) : Int)) ∧ ((0 ≤ fw_c ((234 + (4 * t)) + 2) ∧ fw_c ((234 + (4 * t)) + 2) < ((474 : Nat) : Int)) ∧ ((0 ≤ fw_c (234 + (4 * t)) ∧ fw_c (234 + (4 * t)) < ((474 : Nat) : Int)) ∧ ((1 = fw_c (σ 95 (fw_c (234 + (4 * t))).toNat) → (sp_m_holds 10 [(2, 93, 0), (0, 0, σ 95 (fw_c ((234 + (4 * t)) + 1)).toNat), (0, 0, x)] σ (fun rv σ2 => G 99 [some (2, 93, 0), some (0, 0, t), some (0, 0, x), some (0, 0, 234 + (4 * t)), some (0, 0, σ 95 (fw_c ((234 + (4 * t)) + 1)).toNat), some (0, 0, σ 95 (fw_c ((234 + (4 * t)) + 2)).toNat), none] (rv.toList ++ []) σ2))) ∧ (1 ≠ fw_c (σ 95 (fw_c (234 + (4 * t))).toNat) → ((2 = fw_c (σ 95 (fw_c (234 + (4 * t))).toNat) → (sp_m_holds 10 [(2, 93, 0), (0, 0, σ 95 (fw_c ((234 + (4 * t)) + 1)).toNat), (0, 0, x)] σ (fun rv σ2 => G 115 [some (2, 93, 0), some (0, 0, t), some (0, 0, x), some (0, 0, 234 + (4 * t)), some (0, 0, σ 95 (fw_c ((234 + (4 * t)) + 1)).toNat), some (0, 0, σ 95 (fw_c ((234 + (4 * t)) + 2)).toNat), none] (rv.toList ++ []) σ2))) ∧ (2 ≠ fw_c (σ 95 (fw_c (234 + (4 * t))).toNat) → ((3 = fw_c (σ 95 (fw_c (234 + (4 * t))).toNat) → (sp_m_holds 10 [(2, 93, 0), (0, 0, σ 95 (fw_c ((234 + (4 * t)) + 1)).toNat), (0, 0, x)] σ (fun rv σ2 => G 141 [some (2, 93, 0), some (0, 0, t), some (0, 0, x), some (0, 0, 234 + (4 * t)), some (0, 0, σ 95 (fw_c ((234 + (4 * t)) + 1)).toNat), some (0, 0, σ 95 (fw_c ((234 + (4 * t)) + 2)).toNat), none] (rv.toList ++ []) σ2))) ∧ (3 ≠ fw_c (σ 95 (fw_c (234 + (4 * t))).toNat) → ((60 = fw_c (σ 95 (fw_c (234 + (4 * t))).toNat) → ((0 ≤ fw_c (176 + (σ 95 (fw_c ((234 + (4 * t)) + 1)).toNat)) ∧ fw_c (176 + (σ 95 (fw_c ((234 + (4 * t)) + 1)).toNat)) < ((474 : Nat) : Int)) ∧ (sp_m_has [(0, 0, σ 95 (fw_c (176 + (σ 95 (fw_c ((234 + (4 * t)) + 1)).toNat))).toNat), (0, 0, x)] σ (fun rv σ2 => G 175 [some (2, 93, 0), some (0, 0, t), some (0, 0, x), some (0, 0, 234 + (4 * t)), some (0, 0, σ 95 (fw_c ((234 + (4 * t)) + 1)).toNat), some (0, 0, σ 95 (fw_c ((234 + (4 * t)) + 2)).toNat), none] (rv.toList ++ []) σ2)))) ∧ (60 ≠ fw_c (σ 95 (fw_c (234 + (4 * t))).toNat) → ((61 = fw_c (σ 95 (fw_c (234 + (4 * t))).toNat) → (sp_m_known [(2, 93, 0), (0, 0, σ 95 (fw_c ((234 + (4 * t)) + 1)).toNat), (0, 0, x)] σ (fun rv σ2 => G 183 [some (2, 93, 0), some (0, 0, t), some (0, 0, x), some (0, 0, 234 + (4 * t)), some (0, 0, σ 95 (fw_c ((234 + (4 * t)) + 1)).toNat), some (0, 0, σ 95 (fw_c ((234 + (4 * t)) + 2)).toNat), none] (rv.toList ++ []) σ2))) ∧ (61 ≠ fw_c (σ 95 (fw_c (234 + (4 * t))).toNat) → ((62 = fw_c (σ 95 (fw_c (234 + (4 * t))).toNat) → (sp_m_areLike [(2, 93, 0), (0, 0, σ 95 (fw_c ((234 + (4 * t)) + 1)).toNat), (0, 0, x), (0, 0, 3), (0, 0, 0)] σ (fun rv σ2 => G 203 [some (2, 93, 0), some (0, 0, t), some (0, 0, x), some (0, 0, 234 + (4 * t)), some (0, 0, σ 95 (fw_c ((234 + (4 * t)) + 1)).toNat), some (0, 0, σ 95 (fw_c ((234 + (4 * t)) + 2)).toNat), none] (rv.toList ++ []) σ2))) ∧ (62 ≠ fw_c (σ 95 (fw_c (234 + (4 * t))).toNat) → ((0 ≤ fw_c (234 + (4 * t)) ∧ fw_c (234 + (4 * t)) < ((474 : Nat) : Int)) ∧ (sp_m_tell [(2, 93, 0), (0, 0, x), (0, 0, ((σ 95 (fw_c (234 + (4 * t))).toNat) - 50) - 13)] σ (fun rv σ2 => G 221 [some (2, 93, 0), some (0, 0, t), some (0, 0, x), some (0, 0, 234 + (4 * t)), some (0, 0, σ 95 (fw_c ((234 + (4 * t)) + 1)).toNat), some (0, 0, σ 95 (fw_c ((234 + (4 * t)) + 2)).toNat), none] (rv.toList ++ []) σ2)))))))))))))))))) : G 0 [some (2, 93, 0), some (0, 0, t), some (0, 0, x), none, none, none, none] [] σ := fw_on hG [99, 115, 125, 141, 151, 175, 183, 203, 221] 200 h
theorem fs_m_holds11_221 {G : fw_K} {R : fw_KR} (hG : fw_cls st_m_holds11 R G) {a1 a2 a3 a4 a5 b0 : Int} {σ : ab_SG} (h : (0 ≤ fw_c (a3 + 3) ∧ fw_c (a3 + 3) < ((474 : Nat) : Int)) ∧ ((fw_c (σ 95 (fw_c (a3 + 3)).toNat) ≠ fw_c 60 → (0 ≤ fw_c (a3 + 3) ∧ fw_c (a3 + 3) < ((474 : Nat) : Int)) ∧ ((fw_c (σ 95 (fw_c (a3 + 3)).toNat) ≠ fw_c 61 → (fw_c b0 ≤ fw_c a5 → (0 ≤ fw_c 0 ∧ fw_c 0 ≤ 1) ∧ R (some (0, 0, 0)) σ) ∧ (fw_c a5 < fw_c b0 → (0 ≤ fw_c 1 ∧ fw_c 1 ≤ 1) ∧ R (some (0, 0, 1)) σ)) ∧ (fw_c (σ 95 (fw_c (a3 + 3)).toNat) = fw_c 61 → (fw_c b0 ≠ fw_c a5 → (0 ≤ fw_c 0 ∧ fw_c 0 ≤ 1) ∧ R (some (0, 0, 0)) σ) ∧ (fw_c b0 = fw_c a5 → (0 ≤ fw_c 1 ∧ fw_c 1 ≤ 1) ∧ R (some (0, 0, 1)) σ)))) ∧ (fw_c (σ 95 (fw_c (a3 + 3)).toNat) = fw_c 60 → (fw_c a5 ≤ fw_c b0 → (0 ≤ fw_c 0 ∧ fw_c 0 ≤ 1) ∧ R (some (0, 0, 0)) σ) ∧ (fw_c b0 < fw_c a5 → (0 ≤ fw_c 1 ∧ fw_c 1 ≤ 1) ∧ R (some (0, 0, 1)) σ)))) : G 221 [some (2, 93, 0), some (0, 0, a1), some (0, 0, a2), some (0, 0, a3), some (0, 0, a4), some (0, 0, a5), none] [(0, 0, b0)] σ := fw_on hG [99, 115, 125, 141, 151, 175, 183, 203, 221] 200 h
theorem fs_m_holds11_203 {G : fw_K} {R : fw_KR} (hG : fw_cls st_m_holds11 R G) {a1 a2 a3 a4 a5 b0 : Int} {σ : ab_SG} (h : (0 ≤ fw_c b0 ∧ fw_c b0 ≤ 1) ∧ R (some (0, 0, b0)) σ) : G 203 [some (2, 93, 0), some (0, 0, a1), some (0, 0, a2), some (0, 0, a3), some (0, 0, a4), some (0, 0, a5), none] [(0, 0, b0)] σ := fw_on hG [99, 115, 125, 141, 151, 175, 183, 203, 221] 200 h
theorem fs_m_holds11_183 {G : fw_K} {R : fw_KR} (hG : fw_cls st_m_holds11 R G) {a1 a2 a3 a4 a5 b0 : Int} {σ : ab_SG} (h : (fw_c b0 ≠ fw_c 9 → (0 ≤ fw_c 0 ∧ fw_c 0 ≤ 1) ∧ R (some (0, 0, 0)) σ) ∧ (fw_c b0 = fw_c 9 → (0 ≤ fw_c 1 ∧ fw_c 1 ≤ 1) ∧ R (some (0, 0, 1)) σ)) : G 183 [some (2, 93, 0), some (0, 0, a1), some (0, 0, a2), some (0, 0, a3), some (0, 0, a4), some (0, 0, a5), none] [(0, 0, b0)] σ := fw_on hG [99, 115, 125, 141, 151, 175, 183, 203, 221] 200 h
theorem fs_m_holds11_175 {G : fw_K} {R : fw_KR} (hG : fw_cls st_m_holds11 R G) {a1 a2 a3 a4 a5 b0 : Int} {σ : ab_SG} (h : (0 ≤ fw_c b0 ∧ fw_c b0 ≤ 1) ∧ R (some (0, 0, b0)) σ) : G 175 [some (2, 93, 0), some (0, 0, a1), some (0, 0, a2), some (0, 0, a3), some (0, 0, a4), some (0, 0, a5), none] [(0, 0, b0)] σ := fw_on hG [99, 115, 125, 141, 151, 175, 183, 203, 221] 200 h
theorem fs_m_holds11_141 {G : fw_K} {R : fw_KR} (hG : fw_cls st_m_holds11 R G) {a1 a2 a3 a4 a5 b0 : Int} {σ : ab_SG} (h : (fw_c b0 ≠ 0 → (0 ≤ fw_c 1 ∧ fw_c 1 ≤ 1) ∧ R (some (0, 0, 1)) σ) ∧ (fw_c b0 = 0 → sp_m_holds 10 [(2, 93, 0), (0, 0, a5), (0, 0, a2)] σ (fun rv σ2 => G 151 [some (2, 93, 0), some (0, 0, a1), some (0, 0, a2), some (0, 0, a3), some (0, 0, a4), some (0, 0, a5), none] (rv.toList ++ []) σ2))) : G 141 [some (2, 93, 0), some (0, 0, a1), some (0, 0, a2), some (0, 0, a3), some (0, 0, a4), some (0, 0, a5), none] [(0, 0, b0)] σ := fw_on hG [99, 115, 125, 141, 151, 175, 183, 203, 221] 200 h
theorem fs_m_holds11_115 {G : fw_K} {R : fw_KR} (hG : fw_cls st_m_holds11 R G) {a1 a2 a3 a4 a5 b0 : Int} {σ : ab_SG} (h : (fw_c b0 = 0 → (0 ≤ fw_c 0 ∧ fw_c 0 ≤ 1) ∧ R (some (0, 0, 0)) σ) ∧ (fw_c b0 ≠ 0 → sp_m_holds 10 [(2, 93, 0), (0, 0, a5), (0, 0, a2)] σ (fun rv σ2 => G 125 [some (2, 93, 0), some (0, 0, a1), some (0, 0, a2), some (0, 0, a3), some (0, 0, a4), some (0, 0, a5), none] (rv.toList ++ []) σ2))) : G 115 [some (2, 93, 0), some (0, 0, a1), some (0, 0, a2), some (0, 0, a3), some (0, 0, a4), some (0, 0, a5), none] [(0, 0, b0)] σ := fw_on hG [99, 115, 125, 141, 151, 175, 183, 203, 221] 200 h
theorem fs_m_holds11_99 {G : fw_K} {R : fw_KR} (hG : fw_cls st_m_holds11 R G) {a1 a2 a3 a4 a5 b0 : Int} {σ : ab_SG} (h : (fw_c b0 ≠ 0 → (0 ≤ fw_c 0 ∧ fw_c 0 ≤ 1) ∧ R (some (0, 0, 0)) σ) ∧ (fw_c b0 = 0 → (0 ≤ fw_c 1 ∧ fw_c 1 ≤ 1) ∧ R (some (0, 0, 1)) σ)) : G 99 [some (2, 93, 0), some (0, 0, a1), some (0, 0, a2), some (0, 0, a3), some (0, 0, a4), some (0, 0, a5), none] [(0, 0, b0)] σ := fw_on hG [99, 115, 125, 141, 151, 175, 183, 203, 221] 200 h
theorem fs_m_holds11_151 {G : fw_K} {R : fw_KR} (hG : fw_cls st_m_holds11 R G) {a1 a2 a3 a4 a5 b0 : Int} {σ : ab_SG} (h : (fw_c b0 = 0 → (0 ≤ fw_c 0 ∧ fw_c 0 ≤ 1) ∧ R (some (0, 0, 0)) σ) ∧ (fw_c b0 ≠ 0 → (0 ≤ fw_c 1 ∧ fw_c 1 ≤ 1) ∧ R (some (0, 0, 1)) σ)) : G 151 [some (2, 93, 0), some (0, 0, a1), some (0, 0, a2), some (0, 0, a3), some (0, 0, a4), some (0, 0, a5), none] [(0, 0, b0)] σ := fw_on hG [99, 115, 125, 141, 151, 175, 183, 203, 221] 200 h
theorem fs_m_holds11_125 {G : fw_K} {R : fw_KR} (hG : fw_cls st_m_holds11 R G) {a1 a2 a3 a4 a5 b0 : Int} {σ : ab_SG} (h : (fw_c b0 = 0 → (0 ≤ fw_c 0 ∧ fw_c 0 ≤ 1) ∧ R (some (0, 0, 0)) σ) ∧ (fw_c b0 ≠ 0 → (0 ≤ fw_c 1 ∧ fw_c 1 ≤ 1) ∧ R (some (0, 0, 1)) σ)) : G 125 [some (2, 93, 0), some (0, 0, a1), some (0, 0, a2), some (0, 0, a3), some (0, 0, a4), some (0, 0, a5), none] [(0, 0, b0)] σ := fw_on hG [99, 115, 125, 141, 151, 175, 183, 203, 221] 200 h
section
variable {l : Launch} {cy : Nat → ClassId} {ad wr cr : Nat → Nat} {D : va_G}
theorem fm_m_holds11 (hinj : nn_inj ad) : fw_H l cy ad wr cr D 351 16 (sp_m_holds 11) := fw_mk hinj (⟨"NameNotesModel", "holds", "(II)Z"⟩, prog_14_method_148_code, 7, (Option.some Jvm.ClassFile.FieldType.boolean), 2, true, 1) rfl rfl nn_KI20_ok nn_KJ20_ok nn_PF20_ok nn_PS20_ok (by decide +kernel) rfl rfl (List.forall_mem_cons.mpr ⟨fw_row nn_PM20_ok (x := 216) (k := 0) (mn := 230) (np := 2) (ob := false) (ci := 0) (⟨"NameNotesModel", "has", "(II)Z"⟩, prog_14_method_9_code, 2, (Option.some Jvm.ClassFile.FieldType.boolean), 2, false, 1) rfl (by decide +kernel) rfl rfl (by decide) (fun q => by cases q) (fm_m_has hinj), (List.forall_mem_cons.mpr ⟨fw_row nn_PM20_ok (x := 277) (k := 0) (mn := 244) (np := 2) (ob := true) (ci := 11) (⟨"NameNotesModel", "tell", "(II)I"⟩, prog_14_method_50_code, 6, (Option.some Jvm.ClassFile.FieldType.int), 2, true, 0) rfl (by decide +kernel) rfl rfl (by decide) (fun _ => ⟨_, _, rfl⟩) (fm_m_tell hinj), (List.forall_mem_cons.mpr ⟨fw_row nn_PM20_ok (x := 284) (k := 0) (mn := 250) (np := 2) (ob := true) (ci := 11) (⟨"NameNotesModel", "known", "(II)I"⟩, prog_14_method_54_code, 3, (Option.some Jvm.ClassFile.FieldType.int), 2, true, 0) rfl (by decide +kernel) rfl rfl (by decide) (fun _ => ⟨_, _, rfl⟩) (fm_m_known hinj), (List.forall_mem_cons.mpr ⟨fw_row nn_PM20_ok (x := 294) (k := 0) (mn := 257) (np := 4) (ob := true) (ci := 11) (⟨"NameNotesModel", "areLike", "(IIII)Z"⟩, prog_14_method_59_code, 5, (Option.some Jvm.ClassFile.FieldType.boolean), 4, true, 1) rfl (by decide +kernel) rfl rfl (by decide) (fun _ => ⟨_, _, rfl⟩) (fm_m_areLike hinj), (List.forall_mem_cons.mpr ⟨fw_row nn_PM20_ok (x := 525) (k := 0) (mn := 351) (np := 2) (ob := true) (ci := 11) (⟨"NameNotesModel", "holds", "(II)Z"⟩, prog_14_method_148_code, 7, (Option.some Jvm.ClassFile.FieldType.boolean), 2, true, 1) rfl (by decide +kernel) rfl rfl (by decide) (fun _ => ⟨_, _, rfl⟩) (fm_m_holds10 hinj), (fun _ h => absurd h List.not_mem_nil)⟩)⟩)⟩)⟩)⟩) (fun as σ K h => by
  obtain ⟨A, x, t, L, rfl, hN, hx, H, hv, h⟩ := h
  exact ⟨rfl, fun G hG => mh_core hN hx H hv h (fs_m_holds11_0 hG) (fs_m_holds11_221 hG) (fs_m_holds11_203 hG) (fs_m_holds11_183 hG) (fs_m_holds11_175 hG) (fs_m_holds11_141 hG) (fs_m_holds11_115 hG) (fs_m_holds11_99 hG) (fs_m_holds11_151 hG) (fs_m_holds11_125 hG)⟩)
end
abbrev fk_m_holds12 : List fw_CR := [(216, 2, false, 0, 0, sp_m_has), (277, 2, true, 11, 2, sp_m_tell), (284, 2, true, 11, 0, sp_m_known), (294, 4, true, 11, 4, sp_m_areLike), (525, 2, true, 11, 16, sp_m_holds 11)]
abbrev st_m_holds12 : fw_K → fw_KR → fw_K := fw_st vwCl nn_sh nn_kd fw_kv fw_wc (nn_KI20.map (fun x => x.1)) (nn_KJ20.map (fun x => x.1)) (nn_PF20.map (fun x => x.1)) (nn_PS20.map (fun x => x.1)) fk_m_holds12 17 nn_dt351 7 1
theorem fs_m_holds12_0 {G : fw_K} {R : fw_KR} (hG : fw_cls st_m_holds12 R G) {t x : Int} {σ : ab_SG} (h : (0 ≤ fw_c ((234 + (4 * t)) + 1) ∧ fw_c ((234 + (4 * t)) + 1) < ((474 : Nat) : Int)) ∧ ((0 ≤ fw_c ((234 + (4 * t)) + 2) ∧ fw_c ((234 + (4 * t)) + 2) < ((474 : Nat) : Int)) ∧ ((0 ≤ fw_c (234 + (4 * t)) ∧ fw_c (234 + (4 * t)) < ((474 : Nat) : Int)) ∧ ((1 = fw_c (σ 95 (fw_c (234 + (4 * t))).toNat) → (sp_m_holds 11 [(2, 93, 0), (0, 0, σ 95 (fw_c ((234 + (4 * t)) + 1)).toNat), (0, 0, x)] σ (fun rv σ2 => G 99 [some (2, 93, 0), some (0, 0, t), some (0, 0, x), some (0, 0, 234 + (4 * t)), some (0, 0, σ 95 (fw_c ((234 + (4 * t)) + 1)).toNat), some (0, 0, σ 95 (fw_c ((234 + (4 * t)) + 2)).toNat), none] (rv.toList ++ []) σ2))) ∧ (1 ≠ fw_c (σ 95 (fw_c (234 + (4 * t))).toNat) → ((2 = fw_c (σ 95 (fw_c (234 + (4 * t))).toNat) → (sp_m_holds 11 [(2, 93, 0), (0, 0, σ 95 (fw_c ((234 + (4 * t)) + 1)).toNat), (0, 0, x)] σ (fun rv σ2 => G 115 [some (2, 93, 0), some (0, 0, t), some (0, 0, x), some (0, 0, 234 + (4 * t)), some (0, 0, σ 95 (fw_c ((234 + (4 * t)) + 1)).toNat), some (0, 0, σ 95 (fw_c ((234 + (4 * t)) + 2)).toNat), none] (rv.toList ++ []) σ2))) ∧ (2 ≠ fw_c (σ 95 (fw_c (234 + (4 * t))).toNat) → ((3 = fw_c (σ 95 (fw_c (234 + (4 * t))).toNat) → (sp_m_holds 11 [(2, 93, 0), (0, 0, σ 95 (fw_c ((234 + (4 * t)) + 1)).toNat), (0, 0, x)] σ (fun rv σ2 => G 141 [some (2, 93, 0), some (0, 0, t), some (0, 0, x), some (0, 0, 234 + (4 * t)), some (0, 0, σ 95 (fw_c ((234 + (4 * t)) + 1)).toNat), some (0, 0, σ 95 (fw_c ((234 + (4 * t)) + 2)).toNat), none] (rv.toList ++ []) σ2))) ∧ (3 ≠ fw_c (σ 95 (fw_c (234 + (4 * t))).toNat) → ((60 = fw_c (σ 95 (fw_c (234 + (4 * t))).toNat) → ((0 ≤ fw_c (176 + (σ 95 (fw_c ((234 + (4 * t)) + 1)).toNat)) ∧ fw_c (176 + (σ 95 (fw_c ((234 + (4 * t)) + 1)).toNat)) < ((474 : Nat) : Int)) ∧ (sp_m_has [(0, 0, σ 95 (fw_c (176 + (σ 95 (fw_c ((234 + (4 * t)) + 1)).toNat))).toNat), (0, 0, x)] σ (fun rv σ2 => G 175 [some (2, 93, 0), some (0, 0, t), some (0, 0, x), some (0, 0, 234 + (4 * t)), some (0, 0, σ 95 (fw_c ((234 + (4 * t)) + 1)).toNat), some (0, 0, σ 95 (fw_c ((234 + (4 * t)) + 2)).toNat), none] (rv.toList ++ []) σ2)))) ∧ (60 ≠ fw_c (σ 95 (fw_c (234 + (4 * t))).toNat) → ((61 = fw_c (σ 95 (fw_c (234 + (4 * t))).toNat) → (sp_m_known [(2, 93, 0), (0, 0, σ 95 (fw_c ((234 + (4 * t)) + 1)).toNat), (0, 0, x)] σ (fun rv σ2 => G 183 [some (2, 93, 0), some (0, 0, t), some (0, 0, x), some (0, 0, 234 + (4 * t)), some (0, 0, σ 95 (fw_c ((234 + (4 * t)) + 1)).toNat), some (0, 0, σ 95 (fw_c ((234 + (4 * t)) + 2)).toNat), none] (rv.toList ++ []) σ2))) ∧ (61 ≠ fw_c (σ 95 (fw_c (234 + (4 * t))).toNat) → ((62 = fw_c (σ 95 (fw_c (234 + (4 * t))).toNat) → (sp_m_areLike [(2, 93, 0), (0, 0, σ 95 (fw_c ((234 + (4 * t)) + 1)).toNat), (0, 0, x), (0, 0, 3), (0, 0, 0)] σ (fun rv σ2 => G 203 [some (2, 93, 0), some (0, 0, t), some (0, 0, x), some (0, 0, 234 + (4 * t)), some (0, 0, σ 95 (fw_c ((234 + (4 * t)) + 1)).toNat), some (0, 0, σ 95 (fw_c ((234 + (4 * t)) + 2)).toNat), none] (rv.toList ++ []) σ2))) ∧ (62 ≠ fw_c (σ 95 (fw_c (234 + (4 * t))).toNat) → ((0 ≤ fw_c (234 + (4 * t)) ∧ fw_c (234 + (4 * t)) < ((474 : Nat) : Int)) ∧ (sp_m_tell [(2, 93, 0), (0, 0, x), (0, 0, ((σ 95 (fw_c (234 + (4 * t))).toNat) - 50) - 13)] σ (fun rv σ2 => G 221 [some (2, 93, 0), some (0, 0, t), some (0, 0, x), some (0, 0, 234 + (4 * t)), some (0, 0, σ 95 (fw_c ((234 + (4 * t)) + 1)).toNat), some (0, 0, σ 95 (fw_c ((234 + (4 * t)) + 2)).toNat), none] (rv.toList ++ []) σ2)))))))))))))))))) : G 0 [some (2, 93, 0), some (0, 0, t), some (0, 0, x), none, none, none, none] [] σ := fw_on hG [99, 115, 125, 141, 151, 175, 183, 203, 221] 200 h
theorem fs_m_holds12_221 {G : fw_K} {R : fw_KR} (hG : fw_cls st_m_holds12 R G) {a1 a2 a3 a4 a5 b0 : Int} {σ : ab_SG} (h : (0 ≤ fw_c (a3 + 3) ∧ fw_c (a3 + 3) < ((474 : Nat) : Int)) ∧ ((fw_c (σ 95 (fw_c (a3 + 3)).toNat) ≠ fw_c 60 → (0 ≤ fw_c (a3 + 3) ∧ fw_c (a3 + 3) < ((474 : Nat) : Int)) ∧ ((fw_c (σ 95 (fw_c (a3 + 3)).toNat) ≠ fw_c 61 → (fw_c b0 ≤ fw_c a5 → (0 ≤ fw_c 0 ∧ fw_c 0 ≤ 1) ∧ R (some (0, 0, 0)) σ) ∧ (fw_c a5 < fw_c b0 → (0 ≤ fw_c 1 ∧ fw_c 1 ≤ 1) ∧ R (some (0, 0, 1)) σ)) ∧ (fw_c (σ 95 (fw_c (a3 + 3)).toNat) = fw_c 61 → (fw_c b0 ≠ fw_c a5 → (0 ≤ fw_c 0 ∧ fw_c 0 ≤ 1) ∧ R (some (0, 0, 0)) σ) ∧ (fw_c b0 = fw_c a5 → (0 ≤ fw_c 1 ∧ fw_c 1 ≤ 1) ∧ R (some (0, 0, 1)) σ)))) ∧ (fw_c (σ 95 (fw_c (a3 + 3)).toNat) = fw_c 60 → (fw_c a5 ≤ fw_c b0 → (0 ≤ fw_c 0 ∧ fw_c 0 ≤ 1) ∧ R (some (0, 0, 0)) σ) ∧ (fw_c b0 < fw_c a5 → (0 ≤ fw_c 1 ∧ fw_c 1 ≤ 1) ∧ R (some (0, 0, 1)) σ)))) : G 221 [some (2, 93, 0), some (0, 0, a1), some (0, 0, a2), some (0, 0, a3), some (0, 0, a4), some (0, 0, a5), none] [(0, 0, b0)] σ := fw_on hG [99, 115, 125, 141, 151, 175, 183, 203, 221] 200 h
theorem fs_m_holds12_203 {G : fw_K} {R : fw_KR} (hG : fw_cls st_m_holds12 R G) {a1 a2 a3 a4 a5 b0 : Int} {σ : ab_SG} (h : (0 ≤ fw_c b0 ∧ fw_c b0 ≤ 1) ∧ R (some (0, 0, b0)) σ) : G 203 [some (2, 93, 0), some (0, 0, a1), some (0, 0, a2), some (0, 0, a3), some (0, 0, a4), some (0, 0, a5), none] [(0, 0, b0)] σ := fw_on hG [99, 115, 125, 141, 151, 175, 183, 203, 221] 200 h
theorem fs_m_holds12_183 {G : fw_K} {R : fw_KR} (hG : fw_cls st_m_holds12 R G) {a1 a2 a3 a4 a5 b0 : Int} {σ : ab_SG} (h : (fw_c b0 ≠ fw_c 9 → (0 ≤ fw_c 0 ∧ fw_c 0 ≤ 1) ∧ R (some (0, 0, 0)) σ) ∧ (fw_c b0 = fw_c 9 → (0 ≤ fw_c 1 ∧ fw_c 1 ≤ 1) ∧ R (some (0, 0, 1)) σ)) : G 183 [some (2, 93, 0), some (0, 0, a1), some (0, 0, a2), some (0, 0, a3), some (0, 0, a4), some (0, 0, a5), none] [(0, 0, b0)] σ := fw_on hG [99, 115, 125, 141, 151, 175, 183, 203, 221] 200 h
theorem fs_m_holds12_175 {G : fw_K} {R : fw_KR} (hG : fw_cls st_m_holds12 R G) {a1 a2 a3 a4 a5 b0 : Int} {σ : ab_SG} (h : (0 ≤ fw_c b0 ∧ fw_c b0 ≤ 1) ∧ R (some (0, 0, b0)) σ) : G 175 [some (2, 93, 0), some (0, 0, a1), some (0, 0, a2), some (0, 0, a3), some (0, 0, a4), some (0, 0, a5), none] [(0, 0, b0)] σ := fw_on hG [99, 115, 125, 141, 151, 175, 183, 203, 221] 200 h
theorem fs_m_holds12_141 {G : fw_K} {R : fw_KR} (hG : fw_cls st_m_holds12 R G) {a1 a2 a3 a4 a5 b0 : Int} {σ : ab_SG} (h : (fw_c b0 ≠ 0 → (0 ≤ fw_c 1 ∧ fw_c 1 ≤ 1) ∧ R (some (0, 0, 1)) σ) ∧ (fw_c b0 = 0 → sp_m_holds 11 [(2, 93, 0), (0, 0, a5), (0, 0, a2)] σ (fun rv σ2 => G 151 [some (2, 93, 0), some (0, 0, a1), some (0, 0, a2), some (0, 0, a3), some (0, 0, a4), some (0, 0, a5), none] (rv.toList ++ []) σ2))) : G 141 [some (2, 93, 0), some (0, 0, a1), some (0, 0, a2), some (0, 0, a3), some (0, 0, a4), some (0, 0, a5), none] [(0, 0, b0)] σ := fw_on hG [99, 115, 125, 141, 151, 175, 183, 203, 221] 200 h
theorem fs_m_holds12_115 {G : fw_K} {R : fw_KR} (hG : fw_cls st_m_holds12 R G) {a1 a2 a3 a4 a5 b0 : Int} {σ : ab_SG} (h : (fw_c b0 = 0 → (0 ≤ fw_c 0 ∧ fw_c 0 ≤ 1) ∧ R (some (0, 0, 0)) σ) ∧ (fw_c b0 ≠ 0 → sp_m_holds 11 [(2, 93, 0), (0, 0, a5), (0, 0, a2)] σ (fun rv σ2 => G 125 [some (2, 93, 0), some (0, 0, a1), some (0, 0, a2), some (0, 0, a3), some (0, 0, a4), some (0, 0, a5), none] (rv.toList ++ []) σ2))) : G 115 [some (2, 93, 0), some (0, 0, a1), some (0, 0, a2), some (0, 0, a3), some (0, 0, a4), some (0, 0, a5), none] [(0, 0, b0)] σ := fw_on hG [99, 115, 125, 141, 151, 175, 183, 203, 221] 200 h
theorem fs_m_holds12_99 {G : fw_K} {R : fw_KR} (hG : fw_cls st_m_holds12 R G) {a1 a2 a3 a4 a5 b0 : Int} {σ : ab_SG} (h : (fw_c b0 ≠ 0 → (0 ≤ fw_c 0 ∧ fw_c 0 ≤ 1) ∧ R (some (0, 0, 0)) σ) ∧ (fw_c b0 = 0 → (0 ≤ fw_c 1 ∧ fw_c 1 ≤ 1) ∧ R (some (0, 0, 1)) σ)) : G 99 [some (2, 93, 0), some (0, 0, a1), some (0, 0, a2), some (0, 0, a3), some (0, 0, a4), some (0, 0, a5), none] [(0, 0, b0)] σ := fw_on hG [99, 115, 125, 141, 151, 175, 183, 203, 221] 200 h
theorem fs_m_holds12_151 {G : fw_K} {R : fw_KR} (hG : fw_cls st_m_holds12 R G) {a1 a2 a3 a4 a5 b0 : Int} {σ : ab_SG} (h : (fw_c b0 = 0 → (0 ≤ fw_c 0 ∧ fw_c 0 ≤ 1) ∧ R (some (0, 0, 0)) σ) ∧ (fw_c b0 ≠ 0 → (0 ≤ fw_c 1 ∧ fw_c 1 ≤ 1) ∧ R (some (0, 0, 1)) σ)) : G 151 [some (2, 93, 0), some (0, 0, a1), some (0, 0, a2), some (0, 0, a3), some (0, 0, a4), some (0, 0, a5), none] [(0, 0, b0)] σ := fw_on hG [99, 115, 125, 141, 151, 175, 183, 203, 221] 200 h
theorem fs_m_holds12_125 {G : fw_K} {R : fw_KR} (hG : fw_cls st_m_holds12 R G) {a1 a2 a3 a4 a5 b0 : Int} {σ : ab_SG} (h : (fw_c b0 = 0 → (0 ≤ fw_c 0 ∧ fw_c 0 ≤ 1) ∧ R (some (0, 0, 0)) σ) ∧ (fw_c b0 ≠ 0 → (0 ≤ fw_c 1 ∧ fw_c 1 ≤ 1) ∧ R (some (0, 0, 1)) σ)) : G 125 [some (2, 93, 0), some (0, 0, a1), some (0, 0, a2), some (0, 0, a3), some (0, 0, a4), some (0, 0, a5), none] [(0, 0, b0)] σ := fw_on hG [99, 115, 125, 141, 151, 175, 183, 203, 221] 200 h
section
variable {l : Launch} {cy : Nat → ClassId} {ad wr cr : Nat → Nat} {D : va_G}
theorem fm_m_holds12 (hinj : nn_inj ad) : fw_H l cy ad wr cr D 351 17 (sp_m_holds 12) := fw_mk hinj (⟨"NameNotesModel", "holds", "(II)Z"⟩, prog_14_method_148_code, 7, (Option.some Jvm.ClassFile.FieldType.boolean), 2, true, 1) rfl rfl nn_KI20_ok nn_KJ20_ok nn_PF20_ok nn_PS20_ok (by decide +kernel) rfl rfl (List.forall_mem_cons.mpr ⟨fw_row nn_PM20_ok (x := 216) (k := 0) (mn := 230) (np := 2) (ob := false) (ci := 0) (⟨"NameNotesModel", "has", "(II)Z"⟩, prog_14_method_9_code, 2, (Option.some Jvm.ClassFile.FieldType.boolean), 2, false, 1) rfl (by decide +kernel) rfl rfl (by decide) (fun q => by cases q) (fm_m_has hinj), (List.forall_mem_cons.mpr ⟨fw_row nn_PM20_ok (x := 277) (k := 0) (mn := 244) (np := 2) (ob := true) (ci := 11) (⟨"NameNotesModel", "tell", "(II)I"⟩, prog_14_method_50_code, 6, (Option.some Jvm.ClassFile.FieldType.int), 2, true, 0) rfl (by decide +kernel) rfl rfl (by decide) (fun _ => ⟨_, _, rfl⟩) (fm_m_tell hinj), (List.forall_mem_cons.mpr ⟨fw_row nn_PM20_ok (x := 284) (k := 0) (mn := 250) (np := 2) (ob := true) (ci := 11) (⟨"NameNotesModel", "known", "(II)I"⟩, prog_14_method_54_code, 3, (Option.some Jvm.ClassFile.FieldType.int), 2, true, 0) rfl (by decide +kernel) rfl rfl (by decide) (fun _ => ⟨_, _, rfl⟩) (fm_m_known hinj), (List.forall_mem_cons.mpr ⟨fw_row nn_PM20_ok (x := 294) (k := 0) (mn := 257) (np := 4) (ob := true) (ci := 11) (⟨"NameNotesModel", "areLike", "(IIII)Z"⟩, prog_14_method_59_code, 5, (Option.some Jvm.ClassFile.FieldType.boolean), 4, true, 1) rfl (by decide +kernel) rfl rfl (by decide) (fun _ => ⟨_, _, rfl⟩) (fm_m_areLike hinj), (List.forall_mem_cons.mpr ⟨fw_row nn_PM20_ok (x := 525) (k := 0) (mn := 351) (np := 2) (ob := true) (ci := 11) (⟨"NameNotesModel", "holds", "(II)Z"⟩, prog_14_method_148_code, 7, (Option.some Jvm.ClassFile.FieldType.boolean), 2, true, 1) rfl (by decide +kernel) rfl rfl (by decide) (fun _ => ⟨_, _, rfl⟩) (fm_m_holds11 hinj), (fun _ h => absurd h List.not_mem_nil)⟩)⟩)⟩)⟩)⟩) (fun as σ K h => by
  obtain ⟨A, x, t, L, rfl, hN, hx, H, hv, h⟩ := h
  exact ⟨rfl, fun G hG => mh_core hN hx H hv h (fs_m_holds12_0 hG) (fs_m_holds12_221 hG) (fs_m_holds12_203 hG) (fs_m_holds12_183 hG) (fs_m_holds12_175 hG) (fs_m_holds12_141 hG) (fs_m_holds12_115 hG) (fs_m_holds12_99 hG) (fs_m_holds12_151 hG) (fs_m_holds12_125 hG)⟩)
end
abbrev fk_m_holds13 : List fw_CR := [(216, 2, false, 0, 0, sp_m_has), (277, 2, true, 11, 2, sp_m_tell), (284, 2, true, 11, 0, sp_m_known), (294, 4, true, 11, 4, sp_m_areLike), (525, 2, true, 11, 17, sp_m_holds 12)]
abbrev st_m_holds13 : fw_K → fw_KR → fw_K := fw_st vwCl nn_sh nn_kd fw_kv fw_wc (nn_KI20.map (fun x => x.1)) (nn_KJ20.map (fun x => x.1)) (nn_PF20.map (fun x => x.1)) (nn_PS20.map (fun x => x.1)) fk_m_holds13 18 nn_dt351 7 1
theorem fs_m_holds13_0 {G : fw_K} {R : fw_KR} (hG : fw_cls st_m_holds13 R G) {t x : Int} {σ : ab_SG} (h : (0 ≤ fw_c ((234 + (4 * t)) + 1) ∧ fw_c ((234 + (4 * t)) + 1) < ((474 : Nat) : Int)) ∧ ((0 ≤ fw_c ((234 + (4 * t)) + 2) ∧ fw_c ((234 + (4 * t)) + 2) < ((474 : Nat) : Int)) ∧ ((0 ≤ fw_c (234 + (4 * t)) ∧ fw_c (234 + (4 * t)) < ((474 : Nat) : Int)) ∧ ((1 = fw_c (σ 95 (fw_c (234 + (4 * t))).toNat) → (sp_m_holds 12 [(2, 93, 0), (0, 0, σ 95 (fw_c ((234 + (4 * t)) + 1)).toNat), (0, 0, x)] σ (fun rv σ2 => G 99 [some (2, 93, 0), some (0, 0, t), some (0, 0, x), some (0, 0, 234 + (4 * t)), some (0, 0, σ 95 (fw_c ((234 + (4 * t)) + 1)).toNat), some (0, 0, σ 95 (fw_c ((234 + (4 * t)) + 2)).toNat), none] (rv.toList ++ []) σ2))) ∧ (1 ≠ fw_c (σ 95 (fw_c (234 + (4 * t))).toNat) → ((2 = fw_c (σ 95 (fw_c (234 + (4 * t))).toNat) → (sp_m_holds 12 [(2, 93, 0), (0, 0, σ 95 (fw_c ((234 + (4 * t)) + 1)).toNat), (0, 0, x)] σ (fun rv σ2 => G 115 [some (2, 93, 0), some (0, 0, t), some (0, 0, x), some (0, 0, 234 + (4 * t)), some (0, 0, σ 95 (fw_c ((234 + (4 * t)) + 1)).toNat), some (0, 0, σ 95 (fw_c ((234 + (4 * t)) + 2)).toNat), none] (rv.toList ++ []) σ2))) ∧ (2 ≠ fw_c (σ 95 (fw_c (234 + (4 * t))).toNat) → ((3 = fw_c (σ 95 (fw_c (234 + (4 * t))).toNat) → (sp_m_holds 12 [(2, 93, 0), (0, 0, σ 95 (fw_c ((234 + (4 * t)) + 1)).toNat), (0, 0, x)] σ (fun rv σ2 => G 141 [some (2, 93, 0), some (0, 0, t), some (0, 0, x), some (0, 0, 234 + (4 * t)), some (0, 0, σ 95 (fw_c ((234 + (4 * t)) + 1)).toNat), some (0, 0, σ 95 (fw_c ((234 + (4 * t)) + 2)).toNat), none] (rv.toList ++ []) σ2))) ∧ (3 ≠ fw_c (σ 95 (fw_c (234 + (4 * t))).toNat) → ((60 = fw_c (σ 95 (fw_c (234 + (4 * t))).toNat) → ((0 ≤ fw_c (176 + (σ 95 (fw_c ((234 + (4 * t)) + 1)).toNat)) ∧ fw_c (176 + (σ 95 (fw_c ((234 + (4 * t)) + 1)).toNat)) < ((474 : Nat) : Int)) ∧ (sp_m_has [(0, 0, σ 95 (fw_c (176 + (σ 95 (fw_c ((234 + (4 * t)) + 1)).toNat))).toNat), (0, 0, x)] σ (fun rv σ2 => G 175 [some (2, 93, 0), some (0, 0, t), some (0, 0, x), some (0, 0, 234 + (4 * t)), some (0, 0, σ 95 (fw_c ((234 + (4 * t)) + 1)).toNat), some (0, 0, σ 95 (fw_c ((234 + (4 * t)) + 2)).toNat), none] (rv.toList ++ []) σ2)))) ∧ (60 ≠ fw_c (σ 95 (fw_c (234 + (4 * t))).toNat) → ((61 = fw_c (σ 95 (fw_c (234 + (4 * t))).toNat) → (sp_m_known [(2, 93, 0), (0, 0, σ 95 (fw_c ((234 + (4 * t)) + 1)).toNat), (0, 0, x)] σ (fun rv σ2 => G 183 [some (2, 93, 0), some (0, 0, t), some (0, 0, x), some (0, 0, 234 + (4 * t)), some (0, 0, σ 95 (fw_c ((234 + (4 * t)) + 1)).toNat), some (0, 0, σ 95 (fw_c ((234 + (4 * t)) + 2)).toNat), none] (rv.toList ++ []) σ2))) ∧ (61 ≠ fw_c (σ 95 (fw_c (234 + (4 * t))).toNat) → ((62 = fw_c (σ 95 (fw_c (234 + (4 * t))).toNat) → (sp_m_areLike [(2, 93, 0), (0, 0, σ 95 (fw_c ((234 + (4 * t)) + 1)).toNat), (0, 0, x), (0, 0, 3), (0, 0, 0)] σ (fun rv σ2 => G 203 [some (2, 93, 0), some (0, 0, t), some (0, 0, x), some (0, 0, 234 + (4 * t)), some (0, 0, σ 95 (fw_c ((234 + (4 * t)) + 1)).toNat), some (0, 0, σ 95 (fw_c ((234 + (4 * t)) + 2)).toNat), none] (rv.toList ++ []) σ2))) ∧ (62 ≠ fw_c (σ 95 (fw_c (234 + (4 * t))).toNat) → ((0 ≤ fw_c (234 + (4 * t)) ∧ fw_c (234 + (4 * t)) < ((474 : Nat) : Int)) ∧ (sp_m_tell [(2, 93, 0), (0, 0, x), (0, 0, ((σ 95 (fw_c (234 + (4 * t))).toNat) - 50) - 13)] σ (fun rv σ2 => G 221 [some (2, 93, 0), some (0, 0, t), some (0, 0, x), some (0, 0, 234 + (4 * t)), some (0, 0, σ 95 (fw_c ((234 + (4 * t)) + 1)).toNat), some (0, 0, σ 95 (fw_c ((234 + (4 * t)) + 2)).toNat), none] (rv.toList ++ []) σ2)))))))))))))))))) : G 0 [some (2, 93, 0), some (0, 0, t), some (0, 0, x), none, none, none, none] [] σ := fw_on hG [99, 115, 125, 141, 151, 175, 183, 203, 221] 200 h
theorem fs_m_holds13_221 {G : fw_K} {R : fw_KR} (hG : fw_cls st_m_holds13 R G) {a1 a2 a3 a4 a5 b0 : Int} {σ : ab_SG} (h : (0 ≤ fw_c (a3 + 3) ∧ fw_c (a3 + 3) < ((474 : Nat) : Int)) ∧ ((fw_c (σ 95 (fw_c (a3 + 3)).toNat) ≠ fw_c 60 → (0 ≤ fw_c (a3 + 3) ∧ fw_c (a3 + 3) < ((474 : Nat) : Int)) ∧ ((fw_c (σ 95 (fw_c (a3 + 3)).toNat) ≠ fw_c 61 → (fw_c b0 ≤ fw_c a5 → (0 ≤ fw_c 0 ∧ fw_c 0 ≤ 1) ∧ R (some (0, 0, 0)) σ) ∧ (fw_c a5 < fw_c b0 → (0 ≤ fw_c 1 ∧ fw_c 1 ≤ 1) ∧ R (some (0, 0, 1)) σ)) ∧ (fw_c (σ 95 (fw_c (a3 + 3)).toNat) = fw_c 61 → (fw_c b0 ≠ fw_c a5 → (0 ≤ fw_c 0 ∧ fw_c 0 ≤ 1) ∧ R (some (0, 0, 0)) σ) ∧ (fw_c b0 = fw_c a5 → (0 ≤ fw_c 1 ∧ fw_c 1 ≤ 1) ∧ R (some (0, 0, 1)) σ)))) ∧ (fw_c (σ 95 (fw_c (a3 + 3)).toNat) = fw_c 60 → (fw_c a5 ≤ fw_c b0 → (0 ≤ fw_c 0 ∧ fw_c 0 ≤ 1) ∧ R (some (0, 0, 0)) σ) ∧ (fw_c b0 < fw_c a5 → (0 ≤ fw_c 1 ∧ fw_c 1 ≤ 1) ∧ R (some (0, 0, 1)) σ)))) : G 221 [some (2, 93, 0), some (0, 0, a1), some (0, 0, a2), some (0, 0, a3), some (0, 0, a4), some (0, 0, a5), none] [(0, 0, b0)] σ := fw_on hG [99, 115, 125, 141, 151, 175, 183, 203, 221] 200 h
theorem fs_m_holds13_203 {G : fw_K} {R : fw_KR} (hG : fw_cls st_m_holds13 R G) {a1 a2 a3 a4 a5 b0 : Int} {σ : ab_SG} (h : (0 ≤ fw_c b0 ∧ fw_c b0 ≤ 1) ∧ R (some (0, 0, b0)) σ) : G 203 [some (2, 93, 0), some (0, 0, a1), some (0, 0, a2), some (0, 0, a3), some (0, 0, a4), some (0, 0, a5), none] [(0, 0, b0)] σ := fw_on hG [99, 115, 125, 141, 151, 175, 183, 203, 221] 200 h
theorem fs_m_holds13_183 {G : fw_K} {R : fw_KR} (hG : fw_cls st_m_holds13 R G) {a1 a2 a3 a4 a5 b0 : Int} {σ : ab_SG} (h : (fw_c b0 ≠ fw_c 9 → (0 ≤ fw_c 0 ∧ fw_c 0 ≤ 1) ∧ R (some (0, 0, 0)) σ) ∧ (fw_c b0 = fw_c 9 → (0 ≤ fw_c 1 ∧ fw_c 1 ≤ 1) ∧ R (some (0, 0, 1)) σ)) : G 183 [some (2, 93, 0), some (0, 0, a1), some (0, 0, a2), some (0, 0, a3), some (0, 0, a4), some (0, 0, a5), none] [(0, 0, b0)] σ := fw_on hG [99, 115, 125, 141, 151, 175, 183, 203, 221] 200 h
theorem fs_m_holds13_175 {G : fw_K} {R : fw_KR} (hG : fw_cls st_m_holds13 R G) {a1 a2 a3 a4 a5 b0 : Int} {σ : ab_SG} (h : (0 ≤ fw_c b0 ∧ fw_c b0 ≤ 1) ∧ R (some (0, 0, b0)) σ) : G 175 [some (2, 93, 0), some (0, 0, a1), some (0, 0, a2), some (0, 0, a3), some (0, 0, a4), some (0, 0, a5), none] [(0, 0, b0)] σ := fw_on hG [99, 115, 125, 141, 151, 175, 183, 203, 221] 200 h
theorem fs_m_holds13_141 {G : fw_K} {R : fw_KR} (hG : fw_cls st_m_holds13 R G) {a1 a2 a3 a4 a5 b0 : Int} {σ : ab_SG} (h : (fw_c b0 ≠ 0 → (0 ≤ fw_c 1 ∧ fw_c 1 ≤ 1) ∧ R (some (0, 0, 1)) σ) ∧ (fw_c b0 = 0 → sp_m_holds 12 [(2, 93, 0), (0, 0, a5), (0, 0, a2)] σ (fun rv σ2 => G 151 [some (2, 93, 0), some (0, 0, a1), some (0, 0, a2), some (0, 0, a3), some (0, 0, a4), some (0, 0, a5), none] (rv.toList ++ []) σ2))) : G 141 [some (2, 93, 0), some (0, 0, a1), some (0, 0, a2), some (0, 0, a3), some (0, 0, a4), some (0, 0, a5), none] [(0, 0, b0)] σ := fw_on hG [99, 115, 125, 141, 151, 175, 183, 203, 221] 200 h
theorem fs_m_holds13_115 {G : fw_K} {R : fw_KR} (hG : fw_cls st_m_holds13 R G) {a1 a2 a3 a4 a5 b0 : Int} {σ : ab_SG} (h : (fw_c b0 = 0 → (0 ≤ fw_c 0 ∧ fw_c 0 ≤ 1) ∧ R (some (0, 0, 0)) σ) ∧ (fw_c b0 ≠ 0 → sp_m_holds 12 [(2, 93, 0), (0, 0, a5), (0, 0, a2)] σ (fun rv σ2 => G 125 [some (2, 93, 0), some (0, 0, a1), some (0, 0, a2), some (0, 0, a3), some (0, 0, a4), some (0, 0, a5), none] (rv.toList ++ []) σ2))) : G 115 [some (2, 93, 0), some (0, 0, a1), some (0, 0, a2), some (0, 0, a3), some (0, 0, a4), some (0, 0, a5), none] [(0, 0, b0)] σ := fw_on hG [99, 115, 125, 141, 151, 175, 183, 203, 221] 200 h
theorem fs_m_holds13_99 {G : fw_K} {R : fw_KR} (hG : fw_cls st_m_holds13 R G) {a1 a2 a3 a4 a5 b0 : Int} {σ : ab_SG} (h : (fw_c b0 ≠ 0 → (0 ≤ fw_c 0 ∧ fw_c 0 ≤ 1) ∧ R (some (0, 0, 0)) σ) ∧ (fw_c b0 = 0 → (0 ≤ fw_c 1 ∧ fw_c 1 ≤ 1) ∧ R (some (0, 0, 1)) σ)) : G 99 [some (2, 93, 0), some (0, 0, a1), some (0, 0, a2), some (0, 0, a3), some (0, 0, a4), some (0, 0, a5), none] [(0, 0, b0)] σ := fw_on hG [99, 115, 125, 141, 151, 175, 183, 203, 221] 200 h
theorem fs_m_holds13_151 {G : fw_K} {R : fw_KR} (hG : fw_cls st_m_holds13 R G) {a1 a2 a3 a4 a5 b0 : Int} {σ : ab_SG} (h : (fw_c b0 = 0 → (0 ≤ fw_c 0 ∧ fw_c 0 ≤ 1) ∧ R (some (0, 0, 0)) σ) ∧ (fw_c b0 ≠ 0 → (0 ≤ fw_c 1 ∧ fw_c 1 ≤ 1) ∧ R (some (0, 0, 1)) σ)) : G 151 [some (2, 93, 0), some (0, 0, a1), some (0, 0, a2), some (0, 0, a3), some (0, 0, a4), some (0, 0, a5), none] [(0, 0, b0)] σ := fw_on hG [99, 115, 125, 141, 151, 175, 183, 203, 221] 200 h
theorem fs_m_holds13_125 {G : fw_K} {R : fw_KR} (hG : fw_cls st_m_holds13 R G) {a1 a2 a3 a4 a5 b0 : Int} {σ : ab_SG} (h : (fw_c b0 = 0 → (0 ≤ fw_c 0 ∧ fw_c 0 ≤ 1) ∧ R (some (0, 0, 0)) σ) ∧ (fw_c b0 ≠ 0 → (0 ≤ fw_c 1 ∧ fw_c 1 ≤ 1) ∧ R (some (0, 0, 1)) σ)) : G 125 [some (2, 93, 0), some (0, 0, a1), some (0, 0, a2), some (0, 0, a3), some (0, 0, a4), some (0, 0, a5), none] [(0, 0, b0)] σ := fw_on hG [99, 115, 125, 141, 151, 175, 183, 203, 221] 200 h
section
variable {l : Launch} {cy : Nat → ClassId} {ad wr cr : Nat → Nat} {D : va_G}
theorem fm_m_holds13 (hinj : nn_inj ad) : fw_H l cy ad wr cr D 351 18 (sp_m_holds 13) := fw_mk hinj (⟨"NameNotesModel", "holds", "(II)Z"⟩, prog_14_method_148_code, 7, (Option.some Jvm.ClassFile.FieldType.boolean), 2, true, 1) rfl rfl nn_KI20_ok nn_KJ20_ok nn_PF20_ok nn_PS20_ok (by decide +kernel) rfl rfl (List.forall_mem_cons.mpr ⟨fw_row nn_PM20_ok (x := 216) (k := 0) (mn := 230) (np := 2) (ob := false) (ci := 0) (⟨"NameNotesModel", "has", "(II)Z"⟩, prog_14_method_9_code, 2, (Option.some Jvm.ClassFile.FieldType.boolean), 2, false, 1) rfl (by decide +kernel) rfl rfl (by decide) (fun q => by cases q) (fm_m_has hinj), (List.forall_mem_cons.mpr ⟨fw_row nn_PM20_ok (x := 277) (k := 0) (mn := 244) (np := 2) (ob := true) (ci := 11) (⟨"NameNotesModel", "tell", "(II)I"⟩, prog_14_method_50_code, 6, (Option.some Jvm.ClassFile.FieldType.int), 2, true, 0) rfl (by decide +kernel) rfl rfl (by decide) (fun _ => ⟨_, _, rfl⟩) (fm_m_tell hinj), (List.forall_mem_cons.mpr ⟨fw_row nn_PM20_ok (x := 284) (k := 0) (mn := 250) (np := 2) (ob := true) (ci := 11) (⟨"NameNotesModel", "known", "(II)I"⟩, prog_14_method_54_code, 3, (Option.some Jvm.ClassFile.FieldType.int), 2, true, 0) rfl (by decide +kernel) rfl rfl (by decide) (fun _ => ⟨_, _, rfl⟩) (fm_m_known hinj), (List.forall_mem_cons.mpr ⟨fw_row nn_PM20_ok (x := 294) (k := 0) (mn := 257) (np := 4) (ob := true) (ci := 11) (⟨"NameNotesModel", "areLike", "(IIII)Z"⟩, prog_14_method_59_code, 5, (Option.some Jvm.ClassFile.FieldType.boolean), 4, true, 1) rfl (by decide +kernel) rfl rfl (by decide) (fun _ => ⟨_, _, rfl⟩) (fm_m_areLike hinj), (List.forall_mem_cons.mpr ⟨fw_row nn_PM20_ok (x := 525) (k := 0) (mn := 351) (np := 2) (ob := true) (ci := 11) (⟨"NameNotesModel", "holds", "(II)Z"⟩, prog_14_method_148_code, 7, (Option.some Jvm.ClassFile.FieldType.boolean), 2, true, 1) rfl (by decide +kernel) rfl rfl (by decide) (fun _ => ⟨_, _, rfl⟩) (fm_m_holds12 hinj), (fun _ h => absurd h List.not_mem_nil)⟩)⟩)⟩)⟩)⟩) (fun as σ K h => by
  obtain ⟨A, x, t, L, rfl, hN, hx, H, hv, h⟩ := h
  exact ⟨rfl, fun G hG => mh_core hN hx H hv h (fs_m_holds13_0 hG) (fs_m_holds13_221 hG) (fs_m_holds13_203 hG) (fs_m_holds13_183 hG) (fs_m_holds13_175 hG) (fs_m_holds13_141 hG) (fs_m_holds13_115 hG) (fs_m_holds13_99 hG) (fs_m_holds13_151 hG) (fs_m_holds13_125 hG)⟩)
end
abbrev fk_m_holds14 : List fw_CR := [(216, 2, false, 0, 0, sp_m_has), (277, 2, true, 11, 2, sp_m_tell), (284, 2, true, 11, 0, sp_m_known), (294, 4, true, 11, 4, sp_m_areLike), (525, 2, true, 11, 18, sp_m_holds 13)]
abbrev st_m_holds14 : fw_K → fw_KR → fw_K := fw_st vwCl nn_sh nn_kd fw_kv fw_wc (nn_KI20.map (fun x => x.1)) (nn_KJ20.map (fun x => x.1)) (nn_PF20.map (fun x => x.1)) (nn_PS20.map (fun x => x.1)) fk_m_holds14 19 nn_dt351 7 1
theorem fs_m_holds14_0 {G : fw_K} {R : fw_KR} (hG : fw_cls st_m_holds14 R G) {t x : Int} {σ : ab_SG} (h : (0 ≤ fw_c ((234 + (4 * t)) + 1) ∧ fw_c ((234 + (4 * t)) + 1) < ((474 : Nat) : Int)) ∧ ((0 ≤ fw_c ((234 + (4 * t)) + 2) ∧ fw_c ((234 + (4 * t)) + 2) < ((474 : Nat) : Int)) ∧ ((0 ≤ fw_c (234 + (4 * t)) ∧ fw_c (234 + (4 * t)) < ((474 : Nat) : Int)) ∧ ((1 = fw_c (σ 95 (fw_c (234 + (4 * t))).toNat) → (sp_m_holds 13 [(2, 93, 0), (0, 0, σ 95 (fw_c ((234 + (4 * t)) + 1)).toNat), (0, 0, x)] σ (fun rv σ2 => G 99 [some (2, 93, 0), some (0, 0, t), some (0, 0, x), some (0, 0, 234 + (4 * t)), some (0, 0, σ 95 (fw_c ((234 + (4 * t)) + 1)).toNat), some (0, 0, σ 95 (fw_c ((234 + (4 * t)) + 2)).toNat), none] (rv.toList ++ []) σ2))) ∧ (1 ≠ fw_c (σ 95 (fw_c (234 + (4 * t))).toNat) → ((2 = fw_c (σ 95 (fw_c (234 + (4 * t))).toNat) → (sp_m_holds 13 [(2, 93, 0), (0, 0, σ 95 (fw_c ((234 + (4 * t)) + 1)).toNat), (0, 0, x)] σ (fun rv σ2 => G 115 [some (2, 93, 0), some (0, 0, t), some (0, 0, x), some (0, 0, 234 + (4 * t)), some (0, 0, σ 95 (fw_c ((234 + (4 * t)) + 1)).toNat), some (0, 0, σ 95 (fw_c ((234 + (4 * t)) + 2)).toNat), none] (rv.toList ++ []) σ2))) ∧ (2 ≠ fw_c (σ 95 (fw_c (234 + (4 * t))).toNat) → ((3 = fw_c (σ 95 (fw_c (234 + (4 * t))).toNat) → (sp_m_holds 13 [(2, 93, 0), (0, 0, σ 95 (fw_c ((234 + (4 * t)) + 1)).toNat), (0, 0, x)] σ (fun rv σ2 => G 141 [some (2, 93, 0), some (0, 0, t), some (0, 0, x), some (0, 0, 234 + (4 * t)), some (0, 0, σ 95 (fw_c ((234 + (4 * t)) + 1)).toNat), some (0, 0, σ 95 (fw_c ((234 + (4 * t)) + 2)).toNat), none] (rv.toList ++ []) σ2))) ∧ (3 ≠ fw_c (σ 95 (fw_c (234 + (4 * t))).toNat) → ((60 = fw_c (σ 95 (fw_c (234 + (4 * t))).toNat) → ((0 ≤ fw_c (176 + (σ 95 (fw_c ((234 + (4 * t)) + 1)).toNat)) ∧ fw_c (176 + (σ 95 (fw_c ((234 + (4 * t)) + 1)).toNat)) < ((474 : Nat) : Int)) ∧ (sp_m_has [(0, 0, σ 95 (fw_c (176 + (σ 95 (fw_c ((234 + (4 * t)) + 1)).toNat))).toNat), (0, 0, x)] σ (fun rv σ2 => G 175 [some (2, 93, 0), some (0, 0, t), some (0, 0, x), some (0, 0, 234 + (4 * t)), some (0, 0, σ 95 (fw_c ((234 + (4 * t)) + 1)).toNat), some (0, 0, σ 95 (fw_c ((234 + (4 * t)) + 2)).toNat), none] (rv.toList ++ []) σ2)))) ∧ (60 ≠ fw_c (σ 95 (fw_c (234 + (4 * t))).toNat) → ((61 = fw_c (σ 95 (fw_c (234 + (4 * t))).toNat) → (sp_m_known [(2, 93, 0), (0, 0, σ 95 (fw_c ((234 + (4 * t)) + 1)).toNat), (0, 0, x)] σ (fun rv σ2 => G 183 [some (2, 93, 0), some (0, 0, t), some (0, 0, x), some (0, 0, 234 + (4 * t)), some (0, 0, σ 95 (fw_c ((234 + (4 * t)) + 1)).toNat), some (0, 0, σ 95 (fw_c ((234 + (4 * t)) + 2)).toNat), none] (rv.toList ++ []) σ2))) ∧ (61 ≠ fw_c (σ 95 (fw_c (234 + (4 * t))).toNat) → ((62 = fw_c (σ 95 (fw_c (234 + (4 * t))).toNat) → (sp_m_areLike [(2, 93, 0), (0, 0, σ 95 (fw_c ((234 + (4 * t)) + 1)).toNat), (0, 0, x), (0, 0, 3), (0, 0, 0)] σ (fun rv σ2 => G 203 [some (2, 93, 0), some (0, 0, t), some (0, 0, x), some (0, 0, 234 + (4 * t)), some (0, 0, σ 95 (fw_c ((234 + (4 * t)) + 1)).toNat), some (0, 0, σ 95 (fw_c ((234 + (4 * t)) + 2)).toNat), none] (rv.toList ++ []) σ2))) ∧ (62 ≠ fw_c (σ 95 (fw_c (234 + (4 * t))).toNat) → ((0 ≤ fw_c (234 + (4 * t)) ∧ fw_c (234 + (4 * t)) < ((474 : Nat) : Int)) ∧ (sp_m_tell [(2, 93, 0), (0, 0, x), (0, 0, ((σ 95 (fw_c (234 + (4 * t))).toNat) - 50) - 13)] σ (fun rv σ2 => G 221 [some (2, 93, 0), some (0, 0, t), some (0, 0, x), some (0, 0, 234 + (4 * t)), some (0, 0, σ 95 (fw_c ((234 + (4 * t)) + 1)).toNat), some (0, 0, σ 95 (fw_c ((234 + (4 * t)) + 2)).toNat), none] (rv.toList ++ []) σ2)))))))))))))))))) : G 0 [some (2, 93, 0), some (0, 0, t), some (0, 0, x), none, none, none, none] [] σ := fw_on hG [99, 115, 125, 141, 151, 175, 183, 203, 221] 200 h
theorem fs_m_holds14_221 {G : fw_K} {R : fw_KR} (hG : fw_cls st_m_holds14 R G) {a1 a2 a3 a4 a5 b0 : Int} {σ : ab_SG} (h : (0 ≤ fw_c (a3 + 3) ∧ fw_c (a3 + 3) < ((474 : Nat) : Int)) ∧ ((fw_c (σ 95 (fw_c (a3 + 3)).toNat) ≠ fw_c 60 → (0 ≤ fw_c (a3 + 3) ∧ fw_c (a3 + 3) < ((474 : Nat) : Int)) ∧ ((fw_c (σ 95 (fw_c (a3 + 3)).toNat) ≠ fw_c 61 → (fw_c b0 ≤ fw_c a5 → (0 ≤ fw_c 0 ∧ fw_c 0 ≤ 1) ∧ R (some (0, 0, 0)) σ) ∧ (fw_c a5 < fw_c b0 → (0 ≤ fw_c 1 ∧ fw_c 1 ≤ 1) ∧ R (some (0, 0, 1)) σ)) ∧ (fw_c (σ 95 (fw_c (a3 + 3)).toNat) = fw_c 61 → (fw_c b0 ≠ fw_c a5 → (0 ≤ fw_c 0 ∧ fw_c 0 ≤ 1) ∧ R (some (0, 0, 0)) σ) ∧ (fw_c b0 = fw_c a5 → (0 ≤ fw_c 1 ∧ fw_c 1 ≤ 1) ∧ R (some (0, 0, 1)) σ)))) ∧ (fw_c (σ 95 (fw_c (a3 + 3)).toNat) = fw_c 60 → (fw_c a5 ≤ fw_c b0 → (0 ≤ fw_c 0 ∧ fw_c 0 ≤ 1) ∧ R (some (0, 0, 0)) σ) ∧ (fw_c b0 < fw_c a5 → (0 ≤ fw_c 1 ∧ fw_c 1 ≤ 1) ∧ R (some (0, 0, 1)) σ)))) : G 221 [some (2, 93, 0), some (0, 0, a1), some (0, 0, a2), some (0, 0, a3), some (0, 0, a4), some (0, 0, a5), none] [(0, 0, b0)] σ := fw_on hG [99, 115, 125, 141, 151, 175, 183, 203, 221] 200 h
theorem fs_m_holds14_203 {G : fw_K} {R : fw_KR} (hG : fw_cls st_m_holds14 R G) {a1 a2 a3 a4 a5 b0 : Int} {σ : ab_SG} (h : (0 ≤ fw_c b0 ∧ fw_c b0 ≤ 1) ∧ R (some (0, 0, b0)) σ) : G 203 [some (2, 93, 0), some (0, 0, a1), some (0, 0, a2), some (0, 0, a3), some (0, 0, a4), some (0, 0, a5), none] [(0, 0, b0)] σ := fw_on hG [99, 115, 125, 141, 151, 175, 183, 203, 221] 200 h
theorem fs_m_holds14_183 {G : fw_K} {R : fw_KR} (hG : fw_cls st_m_holds14 R G) {a1 a2 a3 a4 a5 b0 : Int} {σ : ab_SG} (h : (fw_c b0 ≠ fw_c 9 → (0 ≤ fw_c 0 ∧ fw_c 0 ≤ 1) ∧ R (some (0, 0, 0)) σ) ∧ (fw_c b0 = fw_c 9 → (0 ≤ fw_c 1 ∧ fw_c 1 ≤ 1) ∧ R (some (0, 0, 1)) σ)) : G 183 [some (2, 93, 0), some (0, 0, a1), some (0, 0, a2), some (0, 0, a3), some (0, 0, a4), some (0, 0, a5), none] [(0, 0, b0)] σ := fw_on hG [99, 115, 125, 141, 151, 175, 183, 203, 221] 200 h
theorem fs_m_holds14_175 {G : fw_K} {R : fw_KR} (hG : fw_cls st_m_holds14 R G) {a1 a2 a3 a4 a5 b0 : Int} {σ : ab_SG} (h : (0 ≤ fw_c b0 ∧ fw_c b0 ≤ 1) ∧ R (some (0, 0, b0)) σ) : G 175 [some (2, 93, 0), some (0, 0, a1), some (0, 0, a2), some (0, 0, a3), some (0, 0, a4), some (0, 0, a5), none] [(0, 0, b0)] σ := fw_on hG [99, 115, 125, 141, 151, 175, 183, 203, 221] 200 h
theorem fs_m_holds14_141 {G : fw_K} {R : fw_KR} (hG : fw_cls st_m_holds14 R G) {a1 a2 a3 a4 a5 b0 : Int} {σ : ab_SG} (h : (fw_c b0 ≠ 0 → (0 ≤ fw_c 1 ∧ fw_c 1 ≤ 1) ∧ R (some (0, 0, 1)) σ) ∧ (fw_c b0 = 0 → sp_m_holds 13 [(2, 93, 0), (0, 0, a5), (0, 0, a2)] σ (fun rv σ2 => G 151 [some (2, 93, 0), some (0, 0, a1), some (0, 0, a2), some (0, 0, a3), some (0, 0, a4), some (0, 0, a5), none] (rv.toList ++ []) σ2))) : G 141 [some (2, 93, 0), some (0, 0, a1), some (0, 0, a2), some (0, 0, a3), some (0, 0, a4), some (0, 0, a5), none] [(0, 0, b0)] σ := fw_on hG [99, 115, 125, 141, 151, 175, 183, 203, 221] 200 h
theorem fs_m_holds14_115 {G : fw_K} {R : fw_KR} (hG : fw_cls st_m_holds14 R G) {a1 a2 a3 a4 a5 b0 : Int} {σ : ab_SG} (h : (fw_c b0 = 0 → (0 ≤ fw_c 0 ∧ fw_c 0 ≤ 1) ∧ R (some (0, 0, 0)) σ) ∧ (fw_c b0 ≠ 0 → sp_m_holds 13 [(2, 93, 0), (0, 0, a5), (0, 0, a2)] σ (fun rv σ2 => G 125 [some (2, 93, 0), some (0, 0, a1), some (0, 0, a2), some (0, 0, a3), some (0, 0, a4), some (0, 0, a5), none] (rv.toList ++ []) σ2))) : G 115 [some (2, 93, 0), some (0, 0, a1), some (0, 0, a2), some (0, 0, a3), some (0, 0, a4), some (0, 0, a5), none] [(0, 0, b0)] σ := fw_on hG [99, 115, 125, 141, 151, 175, 183, 203, 221] 200 h
theorem fs_m_holds14_99 {G : fw_K} {R : fw_KR} (hG : fw_cls st_m_holds14 R G) {a1 a2 a3 a4 a5 b0 : Int} {σ : ab_SG} (h : (fw_c b0 ≠ 0 → (0 ≤ fw_c 0 ∧ fw_c 0 ≤ 1) ∧ R (some (0, 0, 0)) σ) ∧ (fw_c b0 = 0 → (0 ≤ fw_c 1 ∧ fw_c 1 ≤ 1) ∧ R (some (0, 0, 1)) σ)) : G 99 [some (2, 93, 0), some (0, 0, a1), some (0, 0, a2), some (0, 0, a3), some (0, 0, a4), some (0, 0, a5), none] [(0, 0, b0)] σ := fw_on hG [99, 115, 125, 141, 151, 175, 183, 203, 221] 200 h
theorem fs_m_holds14_151 {G : fw_K} {R : fw_KR} (hG : fw_cls st_m_holds14 R G) {a1 a2 a3 a4 a5 b0 : Int} {σ : ab_SG} (h : (fw_c b0 = 0 → (0 ≤ fw_c 0 ∧ fw_c 0 ≤ 1) ∧ R (some (0, 0, 0)) σ) ∧ (fw_c b0 ≠ 0 → (0 ≤ fw_c 1 ∧ fw_c 1 ≤ 1) ∧ R (some (0, 0, 1)) σ)) : G 151 [some (2, 93, 0), some (0, 0, a1), some (0, 0, a2), some (0, 0, a3), some (0, 0, a4), some (0, 0, a5), none] [(0, 0, b0)] σ := fw_on hG [99, 115, 125, 141, 151, 175, 183, 203, 221] 200 h
theorem fs_m_holds14_125 {G : fw_K} {R : fw_KR} (hG : fw_cls st_m_holds14 R G) {a1 a2 a3 a4 a5 b0 : Int} {σ : ab_SG} (h : (fw_c b0 = 0 → (0 ≤ fw_c 0 ∧ fw_c 0 ≤ 1) ∧ R (some (0, 0, 0)) σ) ∧ (fw_c b0 ≠ 0 → (0 ≤ fw_c 1 ∧ fw_c 1 ≤ 1) ∧ R (some (0, 0, 1)) σ)) : G 125 [some (2, 93, 0), some (0, 0, a1), some (0, 0, a2), some (0, 0, a3), some (0, 0, a4), some (0, 0, a5), none] [(0, 0, b0)] σ := fw_on hG [99, 115, 125, 141, 151, 175, 183, 203, 221] 200 h
section
variable {l : Launch} {cy : Nat → ClassId} {ad wr cr : Nat → Nat} {D : va_G}
theorem fm_m_holds14 (hinj : nn_inj ad) : fw_H l cy ad wr cr D 351 19 (sp_m_holds 14) := fw_mk hinj (⟨"NameNotesModel", "holds", "(II)Z"⟩, prog_14_method_148_code, 7, (Option.some Jvm.ClassFile.FieldType.boolean), 2, true, 1) rfl rfl nn_KI20_ok nn_KJ20_ok nn_PF20_ok nn_PS20_ok (by decide +kernel) rfl rfl (List.forall_mem_cons.mpr ⟨fw_row nn_PM20_ok (x := 216) (k := 0) (mn := 230) (np := 2) (ob := false) (ci := 0) (⟨"NameNotesModel", "has", "(II)Z"⟩, prog_14_method_9_code, 2, (Option.some Jvm.ClassFile.FieldType.boolean), 2, false, 1) rfl (by decide +kernel) rfl rfl (by decide) (fun q => by cases q) (fm_m_has hinj), (List.forall_mem_cons.mpr ⟨fw_row nn_PM20_ok (x := 277) (k := 0) (mn := 244) (np := 2) (ob := true) (ci := 11) (⟨"NameNotesModel", "tell", "(II)I"⟩, prog_14_method_50_code, 6, (Option.some Jvm.ClassFile.FieldType.int), 2, true, 0) rfl (by decide +kernel) rfl rfl (by decide) (fun _ => ⟨_, _, rfl⟩) (fm_m_tell hinj), (List.forall_mem_cons.mpr ⟨fw_row nn_PM20_ok (x := 284) (k := 0) (mn := 250) (np := 2) (ob := true) (ci := 11) (⟨"NameNotesModel", "known", "(II)I"⟩, prog_14_method_54_code, 3, (Option.some Jvm.ClassFile.FieldType.int), 2, true, 0) rfl (by decide +kernel) rfl rfl (by decide) (fun _ => ⟨_, _, rfl⟩) (fm_m_known hinj), (List.forall_mem_cons.mpr ⟨fw_row nn_PM20_ok (x := 294) (k := 0) (mn := 257) (np := 4) (ob := true) (ci := 11) (⟨"NameNotesModel", "areLike", "(IIII)Z"⟩, prog_14_method_59_code, 5, (Option.some Jvm.ClassFile.FieldType.boolean), 4, true, 1) rfl (by decide +kernel) rfl rfl (by decide) (fun _ => ⟨_, _, rfl⟩) (fm_m_areLike hinj), (List.forall_mem_cons.mpr ⟨fw_row nn_PM20_ok (x := 525) (k := 0) (mn := 351) (np := 2) (ob := true) (ci := 11) (⟨"NameNotesModel", "holds", "(II)Z"⟩, prog_14_method_148_code, 7, (Option.some Jvm.ClassFile.FieldType.boolean), 2, true, 1) rfl (by decide +kernel) rfl rfl (by decide) (fun _ => ⟨_, _, rfl⟩) (fm_m_holds13 hinj), (fun _ h => absurd h List.not_mem_nil)⟩)⟩)⟩)⟩)⟩) (fun as σ K h => by
  obtain ⟨A, x, t, L, rfl, hN, hx, H, hv, h⟩ := h
  exact ⟨rfl, fun G hG => mh_core hN hx H hv h (fs_m_holds14_0 hG) (fs_m_holds14_221 hG) (fs_m_holds14_203 hG) (fs_m_holds14_183 hG) (fs_m_holds14_175 hG) (fs_m_holds14_141 hG) (fs_m_holds14_115 hG) (fs_m_holds14_99 hG) (fs_m_holds14_151 hG) (fs_m_holds14_125 hG)⟩)
end
abbrev fk_m_holds15 : List fw_CR := [(216, 2, false, 0, 0, sp_m_has), (277, 2, true, 11, 2, sp_m_tell), (284, 2, true, 11, 0, sp_m_known), (294, 4, true, 11, 4, sp_m_areLike), (525, 2, true, 11, 19, sp_m_holds 14)]
abbrev st_m_holds15 : fw_K → fw_KR → fw_K := fw_st vwCl nn_sh nn_kd fw_kv fw_wc (nn_KI20.map (fun x => x.1)) (nn_KJ20.map (fun x => x.1)) (nn_PF20.map (fun x => x.1)) (nn_PS20.map (fun x => x.1)) fk_m_holds15 20 nn_dt351 7 1
theorem fs_m_holds15_0 {G : fw_K} {R : fw_KR} (hG : fw_cls st_m_holds15 R G) {t x : Int} {σ : ab_SG} (h : (0 ≤ fw_c ((234 + (4 * t)) + 1) ∧ fw_c ((234 + (4 * t)) + 1) < ((474 : Nat) : Int)) ∧ ((0 ≤ fw_c ((234 + (4 * t)) + 2) ∧ fw_c ((234 + (4 * t)) + 2) < ((474 : Nat) : Int)) ∧ ((0 ≤ fw_c (234 + (4 * t)) ∧ fw_c (234 + (4 * t)) < ((474 : Nat) : Int)) ∧ ((1 = fw_c (σ 95 (fw_c (234 + (4 * t))).toNat) → (sp_m_holds 14 [(2, 93, 0), (0, 0, σ 95 (fw_c ((234 + (4 * t)) + 1)).toNat), (0, 0, x)] σ (fun rv σ2 => G 99 [some (2, 93, 0), some (0, 0, t), some (0, 0, x), some (0, 0, 234 + (4 * t)), some (0, 0, σ 95 (fw_c ((234 + (4 * t)) + 1)).toNat), some (0, 0, σ 95 (fw_c ((234 + (4 * t)) + 2)).toNat), none] (rv.toList ++ []) σ2))) ∧ (1 ≠ fw_c (σ 95 (fw_c (234 + (4 * t))).toNat) → ((2 = fw_c (σ 95 (fw_c (234 + (4 * t))).toNat) → (sp_m_holds 14 [(2, 93, 0), (0, 0, σ 95 (fw_c ((234 + (4 * t)) + 1)).toNat), (0, 0, x)] σ (fun rv σ2 => G 115 [some (2, 93, 0), some (0, 0, t), some (0, 0, x), some (0, 0, 234 + (4 * t)), some (0, 0, σ 95 (fw_c ((234 + (4 * t)) + 1)).toNat), some (0, 0, σ 95 (fw_c ((234 + (4 * t)) + 2)).toNat), none] (rv.toList ++ []) σ2))) ∧ (2 ≠ fw_c (σ 95 (fw_c (234 + (4 * t))).toNat) → ((3 = fw_c (σ 95 (fw_c (234 + (4 * t))).toNat) → (sp_m_holds 14 [(2, 93, 0), (0, 0, σ 95 (fw_c ((234 + (4 * t)) + 1)).toNat), (0, 0, x)] σ (fun rv σ2 => G 141 [some (2, 93, 0), some (0, 0, t), some (0, 0, x), some (0, 0, 234 + (4 * t)), some (0, 0, σ 95 (fw_c ((234 + (4 * t)) + 1)).toNat), some (0, 0, σ 95 (fw_c ((234 + (4 * t)) + 2)).toNat), none] (rv.toList ++ []) σ2))) ∧ (3 ≠ fw_c (σ 95 (fw_c (234 + (4 * t))).toNat) → ((60 = fw_c (σ 95 (fw_c (234 + (4 * t))).toNat) → ((0 ≤ fw_c (176 + (σ 95 (fw_c ((234 + (4 * t)) + 1)).toNat)) ∧ fw_c (176 + (σ 95 (fw_c ((234 + (4 * t)) + 1)).toNat)) < ((474 : Nat) : Int)) ∧ (sp_m_has [(0, 0, σ 95 (fw_c (176 + (σ 95 (fw_c ((234 + (4 * t)) + 1)).toNat))).toNat), (0, 0, x)] σ (fun rv σ2 => G 175 [some (2, 93, 0), some (0, 0, t), some (0, 0, x), some (0, 0, 234 + (4 * t)), some (0, 0, σ 95 (fw_c ((234 + (4 * t)) + 1)).toNat), some (0, 0, σ 95 (fw_c ((234 + (4 * t)) + 2)).toNat), none] (rv.toList ++ []) σ2)))) ∧ (60 ≠ fw_c (σ 95 (fw_c (234 + (4 * t))).toNat) → ((61 = fw_c (σ 95 (fw_c (234 + (4 * t))).toNat) → (sp_m_known [(2, 93, 0), (0, 0, σ 95 (fw_c ((234 + (4 * t)) + 1)).toNat), (0, 0, x)] σ (fun rv σ2 => G 183 [some (2, 93, 0), some (0, 0, t), some (0, 0, x), some (0, 0, 234 + (4 * t)), some (0, 0, σ 95 (fw_c ((234 + (4 * t)) + 1)).toNat), some (0, 0, σ 95 (fw_c ((234 + (4 * t)) + 2)).toNat), none] (rv.toList ++ []) σ2))) ∧ (61 ≠ fw_c (σ 95 (fw_c (234 + (4 * t))).toNat) → ((62 = fw_c (σ 95 (fw_c (234 + (4 * t))).toNat) → (sp_m_areLike [(2, 93, 0), (0, 0, σ 95 (fw_c ((234 + (4 * t)) + 1)).toNat), (0, 0, x), (0, 0, 3), (0, 0, 0)] σ (fun rv σ2 => G 203 [some (2, 93, 0), some (0, 0, t), some (0, 0, x), some (0, 0, 234 + (4 * t)), some (0, 0, σ 95 (fw_c ((234 + (4 * t)) + 1)).toNat), some (0, 0, σ 95 (fw_c ((234 + (4 * t)) + 2)).toNat), none] (rv.toList ++ []) σ2))) ∧ (62 ≠ fw_c (σ 95 (fw_c (234 + (4 * t))).toNat) → ((0 ≤ fw_c (234 + (4 * t)) ∧ fw_c (234 + (4 * t)) < ((474 : Nat) : Int)) ∧ (sp_m_tell [(2, 93, 0), (0, 0, x), (0, 0, ((σ 95 (fw_c (234 + (4 * t))).toNat) - 50) - 13)] σ (fun rv σ2 => G 221 [some (2, 93, 0), some (0, 0, t), some (0, 0, x), some (0, 0, 234 + (4 * t)), some (0, 0, σ 95 (fw_c ((234 + (4 * t)) + 1)).toNat), some (0, 0, σ 95 (fw_c ((234 + (4 * t)) + 2)).toNat), none] (rv.toList ++ []) σ2)))))))))))))))))) : G 0 [some (2, 93, 0), some (0, 0, t), some (0, 0, x), none, none, none, none] [] σ := fw_on hG [99, 115, 125, 141, 151, 175, 183, 203, 221] 200 h
theorem fs_m_holds15_221 {G : fw_K} {R : fw_KR} (hG : fw_cls st_m_holds15 R G) {a1 a2 a3 a4 a5 b0 : Int} {σ : ab_SG} (h : (0 ≤ fw_c (a3 + 3) ∧ fw_c (a3 + 3) < ((474 : Nat) : Int)) ∧ ((fw_c (σ 95 (fw_c (a3 + 3)).toNat) ≠ fw_c 60 → (0 ≤ fw_c (a3 + 3) ∧ fw_c (a3 + 3) < ((474 : Nat) : Int)) ∧ ((fw_c (σ 95 (fw_c (a3 + 3)).toNat) ≠ fw_c 61 → (fw_c b0 ≤ fw_c a5 → (0 ≤ fw_c 0 ∧ fw_c 0 ≤ 1) ∧ R (some (0, 0, 0)) σ) ∧ (fw_c a5 < fw_c b0 → (0 ≤ fw_c 1 ∧ fw_c 1 ≤ 1) ∧ R (some (0, 0, 1)) σ)) ∧ (fw_c (σ 95 (fw_c (a3 + 3)).toNat) = fw_c 61 → (fw_c b0 ≠ fw_c a5 → (0 ≤ fw_c 0 ∧ fw_c 0 ≤ 1) ∧ R (some (0, 0, 0)) σ) ∧ (fw_c b0 = fw_c a5 → (0 ≤ fw_c 1 ∧ fw_c 1 ≤ 1) ∧ R (some (0, 0, 1)) σ)))) ∧ (fw_c (σ 95 (fw_c (a3 + 3)).toNat) = fw_c 60 → (fw_c a5 ≤ fw_c b0 → (0 ≤ fw_c 0 ∧ fw_c 0 ≤ 1) ∧ R (some (0, 0, 0)) σ) ∧ (fw_c b0 < fw_c a5 → (0 ≤ fw_c 1 ∧ fw_c 1 ≤ 1) ∧ R (some (0, 0, 1)) σ)))) : G 221 [some (2, 93, 0), some (0, 0, a1), some (0, 0, a2), some (0, 0, a3), some (0, 0, a4), some (0, 0, a5), none] [(0, 0, b0)] σ := fw_on hG [99, 115, 125, 141, 151, 175, 183, 203, 221] 200 h
theorem fs_m_holds15_203 {G : fw_K} {R : fw_KR} (hG : fw_cls st_m_holds15 R G) {a1 a2 a3 a4 a5 b0 : Int} {σ : ab_SG} (h : (0 ≤ fw_c b0 ∧ fw_c b0 ≤ 1) ∧ R (some (0, 0, b0)) σ) : G 203 [some (2, 93, 0), some (0, 0, a1), some (0, 0, a2), some (0, 0, a3), some (0, 0, a4), some (0, 0, a5), none] [(0, 0, b0)] σ := fw_on hG [99, 115, 125, 141, 151, 175, 183, 203, 221] 200 h
theorem fs_m_holds15_183 {G : fw_K} {R : fw_KR} (hG : fw_cls st_m_holds15 R G) {a1 a2 a3 a4 a5 b0 : Int} {σ : ab_SG} (h : (fw_c b0 ≠ fw_c 9 → (0 ≤ fw_c 0 ∧ fw_c 0 ≤ 1) ∧ R (some (0, 0, 0)) σ) ∧ (fw_c b0 = fw_c 9 → (0 ≤ fw_c 1 ∧ fw_c 1 ≤ 1) ∧ R (some (0, 0, 1)) σ)) : G 183 [some (2, 93, 0), some (0, 0, a1), some (0, 0, a2), some (0, 0, a3), some (0, 0, a4), some (0, 0, a5), none] [(0, 0, b0)] σ := fw_on hG [99, 115, 125, 141, 151, 175, 183, 203, 221] 200 h
theorem fs_m_holds15_175 {G : fw_K} {R : fw_KR} (hG : fw_cls st_m_holds15 R G) {a1 a2 a3 a4 a5 b0 : Int} {σ : ab_SG} (h : (0 ≤ fw_c b0 ∧ fw_c b0 ≤ 1) ∧ R (some (0, 0, b0)) σ) : G 175 [some (2, 93, 0), some (0, 0, a1), some (0, 0, a2), some (0, 0, a3), some (0, 0, a4), some (0, 0, a5), none] [(0, 0, b0)] σ := fw_on hG [99, 115, 125, 141, 151, 175, 183, 203, 221] 200 h
theorem fs_m_holds15_141 {G : fw_K} {R : fw_KR} (hG : fw_cls st_m_holds15 R G) {a1 a2 a3 a4 a5 b0 : Int} {σ : ab_SG} (h : (fw_c b0 ≠ 0 → (0 ≤ fw_c 1 ∧ fw_c 1 ≤ 1) ∧ R (some (0, 0, 1)) σ) ∧ (fw_c b0 = 0 → sp_m_holds 14 [(2, 93, 0), (0, 0, a5), (0, 0, a2)] σ (fun rv σ2 => G 151 [some (2, 93, 0), some (0, 0, a1), some (0, 0, a2), some (0, 0, a3), some (0, 0, a4), some (0, 0, a5), none] (rv.toList ++ []) σ2))) : G 141 [some (2, 93, 0), some (0, 0, a1), some (0, 0, a2), some (0, 0, a3), some (0, 0, a4), some (0, 0, a5), none] [(0, 0, b0)] σ := fw_on hG [99, 115, 125, 141, 151, 175, 183, 203, 221] 200 h
theorem fs_m_holds15_115 {G : fw_K} {R : fw_KR} (hG : fw_cls st_m_holds15 R G) {a1 a2 a3 a4 a5 b0 : Int} {σ : ab_SG} (h : (fw_c b0 = 0 → (0 ≤ fw_c 0 ∧ fw_c 0 ≤ 1) ∧ R (some (0, 0, 0)) σ) ∧ (fw_c b0 ≠ 0 → sp_m_holds 14 [(2, 93, 0), (0, 0, a5), (0, 0, a2)] σ (fun rv σ2 => G 125 [some (2, 93, 0), some (0, 0, a1), some (0, 0, a2), some (0, 0, a3), some (0, 0, a4), some (0, 0, a5), none] (rv.toList ++ []) σ2))) : G 115 [some (2, 93, 0), some (0, 0, a1), some (0, 0, a2), some (0, 0, a3), some (0, 0, a4), some (0, 0, a5), none] [(0, 0, b0)] σ := fw_on hG [99, 115, 125, 141, 151, 175, 183, 203, 221] 200 h
theorem fs_m_holds15_99 {G : fw_K} {R : fw_KR} (hG : fw_cls st_m_holds15 R G) {a1 a2 a3 a4 a5 b0 : Int} {σ : ab_SG} (h : (fw_c b0 ≠ 0 → (0 ≤ fw_c 0 ∧ fw_c 0 ≤ 1) ∧ R (some (0, 0, 0)) σ) ∧ (fw_c b0 = 0 → (0 ≤ fw_c 1 ∧ fw_c 1 ≤ 1) ∧ R (some (0, 0, 1)) σ)) : G 99 [some (2, 93, 0), some (0, 0, a1), some (0, 0, a2), some (0, 0, a3), some (0, 0, a4), some (0, 0, a5), none] [(0, 0, b0)] σ := fw_on hG [99, 115, 125, 141, 151, 175, 183, 203, 221] 200 h
theorem fs_m_holds15_151 {G : fw_K} {R : fw_KR} (hG : fw_cls st_m_holds15 R G) {a1 a2 a3 a4 a5 b0 : Int} {σ : ab_SG} (h : (fw_c b0 = 0 → (0 ≤ fw_c 0 ∧ fw_c 0 ≤ 1) ∧ R (some (0, 0, 0)) σ) ∧ (fw_c b0 ≠ 0 → (0 ≤ fw_c 1 ∧ fw_c 1 ≤ 1) ∧ R (some (0, 0, 1)) σ)) : G 151 [some (2, 93, 0), some (0, 0, a1), some (0, 0, a2), some (0, 0, a3), some (0, 0, a4), some (0, 0, a5), none] [(0, 0, b0)] σ := fw_on hG [99, 115, 125, 141, 151, 175, 183, 203, 221] 200 h
theorem fs_m_holds15_125 {G : fw_K} {R : fw_KR} (hG : fw_cls st_m_holds15 R G) {a1 a2 a3 a4 a5 b0 : Int} {σ : ab_SG} (h : (fw_c b0 = 0 → (0 ≤ fw_c 0 ∧ fw_c 0 ≤ 1) ∧ R (some (0, 0, 0)) σ) ∧ (fw_c b0 ≠ 0 → (0 ≤ fw_c 1 ∧ fw_c 1 ≤ 1) ∧ R (some (0, 0, 1)) σ)) : G 125 [some (2, 93, 0), some (0, 0, a1), some (0, 0, a2), some (0, 0, a3), some (0, 0, a4), some (0, 0, a5), none] [(0, 0, b0)] σ := fw_on hG [99, 115, 125, 141, 151, 175, 183, 203, 221] 200 h
section
variable {l : Launch} {cy : Nat → ClassId} {ad wr cr : Nat → Nat} {D : va_G}
theorem fm_m_holds15 (hinj : nn_inj ad) : fw_H l cy ad wr cr D 351 20 (sp_m_holds 15) := fw_mk hinj (⟨"NameNotesModel", "holds", "(II)Z"⟩, prog_14_method_148_code, 7, (Option.some Jvm.ClassFile.FieldType.boolean), 2, true, 1) rfl rfl nn_KI20_ok nn_KJ20_ok nn_PF20_ok nn_PS20_ok (by decide +kernel) rfl rfl (List.forall_mem_cons.mpr ⟨fw_row nn_PM20_ok (x := 216) (k := 0) (mn := 230) (np := 2) (ob := false) (ci := 0) (⟨"NameNotesModel", "has", "(II)Z"⟩, prog_14_method_9_code, 2, (Option.some Jvm.ClassFile.FieldType.boolean), 2, false, 1) rfl (by decide +kernel) rfl rfl (by decide) (fun q => by cases q) (fm_m_has hinj), (List.forall_mem_cons.mpr ⟨fw_row nn_PM20_ok (x := 277) (k := 0) (mn := 244) (np := 2) (ob := true) (ci := 11) (⟨"NameNotesModel", "tell", "(II)I"⟩, prog_14_method_50_code, 6, (Option.some Jvm.ClassFile.FieldType.int), 2, true, 0) rfl (by decide +kernel) rfl rfl (by decide) (fun _ => ⟨_, _, rfl⟩) (fm_m_tell hinj), (List.forall_mem_cons.mpr ⟨fw_row nn_PM20_ok (x := 284) (k := 0) (mn := 250) (np := 2) (ob := true) (ci := 11) (⟨"NameNotesModel", "known", "(II)I"⟩, prog_14_method_54_code, 3, (Option.some Jvm.ClassFile.FieldType.int), 2, true, 0) rfl (by decide +kernel) rfl rfl (by decide) (fun _ => ⟨_, _, rfl⟩) (fm_m_known hinj), (List.forall_mem_cons.mpr ⟨fw_row nn_PM20_ok (x := 294) (k := 0) (mn := 257) (np := 4) (ob := true) (ci := 11) (⟨"NameNotesModel", "areLike", "(IIII)Z"⟩, prog_14_method_59_code, 5, (Option.some Jvm.ClassFile.FieldType.boolean), 4, true, 1) rfl (by decide +kernel) rfl rfl (by decide) (fun _ => ⟨_, _, rfl⟩) (fm_m_areLike hinj), (List.forall_mem_cons.mpr ⟨fw_row nn_PM20_ok (x := 525) (k := 0) (mn := 351) (np := 2) (ob := true) (ci := 11) (⟨"NameNotesModel", "holds", "(II)Z"⟩, prog_14_method_148_code, 7, (Option.some Jvm.ClassFile.FieldType.boolean), 2, true, 1) rfl (by decide +kernel) rfl rfl (by decide) (fun _ => ⟨_, _, rfl⟩) (fm_m_holds14 hinj), (fun _ h => absurd h List.not_mem_nil)⟩)⟩)⟩)⟩)⟩) (fun as σ K h => by
  obtain ⟨A, x, t, L, rfl, hN, hx, H, hv, h⟩ := h
  exact ⟨rfl, fun G hG => mh_core hN hx H hv h (fs_m_holds15_0 hG) (fs_m_holds15_221 hG) (fs_m_holds15_203 hG) (fs_m_holds15_183 hG) (fs_m_holds15_175 hG) (fs_m_holds15_141 hG) (fs_m_holds15_115 hG) (fs_m_holds15_99 hG) (fs_m_holds15_151 hG) (fs_m_holds15_125 hG)⟩)
end
abbrev fk_m_holds16 : List fw_CR := [(216, 2, false, 0, 0, sp_m_has), (277, 2, true, 11, 2, sp_m_tell), (284, 2, true, 11, 0, sp_m_known), (294, 4, true, 11, 4, sp_m_areLike), (525, 2, true, 11, 20, sp_m_holds 15)]
abbrev st_m_holds16 : fw_K → fw_KR → fw_K := fw_st vwCl nn_sh nn_kd fw_kv fw_wc (nn_KI20.map (fun x => x.1)) (nn_KJ20.map (fun x => x.1)) (nn_PF20.map (fun x => x.1)) (nn_PS20.map (fun x => x.1)) fk_m_holds16 21 nn_dt351 7 1
theorem fs_m_holds16_0 {G : fw_K} {R : fw_KR} (hG : fw_cls st_m_holds16 R G) {t x : Int} {σ : ab_SG} (h : (0 ≤ fw_c ((234 + (4 * t)) + 1) ∧ fw_c ((234 + (4 * t)) + 1) < ((474 : Nat) : Int)) ∧ ((0 ≤ fw_c ((234 + (4 * t)) + 2) ∧ fw_c ((234 + (4 * t)) + 2) < ((474 : Nat) : Int)) ∧ ((0 ≤ fw_c (234 + (4 * t)) ∧ fw_c (234 + (4 * t)) < ((474 : Nat) : Int)) ∧ ((1 = fw_c (σ 95 (fw_c (234 + (4 * t))).toNat) → (sp_m_holds 15 [(2, 93, 0), (0, 0, σ 95 (fw_c ((234 + (4 * t)) + 1)).toNat), (0, 0, x)] σ (fun rv σ2 => G 99 [some (2, 93, 0), some (0, 0, t), some (0, 0, x), some (0, 0, 234 + (4 * t)), some (0, 0, σ 95 (fw_c ((234 + (4 * t)) + 1)).toNat), some (0, 0, σ 95 (fw_c ((234 + (4 * t)) + 2)).toNat), none] (rv.toList ++ []) σ2))) ∧ (1 ≠ fw_c (σ 95 (fw_c (234 + (4 * t))).toNat) → ((2 = fw_c (σ 95 (fw_c (234 + (4 * t))).toNat) → (sp_m_holds 15 [(2, 93, 0), (0, 0, σ 95 (fw_c ((234 + (4 * t)) + 1)).toNat), (0, 0, x)] σ (fun rv σ2 => G 115 [some (2, 93, 0), some (0, 0, t), some (0, 0, x), some (0, 0, 234 + (4 * t)), some (0, 0, σ 95 (fw_c ((234 + (4 * t)) + 1)).toNat), some (0, 0, σ 95 (fw_c ((234 + (4 * t)) + 2)).toNat), none] (rv.toList ++ []) σ2))) ∧ (2 ≠ fw_c (σ 95 (fw_c (234 + (4 * t))).toNat) → ((3 = fw_c (σ 95 (fw_c (234 + (4 * t))).toNat) → (sp_m_holds 15 [(2, 93, 0), (0, 0, σ 95 (fw_c ((234 + (4 * t)) + 1)).toNat), (0, 0, x)] σ (fun rv σ2 => G 141 [some (2, 93, 0), some (0, 0, t), some (0, 0, x), some (0, 0, 234 + (4 * t)), some (0, 0, σ 95 (fw_c ((234 + (4 * t)) + 1)).toNat), some (0, 0, σ 95 (fw_c ((234 + (4 * t)) + 2)).toNat), none] (rv.toList ++ []) σ2))) ∧ (3 ≠ fw_c (σ 95 (fw_c (234 + (4 * t))).toNat) → ((60 = fw_c (σ 95 (fw_c (234 + (4 * t))).toNat) → ((0 ≤ fw_c (176 + (σ 95 (fw_c ((234 + (4 * t)) + 1)).toNat)) ∧ fw_c (176 + (σ 95 (fw_c ((234 + (4 * t)) + 1)).toNat)) < ((474 : Nat) : Int)) ∧ (sp_m_has [(0, 0, σ 95 (fw_c (176 + (σ 95 (fw_c ((234 + (4 * t)) + 1)).toNat))).toNat), (0, 0, x)] σ (fun rv σ2 => G 175 [some (2, 93, 0), some (0, 0, t), some (0, 0, x), some (0, 0, 234 + (4 * t)), some (0, 0, σ 95 (fw_c ((234 + (4 * t)) + 1)).toNat), some (0, 0, σ 95 (fw_c ((234 + (4 * t)) + 2)).toNat), none] (rv.toList ++ []) σ2)))) ∧ (60 ≠ fw_c (σ 95 (fw_c (234 + (4 * t))).toNat) → ((61 = fw_c (σ 95 (fw_c (234 + (4 * t))).toNat) → (sp_m_known [(2, 93, 0), (0, 0, σ 95 (fw_c ((234 + (4 * t)) + 1)).toNat), (0, 0, x)] σ (fun rv σ2 => G 183 [some (2, 93, 0), some (0, 0, t), some (0, 0, x), some (0, 0, 234 + (4 * t)), some (0, 0, σ 95 (fw_c ((234 + (4 * t)) + 1)).toNat), some (0, 0, σ 95 (fw_c ((234 + (4 * t)) + 2)).toNat), none] (rv.toList ++ []) σ2))) ∧ (61 ≠ fw_c (σ 95 (fw_c (234 + (4 * t))).toNat) → ((62 = fw_c (σ 95 (fw_c (234 + (4 * t))).toNat) → (sp_m_areLike [(2, 93, 0), (0, 0, σ 95 (fw_c ((234 + (4 * t)) + 1)).toNat), (0, 0, x), (0, 0, 3), (0, 0, 0)] σ (fun rv σ2 => G 203 [some (2, 93, 0), some (0, 0, t), some (0, 0, x), some (0, 0, 234 + (4 * t)), some (0, 0, σ 95 (fw_c ((234 + (4 * t)) + 1)).toNat), some (0, 0, σ 95 (fw_c ((234 + (4 * t)) + 2)).toNat), none] (rv.toList ++ []) σ2))) ∧ (62 ≠ fw_c (σ 95 (fw_c (234 + (4 * t))).toNat) → ((0 ≤ fw_c (234 + (4 * t)) ∧ fw_c (234 + (4 * t)) < ((474 : Nat) : Int)) ∧ (sp_m_tell [(2, 93, 0), (0, 0, x), (0, 0, ((σ 95 (fw_c (234 + (4 * t))).toNat) - 50) - 13)] σ (fun rv σ2 => G 221 [some (2, 93, 0), some (0, 0, t), some (0, 0, x), some (0, 0, 234 + (4 * t)), some (0, 0, σ 95 (fw_c ((234 + (4 * t)) + 1)).toNat), some (0, 0, σ 95 (fw_c ((234 + (4 * t)) + 2)).toNat), none] (rv.toList ++ []) σ2)))))))))))))))))) : G 0 [some (2, 93, 0), some (0, 0, t), some (0, 0, x), none, none, none, none] [] σ := fw_on hG [99, 115, 125, 141, 151, 175, 183, 203, 221] 200 h
theorem fs_m_holds16_221 {G : fw_K} {R : fw_KR} (hG : fw_cls st_m_holds16 R G) {a1 a2 a3 a4 a5 b0 : Int} {σ : ab_SG} (h : (0 ≤ fw_c (a3 + 3) ∧ fw_c (a3 + 3) < ((474 : Nat) : Int)) ∧ ((fw_c (σ 95 (fw_c (a3 + 3)).toNat) ≠ fw_c 60 → (0 ≤ fw_c (a3 + 3) ∧ fw_c (a3 + 3) < ((474 : Nat) : Int)) ∧ ((fw_c (σ 95 (fw_c (a3 + 3)).toNat) ≠ fw_c 61 → (fw_c b0 ≤ fw_c a5 → (0 ≤ fw_c 0 ∧ fw_c 0 ≤ 1) ∧ R (some (0, 0, 0)) σ) ∧ (fw_c a5 < fw_c b0 → (0 ≤ fw_c 1 ∧ fw_c 1 ≤ 1) ∧ R (some (0, 0, 1)) σ)) ∧ (fw_c (σ 95 (fw_c (a3 + 3)).toNat) = fw_c 61 → (fw_c b0 ≠ fw_c a5 → (0 ≤ fw_c 0 ∧ fw_c 0 ≤ 1) ∧ R (some (0, 0, 0)) σ) ∧ (fw_c b0 = fw_c a5 → (0 ≤ fw_c 1 ∧ fw_c 1 ≤ 1) ∧ R (some (0, 0, 1)) σ)))) ∧ (fw_c (σ 95 (fw_c (a3 + 3)).toNat) = fw_c 60 → (fw_c a5 ≤ fw_c b0 → (0 ≤ fw_c 0 ∧ fw_c 0 ≤ 1) ∧ R (some (0, 0, 0)) σ) ∧ (fw_c b0 < fw_c a5 → (0 ≤ fw_c 1 ∧ fw_c 1 ≤ 1) ∧ R (some (0, 0, 1)) σ)))) : G 221 [some (2, 93, 0), some (0, 0, a1), some (0, 0, a2), some (0, 0, a3), some (0, 0, a4), some (0, 0, a5), none] [(0, 0, b0)] σ := fw_on hG [99, 115, 125, 141, 151, 175, 183, 203, 221] 200 h
theorem fs_m_holds16_203 {G : fw_K} {R : fw_KR} (hG : fw_cls st_m_holds16 R G) {a1 a2 a3 a4 a5 b0 : Int} {σ : ab_SG} (h : (0 ≤ fw_c b0 ∧ fw_c b0 ≤ 1) ∧ R (some (0, 0, b0)) σ) : G 203 [some (2, 93, 0), some (0, 0, a1), some (0, 0, a2), some (0, 0, a3), some (0, 0, a4), some (0, 0, a5), none] [(0, 0, b0)] σ := fw_on hG [99, 115, 125, 141, 151, 175, 183, 203, 221] 200 h
theorem fs_m_holds16_183 {G : fw_K} {R : fw_KR} (hG : fw_cls st_m_holds16 R G) {a1 a2 a3 a4 a5 b0 : Int} {σ : ab_SG} (h : (fw_c b0 ≠ fw_c 9 → (0 ≤ fw_c 0 ∧ fw_c 0 ≤ 1) ∧ R (some (0, 0, 0)) σ) ∧ (fw_c b0 = fw_c 9 → (0 ≤ fw_c 1 ∧ fw_c 1 ≤ 1) ∧ R (some (0, 0, 1)) σ)) : G 183 [some (2, 93, 0), some (0, 0, a1), some (0, 0, a2), some (0, 0, a3), some (0, 0, a4), some (0, 0, a5), none] [(0, 0, b0)] σ := fw_on hG [99, 115, 125, 141, 151, 175, 183, 203, 221] 200 h
theorem fs_m_holds16_175 {G : fw_K} {R : fw_KR} (hG : fw_cls st_m_holds16 R G) {a1 a2 a3 a4 a5 b0 : Int} {σ : ab_SG} (h : (0 ≤ fw_c b0 ∧ fw_c b0 ≤ 1) ∧ R (some (0, 0, b0)) σ) : G 175 [some (2, 93, 0), some (0, 0, a1), some (0, 0, a2), some (0, 0, a3), some (0, 0, a4), some (0, 0, a5), none] [(0, 0, b0)] σ := fw_on hG [99, 115, 125, 141, 151, 175, 183, 203, 221] 200 h
theorem fs_m_holds16_141 {G : fw_K} {R : fw_KR} (hG : fw_cls st_m_holds16 R G) {a1 a2 a3 a4 a5 b0 : Int} {σ : ab_SG} (h : (fw_c b0 ≠ 0 → (0 ≤ fw_c 1 ∧ fw_c 1 ≤ 1) ∧ R (some (0, 0, 1)) σ) ∧ (fw_c b0 = 0 → sp_m_holds 15 [(2, 93, 0), (0, 0, a5), (0, 0, a2)] σ (fun rv σ2 => G 151 [some (2, 93, 0), some (0, 0, a1), some (0, 0, a2), some (0, 0, a3), some (0, 0, a4), some (0, 0, a5), none] (rv.toList ++ []) σ2))) : G 141 [some (2, 93, 0), some (0, 0, a1), some (0, 0, a2), some (0, 0, a3), some (0, 0, a4), some (0, 0, a5), none] [(0, 0, b0)] σ := fw_on hG [99, 115, 125, 141, 151, 175, 183, 203, 221] 200 h
theorem fs_m_holds16_115 {G : fw_K} {R : fw_KR} (hG : fw_cls st_m_holds16 R G) {a1 a2 a3 a4 a5 b0 : Int} {σ : ab_SG} (h : (fw_c b0 = 0 → (0 ≤ fw_c 0 ∧ fw_c 0 ≤ 1) ∧ R (some (0, 0, 0)) σ) ∧ (fw_c b0 ≠ 0 → sp_m_holds 15 [(2, 93, 0), (0, 0, a5), (0, 0, a2)] σ (fun rv σ2 => G 125 [some (2, 93, 0), some (0, 0, a1), some (0, 0, a2), some (0, 0, a3), some (0, 0, a4), some (0, 0, a5), none] (rv.toList ++ []) σ2))) : G 115 [some (2, 93, 0), some (0, 0, a1), some (0, 0, a2), some (0, 0, a3), some (0, 0, a4), some (0, 0, a5), none] [(0, 0, b0)] σ := fw_on hG [99, 115, 125, 141, 151, 175, 183, 203, 221] 200 h
theorem fs_m_holds16_99 {G : fw_K} {R : fw_KR} (hG : fw_cls st_m_holds16 R G) {a1 a2 a3 a4 a5 b0 : Int} {σ : ab_SG} (h : (fw_c b0 ≠ 0 → (0 ≤ fw_c 0 ∧ fw_c 0 ≤ 1) ∧ R (some (0, 0, 0)) σ) ∧ (fw_c b0 = 0 → (0 ≤ fw_c 1 ∧ fw_c 1 ≤ 1) ∧ R (some (0, 0, 1)) σ)) : G 99 [some (2, 93, 0), some (0, 0, a1), some (0, 0, a2), some (0, 0, a3), some (0, 0, a4), some (0, 0, a5), none] [(0, 0, b0)] σ := fw_on hG [99, 115, 125, 141, 151, 175, 183, 203, 221] 200 h
theorem fs_m_holds16_151 {G : fw_K} {R : fw_KR} (hG : fw_cls st_m_holds16 R G) {a1 a2 a3 a4 a5 b0 : Int} {σ : ab_SG} (h : (fw_c b0 = 0 → (0 ≤ fw_c 0 ∧ fw_c 0 ≤ 1) ∧ R (some (0, 0, 0)) σ) ∧ (fw_c b0 ≠ 0 → (0 ≤ fw_c 1 ∧ fw_c 1 ≤ 1) ∧ R (some (0, 0, 1)) σ)) : G 151 [some (2, 93, 0), some (0, 0, a1), some (0, 0, a2), some (0, 0, a3), some (0, 0, a4), some (0, 0, a5), none] [(0, 0, b0)] σ := fw_on hG [99, 115, 125, 141, 151, 175, 183, 203, 221] 200 h
theorem fs_m_holds16_125 {G : fw_K} {R : fw_KR} (hG : fw_cls st_m_holds16 R G) {a1 a2 a3 a4 a5 b0 : Int} {σ : ab_SG} (h : (fw_c b0 = 0 → (0 ≤ fw_c 0 ∧ fw_c 0 ≤ 1) ∧ R (some (0, 0, 0)) σ) ∧ (fw_c b0 ≠ 0 → (0 ≤ fw_c 1 ∧ fw_c 1 ≤ 1) ∧ R (some (0, 0, 1)) σ)) : G 125 [some (2, 93, 0), some (0, 0, a1), some (0, 0, a2), some (0, 0, a3), some (0, 0, a4), some (0, 0, a5), none] [(0, 0, b0)] σ := fw_on hG [99, 115, 125, 141, 151, 175, 183, 203, 221] 200 h
section
variable {l : Launch} {cy : Nat → ClassId} {ad wr cr : Nat → Nat} {D : va_G}
theorem fm_m_holds16 (hinj : nn_inj ad) : fw_H l cy ad wr cr D 351 21 (sp_m_holds 16) := fw_mk hinj (⟨"NameNotesModel", "holds", "(II)Z"⟩, prog_14_method_148_code, 7, (Option.some Jvm.ClassFile.FieldType.boolean), 2, true, 1) rfl rfl nn_KI20_ok nn_KJ20_ok nn_PF20_ok nn_PS20_ok (by decide +kernel) rfl rfl (List.forall_mem_cons.mpr ⟨fw_row nn_PM20_ok (x := 216) (k := 0) (mn := 230) (np := 2) (ob := false) (ci := 0) (⟨"NameNotesModel", "has", "(II)Z"⟩, prog_14_method_9_code, 2, (Option.some Jvm.ClassFile.FieldType.boolean), 2, false, 1) rfl (by decide +kernel) rfl rfl (by decide) (fun q => by cases q) (fm_m_has hinj), (List.forall_mem_cons.mpr ⟨fw_row nn_PM20_ok (x := 277) (k := 0) (mn := 244) (np := 2) (ob := true) (ci := 11) (⟨"NameNotesModel", "tell", "(II)I"⟩, prog_14_method_50_code, 6, (Option.some Jvm.ClassFile.FieldType.int), 2, true, 0) rfl (by decide +kernel) rfl rfl (by decide) (fun _ => ⟨_, _, rfl⟩) (fm_m_tell hinj), (List.forall_mem_cons.mpr ⟨fw_row nn_PM20_ok (x := 284) (k := 0) (mn := 250) (np := 2) (ob := true) (ci := 11) (⟨"NameNotesModel", "known", "(II)I"⟩, prog_14_method_54_code, 3, (Option.some Jvm.ClassFile.FieldType.int), 2, true, 0) rfl (by decide +kernel) rfl rfl (by decide) (fun _ => ⟨_, _, rfl⟩) (fm_m_known hinj), (List.forall_mem_cons.mpr ⟨fw_row nn_PM20_ok (x := 294) (k := 0) (mn := 257) (np := 4) (ob := true) (ci := 11) (⟨"NameNotesModel", "areLike", "(IIII)Z"⟩, prog_14_method_59_code, 5, (Option.some Jvm.ClassFile.FieldType.boolean), 4, true, 1) rfl (by decide +kernel) rfl rfl (by decide) (fun _ => ⟨_, _, rfl⟩) (fm_m_areLike hinj), (List.forall_mem_cons.mpr ⟨fw_row nn_PM20_ok (x := 525) (k := 0) (mn := 351) (np := 2) (ob := true) (ci := 11) (⟨"NameNotesModel", "holds", "(II)Z"⟩, prog_14_method_148_code, 7, (Option.some Jvm.ClassFile.FieldType.boolean), 2, true, 1) rfl (by decide +kernel) rfl rfl (by decide) (fun _ => ⟨_, _, rfl⟩) (fm_m_holds15 hinj), (fun _ h => absurd h List.not_mem_nil)⟩)⟩)⟩)⟩)⟩) (fun as σ K h => by
  obtain ⟨A, x, t, L, rfl, hN, hx, H, hv, h⟩ := h
  exact ⟨rfl, fun G hG => mh_core hN hx H hv h (fs_m_holds16_0 hG) (fs_m_holds16_221 hG) (fs_m_holds16_203 hG) (fs_m_holds16_183 hG) (fs_m_holds16_175 hG) (fs_m_holds16_141 hG) (fs_m_holds16_115 hG) (fs_m_holds16_99 hG) (fs_m_holds16_151 hG) (fs_m_holds16_125 hG)⟩)
end
abbrev fk_m_holds17 : List fw_CR := [(216, 2, false, 0, 0, sp_m_has), (277, 2, true, 11, 2, sp_m_tell), (284, 2, true, 11, 0, sp_m_known), (294, 4, true, 11, 4, sp_m_areLike), (525, 2, true, 11, 21, sp_m_holds 16)]
abbrev st_m_holds17 : fw_K → fw_KR → fw_K := fw_st vwCl nn_sh nn_kd fw_kv fw_wc (nn_KI20.map (fun x => x.1)) (nn_KJ20.map (fun x => x.1)) (nn_PF20.map (fun x => x.1)) (nn_PS20.map (fun x => x.1)) fk_m_holds17 22 nn_dt351 7 1
theorem fs_m_holds17_0 {G : fw_K} {R : fw_KR} (hG : fw_cls st_m_holds17 R G) {t x : Int} {σ : ab_SG} (h : (0 ≤ fw_c ((234 + (4 * t)) + 1) ∧ fw_c ((234 + (4 * t)) + 1) < ((474 : Nat) : Int)) ∧ ((0 ≤ fw_c ((234 + (4 * t)) + 2) ∧ fw_c ((234 + (4 * t)) + 2) < ((474 : Nat) : Int)) ∧ ((0 ≤ fw_c (234 + (4 * t)) ∧ fw_c (234 + (4 * t)) < ((474 : Nat) : Int)) ∧ ((1 = fw_c (σ 95 (fw_c (234 + (4 * t))).toNat) → (sp_m_holds 16 [(2, 93, 0), (0, 0, σ 95 (fw_c ((234 + (4 * t)) + 1)).toNat), (0, 0, x)] σ (fun rv σ2 => G 99 [some (2, 93, 0), some (0, 0, t), some (0, 0, x), some (0, 0, 234 + (4 * t)), some (0, 0, σ 95 (fw_c ((234 + (4 * t)) + 1)).toNat), some (0, 0, σ 95 (fw_c ((234 + (4 * t)) + 2)).toNat), none] (rv.toList ++ []) σ2))) ∧ (1 ≠ fw_c (σ 95 (fw_c (234 + (4 * t))).toNat) → ((2 = fw_c (σ 95 (fw_c (234 + (4 * t))).toNat) → (sp_m_holds 16 [(2, 93, 0), (0, 0, σ 95 (fw_c ((234 + (4 * t)) + 1)).toNat), (0, 0, x)] σ (fun rv σ2 => G 115 [some (2, 93, 0), some (0, 0, t), some (0, 0, x), some (0, 0, 234 + (4 * t)), some (0, 0, σ 95 (fw_c ((234 + (4 * t)) + 1)).toNat), some (0, 0, σ 95 (fw_c ((234 + (4 * t)) + 2)).toNat), none] (rv.toList ++ []) σ2))) ∧ (2 ≠ fw_c (σ 95 (fw_c (234 + (4 * t))).toNat) → ((3 = fw_c (σ 95 (fw_c (234 + (4 * t))).toNat) → (sp_m_holds 16 [(2, 93, 0), (0, 0, σ 95 (fw_c ((234 + (4 * t)) + 1)).toNat), (0, 0, x)] σ (fun rv σ2 => G 141 [some (2, 93, 0), some (0, 0, t), some (0, 0, x), some (0, 0, 234 + (4 * t)), some (0, 0, σ 95 (fw_c ((234 + (4 * t)) + 1)).toNat), some (0, 0, σ 95 (fw_c ((234 + (4 * t)) + 2)).toNat), none] (rv.toList ++ []) σ2))) ∧ (3 ≠ fw_c (σ 95 (fw_c (234 + (4 * t))).toNat) → ((60 = fw_c (σ 95 (fw_c (234 + (4 * t))).toNat) → ((0 ≤ fw_c (176 + (σ 95 (fw_c ((234 + (4 * t)) + 1)).toNat)) ∧ fw_c (176 + (σ 95 (fw_c ((234 + (4 * t)) + 1)).toNat)) < ((474 : Nat) : Int)) ∧ (sp_m_has [(0, 0, σ 95 (fw_c (176 + (σ 95 (fw_c ((234 + (4 * t)) + 1)).toNat))).toNat), (0, 0, x)] σ (fun rv σ2 => G 175 [some (2, 93, 0), some (0, 0, t), some (0, 0, x), some (0, 0, 234 + (4 * t)), some (0, 0, σ 95 (fw_c ((234 + (4 * t)) + 1)).toNat), some (0, 0, σ 95 (fw_c ((234 + (4 * t)) + 2)).toNat), none] (rv.toList ++ []) σ2)))) ∧ (60 ≠ fw_c (σ 95 (fw_c (234 + (4 * t))).toNat) → ((61 = fw_c (σ 95 (fw_c (234 + (4 * t))).toNat) → (sp_m_known [(2, 93, 0), (0, 0, σ 95 (fw_c ((234 + (4 * t)) + 1)).toNat), (0, 0, x)] σ (fun rv σ2 => G 183 [some (2, 93, 0), some (0, 0, t), some (0, 0, x), some (0, 0, 234 + (4 * t)), some (0, 0, σ 95 (fw_c ((234 + (4 * t)) + 1)).toNat), some (0, 0, σ 95 (fw_c ((234 + (4 * t)) + 2)).toNat), none] (rv.toList ++ []) σ2))) ∧ (61 ≠ fw_c (σ 95 (fw_c (234 + (4 * t))).toNat) → ((62 = fw_c (σ 95 (fw_c (234 + (4 * t))).toNat) → (sp_m_areLike [(2, 93, 0), (0, 0, σ 95 (fw_c ((234 + (4 * t)) + 1)).toNat), (0, 0, x), (0, 0, 3), (0, 0, 0)] σ (fun rv σ2 => G 203 [some (2, 93, 0), some (0, 0, t), some (0, 0, x), some (0, 0, 234 + (4 * t)), some (0, 0, σ 95 (fw_c ((234 + (4 * t)) + 1)).toNat), some (0, 0, σ 95 (fw_c ((234 + (4 * t)) + 2)).toNat), none] (rv.toList ++ []) σ2))) ∧ (62 ≠ fw_c (σ 95 (fw_c (234 + (4 * t))).toNat) → ((0 ≤ fw_c (234 + (4 * t)) ∧ fw_c (234 + (4 * t)) < ((474 : Nat) : Int)) ∧ (sp_m_tell [(2, 93, 0), (0, 0, x), (0, 0, ((σ 95 (fw_c (234 + (4 * t))).toNat) - 50) - 13)] σ (fun rv σ2 => G 221 [some (2, 93, 0), some (0, 0, t), some (0, 0, x), some (0, 0, 234 + (4 * t)), some (0, 0, σ 95 (fw_c ((234 + (4 * t)) + 1)).toNat), some (0, 0, σ 95 (fw_c ((234 + (4 * t)) + 2)).toNat), none] (rv.toList ++ []) σ2)))))))))))))))))) : G 0 [some (2, 93, 0), some (0, 0, t), some (0, 0, x), none, none, none, none] [] σ := fw_on hG [99, 115, 125, 141, 151, 175, 183, 203, 221] 200 h
theorem fs_m_holds17_221 {G : fw_K} {R : fw_KR} (hG : fw_cls st_m_holds17 R G) {a1 a2 a3 a4 a5 b0 : Int} {σ : ab_SG} (h : (0 ≤ fw_c (a3 + 3) ∧ fw_c (a3 + 3) < ((474 : Nat) : Int)) ∧ ((fw_c (σ 95 (fw_c (a3 + 3)).toNat) ≠ fw_c 60 → (0 ≤ fw_c (a3 + 3) ∧ fw_c (a3 + 3) < ((474 : Nat) : Int)) ∧ ((fw_c (σ 95 (fw_c (a3 + 3)).toNat) ≠ fw_c 61 → (fw_c b0 ≤ fw_c a5 → (0 ≤ fw_c 0 ∧ fw_c 0 ≤ 1) ∧ R (some (0, 0, 0)) σ) ∧ (fw_c a5 < fw_c b0 → (0 ≤ fw_c 1 ∧ fw_c 1 ≤ 1) ∧ R (some (0, 0, 1)) σ)) ∧ (fw_c (σ 95 (fw_c (a3 + 3)).toNat) = fw_c 61 → (fw_c b0 ≠ fw_c a5 → (0 ≤ fw_c 0 ∧ fw_c 0 ≤ 1) ∧ R (some (0, 0, 0)) σ) ∧ (fw_c b0 = fw_c a5 → (0 ≤ fw_c 1 ∧ fw_c 1 ≤ 1) ∧ R (some (0, 0, 1)) σ)))) ∧ (fw_c (σ 95 (fw_c (a3 + 3)).toNat) = fw_c 60 → (fw_c a5 ≤ fw_c b0 → (0 ≤ fw_c 0 ∧ fw_c 0 ≤ 1) ∧ R (some (0, 0, 0)) σ) ∧ (fw_c b0 < fw_c a5 → (0 ≤ fw_c 1 ∧ fw_c 1 ≤ 1) ∧ R (some (0, 0, 1)) σ)))) : G 221 [some (2, 93, 0), some (0, 0, a1), some (0, 0, a2), some (0, 0, a3), some (0, 0, a4), some (0, 0, a5), none] [(0, 0, b0)] σ := fw_on hG [99, 115, 125, 141, 151, 175, 183, 203, 221] 200 h
theorem fs_m_holds17_203 {G : fw_K} {R : fw_KR} (hG : fw_cls st_m_holds17 R G) {a1 a2 a3 a4 a5 b0 : Int} {σ : ab_SG} (h : (0 ≤ fw_c b0 ∧ fw_c b0 ≤ 1) ∧ R (some (0, 0, b0)) σ) : G 203 [some (2, 93, 0), some (0, 0, a1), some (0, 0, a2), some (0, 0, a3), some (0, 0, a4), some (0, 0, a5), none] [(0, 0, b0)] σ := fw_on hG [99, 115, 125, 141, 151, 175, 183, 203, 221] 200 h
theorem fs_m_holds17_183 {G : fw_K} {R : fw_KR} (hG : fw_cls st_m_holds17 R G) {a1 a2 a3 a4 a5 b0 : Int} {σ : ab_SG} (h : (fw_c b0 ≠ fw_c 9 → (0 ≤ fw_c 0 ∧ fw_c 0 ≤ 1) ∧ R (some (0, 0, 0)) σ) ∧ (fw_c b0 = fw_c 9 → (0 ≤ fw_c 1 ∧ fw_c 1 ≤ 1) ∧ R (some (0, 0, 1)) σ)) : G 183 [some (2, 93, 0), some (0, 0, a1), some (0, 0, a2), some (0, 0, a3), some (0, 0, a4), some (0, 0, a5), none] [(0, 0, b0)] σ := fw_on hG [99, 115, 125, 141, 151, 175, 183, 203, 221] 200 h
theorem fs_m_holds17_175 {G : fw_K} {R : fw_KR} (hG : fw_cls st_m_holds17 R G) {a1 a2 a3 a4 a5 b0 : Int} {σ : ab_SG} (h : (0 ≤ fw_c b0 ∧ fw_c b0 ≤ 1) ∧ R (some (0, 0, b0)) σ) : G 175 [some (2, 93, 0), some (0, 0, a1), some (0, 0, a2), some (0, 0, a3), some (0, 0, a4), some (0, 0, a5), none] [(0, 0, b0)] σ := fw_on hG [99, 115, 125, 141, 151, 175, 183, 203, 221] 200 h
theorem fs_m_holds17_141 {G : fw_K} {R : fw_KR} (hG : fw_cls st_m_holds17 R G) {a1 a2 a3 a4 a5 b0 : Int} {σ : ab_SG} (h : (fw_c b0 ≠ 0 → (0 ≤ fw_c 1 ∧ fw_c 1 ≤ 1) ∧ R (some (0, 0, 1)) σ) ∧ (fw_c b0 = 0 → sp_m_holds 16 [(2, 93, 0), (0, 0, a5), (0, 0, a2)] σ (fun rv σ2 => G 151 [some (2, 93, 0), some (0, 0, a1), some (0, 0, a2), some (0, 0, a3), some (0, 0, a4), some (0, 0, a5), none] (rv.toList ++ []) σ2))) : G 141 [some (2, 93, 0), some (0, 0, a1), some (0, 0, a2), some (0, 0, a3), some (0, 0, a4), some (0, 0, a5), none] [(0, 0, b0)] σ := fw_on hG [99, 115, 125, 141, 151, 175, 183, 203, 221] 200 h
theorem fs_m_holds17_115 {G : fw_K} {R : fw_KR} (hG : fw_cls st_m_holds17 R G) {a1 a2 a3 a4 a5 b0 : Int} {σ : ab_SG} (h : (fw_c b0 = 0 → (0 ≤ fw_c 0 ∧ fw_c 0 ≤ 1) ∧ R (some (0, 0, 0)) σ) ∧ (fw_c b0 ≠ 0 → sp_m_holds 16 [(2, 93, 0), (0, 0, a5), (0, 0, a2)] σ (fun rv σ2 => G 125 [some (2, 93, 0), some (0, 0, a1), some (0, 0, a2), some (0, 0, a3), some (0, 0, a4), some (0, 0, a5), none] (rv.toList ++ []) σ2))) : G 115 [some (2, 93, 0), some (0, 0, a1), some (0, 0, a2), some (0, 0, a3), some (0, 0, a4), some (0, 0, a5), none] [(0, 0, b0)] σ := fw_on hG [99, 115, 125, 141, 151, 175, 183, 203, 221] 200 h
theorem fs_m_holds17_99 {G : fw_K} {R : fw_KR} (hG : fw_cls st_m_holds17 R G) {a1 a2 a3 a4 a5 b0 : Int} {σ : ab_SG} (h : (fw_c b0 ≠ 0 → (0 ≤ fw_c 0 ∧ fw_c 0 ≤ 1) ∧ R (some (0, 0, 0)) σ) ∧ (fw_c b0 = 0 → (0 ≤ fw_c 1 ∧ fw_c 1 ≤ 1) ∧ R (some (0, 0, 1)) σ)) : G 99 [some (2, 93, 0), some (0, 0, a1), some (0, 0, a2), some (0, 0, a3), some (0, 0, a4), some (0, 0, a5), none] [(0, 0, b0)] σ := fw_on hG [99, 115, 125, 141, 151, 175, 183, 203, 221] 200 h
theorem fs_m_holds17_151 {G : fw_K} {R : fw_KR} (hG : fw_cls st_m_holds17 R G) {a1 a2 a3 a4 a5 b0 : Int} {σ : ab_SG} (h : (fw_c b0 = 0 → (0 ≤ fw_c 0 ∧ fw_c 0 ≤ 1) ∧ R (some (0, 0, 0)) σ) ∧ (fw_c b0 ≠ 0 → (0 ≤ fw_c 1 ∧ fw_c 1 ≤ 1) ∧ R (some (0, 0, 1)) σ)) : G 151 [some (2, 93, 0), some (0, 0, a1), some (0, 0, a2), some (0, 0, a3), some (0, 0, a4), some (0, 0, a5), none] [(0, 0, b0)] σ := fw_on hG [99, 115, 125, 141, 151, 175, 183, 203, 221] 200 h
theorem fs_m_holds17_125 {G : fw_K} {R : fw_KR} (hG : fw_cls st_m_holds17 R G) {a1 a2 a3 a4 a5 b0 : Int} {σ : ab_SG} (h : (fw_c b0 = 0 → (0 ≤ fw_c 0 ∧ fw_c 0 ≤ 1) ∧ R (some (0, 0, 0)) σ) ∧ (fw_c b0 ≠ 0 → (0 ≤ fw_c 1 ∧ fw_c 1 ≤ 1) ∧ R (some (0, 0, 1)) σ)) : G 125 [some (2, 93, 0), some (0, 0, a1), some (0, 0, a2), some (0, 0, a3), some (0, 0, a4), some (0, 0, a5), none] [(0, 0, b0)] σ := fw_on hG [99, 115, 125, 141, 151, 175, 183, 203, 221] 200 h
section
variable {l : Launch} {cy : Nat → ClassId} {ad wr cr : Nat → Nat} {D : va_G}
theorem fm_m_holds17 (hinj : nn_inj ad) : fw_H l cy ad wr cr D 351 22 (sp_m_holds 17) := fw_mk hinj (⟨"NameNotesModel", "holds", "(II)Z"⟩, prog_14_method_148_code, 7, (Option.some Jvm.ClassFile.FieldType.boolean), 2, true, 1) rfl rfl nn_KI20_ok nn_KJ20_ok nn_PF20_ok nn_PS20_ok (by decide +kernel) rfl rfl (List.forall_mem_cons.mpr ⟨fw_row nn_PM20_ok (x := 216) (k := 0) (mn := 230) (np := 2) (ob := false) (ci := 0) (⟨"NameNotesModel", "has", "(II)Z"⟩, prog_14_method_9_code, 2, (Option.some Jvm.ClassFile.FieldType.boolean), 2, false, 1) rfl (by decide +kernel) rfl rfl (by decide) (fun q => by cases q) (fm_m_has hinj), (List.forall_mem_cons.mpr ⟨fw_row nn_PM20_ok (x := 277) (k := 0) (mn := 244) (np := 2) (ob := true) (ci := 11) (⟨"NameNotesModel", "tell", "(II)I"⟩, prog_14_method_50_code, 6, (Option.some Jvm.ClassFile.FieldType.int), 2, true, 0) rfl (by decide +kernel) rfl rfl (by decide) (fun _ => ⟨_, _, rfl⟩) (fm_m_tell hinj), (List.forall_mem_cons.mpr ⟨fw_row nn_PM20_ok (x := 284) (k := 0) (mn := 250) (np := 2) (ob := true) (ci := 11) (⟨"NameNotesModel", "known", "(II)I"⟩, prog_14_method_54_code, 3, (Option.some Jvm.ClassFile.FieldType.int), 2, true, 0) rfl (by decide +kernel) rfl rfl (by decide) (fun _ => ⟨_, _, rfl⟩) (fm_m_known hinj), (List.forall_mem_cons.mpr ⟨fw_row nn_PM20_ok (x := 294) (k := 0) (mn := 257) (np := 4) (ob := true) (ci := 11) (⟨"NameNotesModel", "areLike", "(IIII)Z"⟩, prog_14_method_59_code, 5, (Option.some Jvm.ClassFile.FieldType.boolean), 4, true, 1) rfl (by decide +kernel) rfl rfl (by decide) (fun _ => ⟨_, _, rfl⟩) (fm_m_areLike hinj), (List.forall_mem_cons.mpr ⟨fw_row nn_PM20_ok (x := 525) (k := 0) (mn := 351) (np := 2) (ob := true) (ci := 11) (⟨"NameNotesModel", "holds", "(II)Z"⟩, prog_14_method_148_code, 7, (Option.some Jvm.ClassFile.FieldType.boolean), 2, true, 1) rfl (by decide +kernel) rfl rfl (by decide) (fun _ => ⟨_, _, rfl⟩) (fm_m_holds16 hinj), (fun _ h => absurd h List.not_mem_nil)⟩)⟩)⟩)⟩)⟩) (fun as σ K h => by
  obtain ⟨A, x, t, L, rfl, hN, hx, H, hv, h⟩ := h
  exact ⟨rfl, fun G hG => mh_core hN hx H hv h (fs_m_holds17_0 hG) (fs_m_holds17_221 hG) (fs_m_holds17_203 hG) (fs_m_holds17_183 hG) (fs_m_holds17_175 hG) (fs_m_holds17_141 hG) (fs_m_holds17_115 hG) (fs_m_holds17_99 hG) (fs_m_holds17_151 hG) (fs_m_holds17_125 hG)⟩)
end
abbrev fk_m_holds18 : List fw_CR := [(216, 2, false, 0, 0, sp_m_has), (277, 2, true, 11, 2, sp_m_tell), (284, 2, true, 11, 0, sp_m_known), (294, 4, true, 11, 4, sp_m_areLike), (525, 2, true, 11, 22, sp_m_holds 17)]
abbrev st_m_holds18 : fw_K → fw_KR → fw_K := fw_st vwCl nn_sh nn_kd fw_kv fw_wc (nn_KI20.map (fun x => x.1)) (nn_KJ20.map (fun x => x.1)) (nn_PF20.map (fun x => x.1)) (nn_PS20.map (fun x => x.1)) fk_m_holds18 23 nn_dt351 7 1
theorem fs_m_holds18_0 {G : fw_K} {R : fw_KR} (hG : fw_cls st_m_holds18 R G) {t x : Int} {σ : ab_SG} (h : (0 ≤ fw_c ((234 + (4 * t)) + 1) ∧ fw_c ((234 + (4 * t)) + 1) < ((474 : Nat) : Int)) ∧ ((0 ≤ fw_c ((234 + (4 * t)) + 2) ∧ fw_c ((234 + (4 * t)) + 2) < ((474 : Nat) : Int)) ∧ ((0 ≤ fw_c (234 + (4 * t)) ∧ fw_c (234 + (4 * t)) < ((474 : Nat) : Int)) ∧ ((1 = fw_c (σ 95 (fw_c (234 + (4 * t))).toNat) → (sp_m_holds 17 [(2, 93, 0), (0, 0, σ 95 (fw_c ((234 + (4 * t)) + 1)).toNat), (0, 0, x)] σ (fun rv σ2 => G 99 [some (2, 93, 0), some (0, 0, t), some (0, 0, x), some (0, 0, 234 + (4 * t)), some (0, 0, σ 95 (fw_c ((234 + (4 * t)) + 1)).toNat), some (0, 0, σ 95 (fw_c ((234 + (4 * t)) + 2)).toNat), none] (rv.toList ++ []) σ2))) ∧ (1 ≠ fw_c (σ 95 (fw_c (234 + (4 * t))).toNat) → ((2 = fw_c (σ 95 (fw_c (234 + (4 * t))).toNat) → (sp_m_holds 17 [(2, 93, 0), (0, 0, σ 95 (fw_c ((234 + (4 * t)) + 1)).toNat), (0, 0, x)] σ (fun rv σ2 => G 115 [some (2, 93, 0), some (0, 0, t), some (0, 0, x), some (0, 0, 234 + (4 * t)), some (0, 0, σ 95 (fw_c ((234 + (4 * t)) + 1)).toNat), some (0, 0, σ 95 (fw_c ((234 + (4 * t)) + 2)).toNat), none] (rv.toList ++ []) σ2))) ∧ (2 ≠ fw_c (σ 95 (fw_c (234 + (4 * t))).toNat) → ((3 = fw_c (σ 95 (fw_c (234 + (4 * t))).toNat) → (sp_m_holds 17 [(2, 93, 0), (0, 0, σ 95 (fw_c ((234 + (4 * t)) + 1)).toNat), (0, 0, x)] σ (fun rv σ2 => G 141 [some (2, 93, 0), some (0, 0, t), some (0, 0, x), some (0, 0, 234 + (4 * t)), some (0, 0, σ 95 (fw_c ((234 + (4 * t)) + 1)).toNat), some (0, 0, σ 95 (fw_c ((234 + (4 * t)) + 2)).toNat), none] (rv.toList ++ []) σ2))) ∧ (3 ≠ fw_c (σ 95 (fw_c (234 + (4 * t))).toNat) → ((60 = fw_c (σ 95 (fw_c (234 + (4 * t))).toNat) → ((0 ≤ fw_c (176 + (σ 95 (fw_c ((234 + (4 * t)) + 1)).toNat)) ∧ fw_c (176 + (σ 95 (fw_c ((234 + (4 * t)) + 1)).toNat)) < ((474 : Nat) : Int)) ∧ (sp_m_has [(0, 0, σ 95 (fw_c (176 + (σ 95 (fw_c ((234 + (4 * t)) + 1)).toNat))).toNat), (0, 0, x)] σ (fun rv σ2 => G 175 [some (2, 93, 0), some (0, 0, t), some (0, 0, x), some (0, 0, 234 + (4 * t)), some (0, 0, σ 95 (fw_c ((234 + (4 * t)) + 1)).toNat), some (0, 0, σ 95 (fw_c ((234 + (4 * t)) + 2)).toNat), none] (rv.toList ++ []) σ2)))) ∧ (60 ≠ fw_c (σ 95 (fw_c (234 + (4 * t))).toNat) → ((61 = fw_c (σ 95 (fw_c (234 + (4 * t))).toNat) → (sp_m_known [(2, 93, 0), (0, 0, σ 95 (fw_c ((234 + (4 * t)) + 1)).toNat), (0, 0, x)] σ (fun rv σ2 => G 183 [some (2, 93, 0), some (0, 0, t), some (0, 0, x), some (0, 0, 234 + (4 * t)), some (0, 0, σ 95 (fw_c ((234 + (4 * t)) + 1)).toNat), some (0, 0, σ 95 (fw_c ((234 + (4 * t)) + 2)).toNat), none] (rv.toList ++ []) σ2))) ∧ (61 ≠ fw_c (σ 95 (fw_c (234 + (4 * t))).toNat) → ((62 = fw_c (σ 95 (fw_c (234 + (4 * t))).toNat) → (sp_m_areLike [(2, 93, 0), (0, 0, σ 95 (fw_c ((234 + (4 * t)) + 1)).toNat), (0, 0, x), (0, 0, 3), (0, 0, 0)] σ (fun rv σ2 => G 203 [some (2, 93, 0), some (0, 0, t), some (0, 0, x), some (0, 0, 234 + (4 * t)), some (0, 0, σ 95 (fw_c ((234 + (4 * t)) + 1)).toNat), some (0, 0, σ 95 (fw_c ((234 + (4 * t)) + 2)).toNat), none] (rv.toList ++ []) σ2))) ∧ (62 ≠ fw_c (σ 95 (fw_c (234 + (4 * t))).toNat) → ((0 ≤ fw_c (234 + (4 * t)) ∧ fw_c (234 + (4 * t)) < ((474 : Nat) : Int)) ∧ (sp_m_tell [(2, 93, 0), (0, 0, x), (0, 0, ((σ 95 (fw_c (234 + (4 * t))).toNat) - 50) - 13)] σ (fun rv σ2 => G 221 [some (2, 93, 0), some (0, 0, t), some (0, 0, x), some (0, 0, 234 + (4 * t)), some (0, 0, σ 95 (fw_c ((234 + (4 * t)) + 1)).toNat), some (0, 0, σ 95 (fw_c ((234 + (4 * t)) + 2)).toNat), none] (rv.toList ++ []) σ2)))))))))))))))))) : G 0 [some (2, 93, 0), some (0, 0, t), some (0, 0, x), none, none, none, none] [] σ := fw_on hG [99, 115, 125, 141, 151, 175, 183, 203, 221] 200 h
theorem fs_m_holds18_221 {G : fw_K} {R : fw_KR} (hG : fw_cls st_m_holds18 R G) {a1 a2 a3 a4 a5 b0 : Int} {σ : ab_SG} (h : (0 ≤ fw_c (a3 + 3) ∧ fw_c (a3 + 3) < ((474 : Nat) : Int)) ∧ ((fw_c (σ 95 (fw_c (a3 + 3)).toNat) ≠ fw_c 60 → (0 ≤ fw_c (a3 + 3) ∧ fw_c (a3 + 3) < ((474 : Nat) : Int)) ∧ ((fw_c (σ 95 (fw_c (a3 + 3)).toNat) ≠ fw_c 61 → (fw_c b0 ≤ fw_c a5 → (0 ≤ fw_c 0 ∧ fw_c 0 ≤ 1) ∧ R (some (0, 0, 0)) σ) ∧ (fw_c a5 < fw_c b0 → (0 ≤ fw_c 1 ∧ fw_c 1 ≤ 1) ∧ R (some (0, 0, 1)) σ)) ∧ (fw_c (σ 95 (fw_c (a3 + 3)).toNat) = fw_c 61 → (fw_c b0 ≠ fw_c a5 → (0 ≤ fw_c 0 ∧ fw_c 0 ≤ 1) ∧ R (some (0, 0, 0)) σ) ∧ (fw_c b0 = fw_c a5 → (0 ≤ fw_c 1 ∧ fw_c 1 ≤ 1) ∧ R (some (0, 0, 1)) σ)))) ∧ (fw_c (σ 95 (fw_c (a3 + 3)).toNat) = fw_c 60 → (fw_c a5 ≤ fw_c b0 → (0 ≤ fw_c 0 ∧ fw_c 0 ≤ 1) ∧ R (some (0, 0, 0)) σ) ∧ (fw_c b0 < fw_c a5 → (0 ≤ fw_c 1 ∧ fw_c 1 ≤ 1) ∧ R (some (0, 0, 1)) σ)))) : G 221 [some (2, 93, 0), some (0, 0, a1), some (0, 0, a2), some (0, 0, a3), some (0, 0, a4), some (0, 0, a5), none] [(0, 0, b0)] σ := fw_on hG [99, 115, 125, 141, 151, 175, 183, 203, 221] 200 h
theorem fs_m_holds18_203 {G : fw_K} {R : fw_KR} (hG : fw_cls st_m_holds18 R G) {a1 a2 a3 a4 a5 b0 : Int} {σ : ab_SG} (h : (0 ≤ fw_c b0 ∧ fw_c b0 ≤ 1) ∧ R (some (0, 0, b0)) σ) : G 203 [some (2, 93, 0), some (0, 0, a1), some (0, 0, a2), some (0, 0, a3), some (0, 0, a4), some (0, 0, a5), none] [(0, 0, b0)] σ := fw_on hG [99, 115, 125, 141, 151, 175, 183, 203, 221] 200 h
theorem fs_m_holds18_183 {G : fw_K} {R : fw_KR} (hG : fw_cls st_m_holds18 R G) {a1 a2 a3 a4 a5 b0 : Int} {σ : ab_SG} (h : (fw_c b0 ≠ fw_c 9 → (0 ≤ fw_c 0 ∧ fw_c 0 ≤ 1) ∧ R (some (0, 0, 0)) σ) ∧ (fw_c b0 = fw_c 9 → (0 ≤ fw_c 1 ∧ fw_c 1 ≤ 1) ∧ R (some (0, 0, 1)) σ)) : G 183 [some (2, 93, 0), some (0, 0, a1), some (0, 0, a2), some (0, 0, a3), some (0, 0, a4), some (0, 0, a5), none] [(0, 0, b0)] σ := fw_on hG [99, 115, 125, 141, 151, 175, 183, 203, 221] 200 h
theorem fs_m_holds18_175 {G : fw_K} {R : fw_KR} (hG : fw_cls st_m_holds18 R G) {a1 a2 a3 a4 a5 b0 : Int} {σ : ab_SG} (h : (0 ≤ fw_c b0 ∧ fw_c b0 ≤ 1) ∧ R (some (0, 0, b0)) σ) : G 175 [some (2, 93, 0), some (0, 0, a1), some (0, 0, a2), some (0, 0, a3), some (0, 0, a4), some (0, 0, a5), none] [(0, 0, b0)] σ := fw_on hG [99, 115, 125, 141, 151, 175, 183, 203, 221] 200 h
theorem fs_m_holds18_141 {G : fw_K} {R : fw_KR} (hG : fw_cls st_m_holds18 R G) {a1 a2 a3 a4 a5 b0 : Int} {σ : ab_SG} (h : (fw_c b0 ≠ 0 → (0 ≤ fw_c 1 ∧ fw_c 1 ≤ 1) ∧ R (some (0, 0, 1)) σ) ∧ (fw_c b0 = 0 → sp_m_holds 17 [(2, 93, 0), (0, 0, a5), (0, 0, a2)] σ (fun rv σ2 => G 151 [some (2, 93, 0), some (0, 0, a1), some (0, 0, a2), some (0, 0, a3), some (0, 0, a4), some (0, 0, a5), none] (rv.toList ++ []) σ2))) : G 141 [some (2, 93, 0), some (0, 0, a1), some (0, 0, a2), some (0, 0, a3), some (0, 0, a4), some (0, 0, a5), none] [(0, 0, b0)] σ := fw_on hG [99, 115, 125, 141, 151, 175, 183, 203, 221] 200 h
theorem fs_m_holds18_115 {G : fw_K} {R : fw_KR} (hG : fw_cls st_m_holds18 R G) {a1 a2 a3 a4 a5 b0 : Int} {σ : ab_SG} (h : (fw_c b0 = 0 → (0 ≤ fw_c 0 ∧ fw_c 0 ≤ 1) ∧ R (some (0, 0, 0)) σ) ∧ (fw_c b0 ≠ 0 → sp_m_holds 17 [(2, 93, 0), (0, 0, a5), (0, 0, a2)] σ (fun rv σ2 => G 125 [some (2, 93, 0), some (0, 0, a1), some (0, 0, a2), some (0, 0, a3), some (0, 0, a4), some (0, 0, a5), none] (rv.toList ++ []) σ2))) : G 115 [some (2, 93, 0), some (0, 0, a1), some (0, 0, a2), some (0, 0, a3), some (0, 0, a4), some (0, 0, a5), none] [(0, 0, b0)] σ := fw_on hG [99, 115, 125, 141, 151, 175, 183, 203, 221] 200 h
theorem fs_m_holds18_99 {G : fw_K} {R : fw_KR} (hG : fw_cls st_m_holds18 R G) {a1 a2 a3 a4 a5 b0 : Int} {σ : ab_SG} (h : (fw_c b0 ≠ 0 → (0 ≤ fw_c 0 ∧ fw_c 0 ≤ 1) ∧ R (some (0, 0, 0)) σ) ∧ (fw_c b0 = 0 → (0 ≤ fw_c 1 ∧ fw_c 1 ≤ 1) ∧ R (some (0, 0, 1)) σ)) : G 99 [some (2, 93, 0), some (0, 0, a1), some (0, 0, a2), some (0, 0, a3), some (0, 0, a4), some (0, 0, a5), none] [(0, 0, b0)] σ := fw_on hG [99, 115, 125, 141, 151, 175, 183, 203, 221] 200 h
theorem fs_m_holds18_151 {G : fw_K} {R : fw_KR} (hG : fw_cls st_m_holds18 R G) {a1 a2 a3 a4 a5 b0 : Int} {σ : ab_SG} (h : (fw_c b0 = 0 → (0 ≤ fw_c 0 ∧ fw_c 0 ≤ 1) ∧ R (some (0, 0, 0)) σ) ∧ (fw_c b0 ≠ 0 → (0 ≤ fw_c 1 ∧ fw_c 1 ≤ 1) ∧ R (some (0, 0, 1)) σ)) : G 151 [some (2, 93, 0), some (0, 0, a1), some (0, 0, a2), some (0, 0, a3), some (0, 0, a4), some (0, 0, a5), none] [(0, 0, b0)] σ := fw_on hG [99, 115, 125, 141, 151, 175, 183, 203, 221] 200 h
theorem fs_m_holds18_125 {G : fw_K} {R : fw_KR} (hG : fw_cls st_m_holds18 R G) {a1 a2 a3 a4 a5 b0 : Int} {σ : ab_SG} (h : (fw_c b0 = 0 → (0 ≤ fw_c 0 ∧ fw_c 0 ≤ 1) ∧ R (some (0, 0, 0)) σ) ∧ (fw_c b0 ≠ 0 → (0 ≤ fw_c 1 ∧ fw_c 1 ≤ 1) ∧ R (some (0, 0, 1)) σ)) : G 125 [some (2, 93, 0), some (0, 0, a1), some (0, 0, a2), some (0, 0, a3), some (0, 0, a4), some (0, 0, a5), none] [(0, 0, b0)] σ := fw_on hG [99, 115, 125, 141, 151, 175, 183, 203, 221] 200 h
section
variable {l : Launch} {cy : Nat → ClassId} {ad wr cr : Nat → Nat} {D : va_G}
theorem fm_m_holds18 (hinj : nn_inj ad) : fw_H l cy ad wr cr D 351 23 (sp_m_holds 18) := fw_mk hinj (⟨"NameNotesModel", "holds", "(II)Z"⟩, prog_14_method_148_code, 7, (Option.some Jvm.ClassFile.FieldType.boolean), 2, true, 1) rfl rfl nn_KI20_ok nn_KJ20_ok nn_PF20_ok nn_PS20_ok (by decide +kernel) rfl rfl (List.forall_mem_cons.mpr ⟨fw_row nn_PM20_ok (x := 216) (k := 0) (mn := 230) (np := 2) (ob := false) (ci := 0) (⟨"NameNotesModel", "has", "(II)Z"⟩, prog_14_method_9_code, 2, (Option.some Jvm.ClassFile.FieldType.boolean), 2, false, 1) rfl (by decide +kernel) rfl rfl (by decide) (fun q => by cases q) (fm_m_has hinj), (List.forall_mem_cons.mpr ⟨fw_row nn_PM20_ok (x := 277) (k := 0) (mn := 244) (np := 2) (ob := true) (ci := 11) (⟨"NameNotesModel", "tell", "(II)I"⟩, prog_14_method_50_code, 6, (Option.some Jvm.ClassFile.FieldType.int), 2, true, 0) rfl (by decide +kernel) rfl rfl (by decide) (fun _ => ⟨_, _, rfl⟩) (fm_m_tell hinj), (List.forall_mem_cons.mpr ⟨fw_row nn_PM20_ok (x := 284) (k := 0) (mn := 250) (np := 2) (ob := true) (ci := 11) (⟨"NameNotesModel", "known", "(II)I"⟩, prog_14_method_54_code, 3, (Option.some Jvm.ClassFile.FieldType.int), 2, true, 0) rfl (by decide +kernel) rfl rfl (by decide) (fun _ => ⟨_, _, rfl⟩) (fm_m_known hinj), (List.forall_mem_cons.mpr ⟨fw_row nn_PM20_ok (x := 294) (k := 0) (mn := 257) (np := 4) (ob := true) (ci := 11) (⟨"NameNotesModel", "areLike", "(IIII)Z"⟩, prog_14_method_59_code, 5, (Option.some Jvm.ClassFile.FieldType.boolean), 4, true, 1) rfl (by decide +kernel) rfl rfl (by decide) (fun _ => ⟨_, _, rfl⟩) (fm_m_areLike hinj), (List.forall_mem_cons.mpr ⟨fw_row nn_PM20_ok (x := 525) (k := 0) (mn := 351) (np := 2) (ob := true) (ci := 11) (⟨"NameNotesModel", "holds", "(II)Z"⟩, prog_14_method_148_code, 7, (Option.some Jvm.ClassFile.FieldType.boolean), 2, true, 1) rfl (by decide +kernel) rfl rfl (by decide) (fun _ => ⟨_, _, rfl⟩) (fm_m_holds17 hinj), (fun _ h => absurd h List.not_mem_nil)⟩)⟩)⟩)⟩)⟩) (fun as σ K h => by
  obtain ⟨A, x, t, L, rfl, hN, hx, H, hv, h⟩ := h
  exact ⟨rfl, fun G hG => mh_core hN hx H hv h (fs_m_holds18_0 hG) (fs_m_holds18_221 hG) (fs_m_holds18_203 hG) (fs_m_holds18_183 hG) (fs_m_holds18_175 hG) (fs_m_holds18_141 hG) (fs_m_holds18_115 hG) (fs_m_holds18_99 hG) (fs_m_holds18_151 hG) (fs_m_holds18_125 hG)⟩)
end
abbrev fk_m_holds19 : List fw_CR := [(216, 2, false, 0, 0, sp_m_has), (277, 2, true, 11, 2, sp_m_tell), (284, 2, true, 11, 0, sp_m_known), (294, 4, true, 11, 4, sp_m_areLike), (525, 2, true, 11, 23, sp_m_holds 18)]
abbrev st_m_holds19 : fw_K → fw_KR → fw_K := fw_st vwCl nn_sh nn_kd fw_kv fw_wc (nn_KI20.map (fun x => x.1)) (nn_KJ20.map (fun x => x.1)) (nn_PF20.map (fun x => x.1)) (nn_PS20.map (fun x => x.1)) fk_m_holds19 24 nn_dt351 7 1
theorem fs_m_holds19_0 {G : fw_K} {R : fw_KR} (hG : fw_cls st_m_holds19 R G) {t x : Int} {σ : ab_SG} (h : (0 ≤ fw_c ((234 + (4 * t)) + 1) ∧ fw_c ((234 + (4 * t)) + 1) < ((474 : Nat) : Int)) ∧ ((0 ≤ fw_c ((234 + (4 * t)) + 2) ∧ fw_c ((234 + (4 * t)) + 2) < ((474 : Nat) : Int)) ∧ ((0 ≤ fw_c (234 + (4 * t)) ∧ fw_c (234 + (4 * t)) < ((474 : Nat) : Int)) ∧ ((1 = fw_c (σ 95 (fw_c (234 + (4 * t))).toNat) → (sp_m_holds 18 [(2, 93, 0), (0, 0, σ 95 (fw_c ((234 + (4 * t)) + 1)).toNat), (0, 0, x)] σ (fun rv σ2 => G 99 [some (2, 93, 0), some (0, 0, t), some (0, 0, x), some (0, 0, 234 + (4 * t)), some (0, 0, σ 95 (fw_c ((234 + (4 * t)) + 1)).toNat), some (0, 0, σ 95 (fw_c ((234 + (4 * t)) + 2)).toNat), none] (rv.toList ++ []) σ2))) ∧ (1 ≠ fw_c (σ 95 (fw_c (234 + (4 * t))).toNat) → ((2 = fw_c (σ 95 (fw_c (234 + (4 * t))).toNat) → (sp_m_holds 18 [(2, 93, 0), (0, 0, σ 95 (fw_c ((234 + (4 * t)) + 1)).toNat), (0, 0, x)] σ (fun rv σ2 => G 115 [some (2, 93, 0), some (0, 0, t), some (0, 0, x), some (0, 0, 234 + (4 * t)), some (0, 0, σ 95 (fw_c ((234 + (4 * t)) + 1)).toNat), some (0, 0, σ 95 (fw_c ((234 + (4 * t)) + 2)).toNat), none] (rv.toList ++ []) σ2))) ∧ (2 ≠ fw_c (σ 95 (fw_c (234 + (4 * t))).toNat) → ((3 = fw_c (σ 95 (fw_c (234 + (4 * t))).toNat) → (sp_m_holds 18 [(2, 93, 0), (0, 0, σ 95 (fw_c ((234 + (4 * t)) + 1)).toNat), (0, 0, x)] σ (fun rv σ2 => G 141 [some (2, 93, 0), some (0, 0, t), some (0, 0, x), some (0, 0, 234 + (4 * t)), some (0, 0, σ 95 (fw_c ((234 + (4 * t)) + 1)).toNat), some (0, 0, σ 95 (fw_c ((234 + (4 * t)) + 2)).toNat), none] (rv.toList ++ []) σ2))) ∧ (3 ≠ fw_c (σ 95 (fw_c (234 + (4 * t))).toNat) → ((60 = fw_c (σ 95 (fw_c (234 + (4 * t))).toNat) → ((0 ≤ fw_c (176 + (σ 95 (fw_c ((234 + (4 * t)) + 1)).toNat)) ∧ fw_c (176 + (σ 95 (fw_c ((234 + (4 * t)) + 1)).toNat)) < ((474 : Nat) : Int)) ∧ (sp_m_has [(0, 0, σ 95 (fw_c (176 + (σ 95 (fw_c ((234 + (4 * t)) + 1)).toNat))).toNat), (0, 0, x)] σ (fun rv σ2 => G 175 [some (2, 93, 0), some (0, 0, t), some (0, 0, x), some (0, 0, 234 + (4 * t)), some (0, 0, σ 95 (fw_c ((234 + (4 * t)) + 1)).toNat), some (0, 0, σ 95 (fw_c ((234 + (4 * t)) + 2)).toNat), none] (rv.toList ++ []) σ2)))) ∧ (60 ≠ fw_c (σ 95 (fw_c (234 + (4 * t))).toNat) → ((61 = fw_c (σ 95 (fw_c (234 + (4 * t))).toNat) → (sp_m_known [(2, 93, 0), (0, 0, σ 95 (fw_c ((234 + (4 * t)) + 1)).toNat), (0, 0, x)] σ (fun rv σ2 => G 183 [some (2, 93, 0), some (0, 0, t), some (0, 0, x), some (0, 0, 234 + (4 * t)), some (0, 0, σ 95 (fw_c ((234 + (4 * t)) + 1)).toNat), some (0, 0, σ 95 (fw_c ((234 + (4 * t)) + 2)).toNat), none] (rv.toList ++ []) σ2))) ∧ (61 ≠ fw_c (σ 95 (fw_c (234 + (4 * t))).toNat) → ((62 = fw_c (σ 95 (fw_c (234 + (4 * t))).toNat) → (sp_m_areLike [(2, 93, 0), (0, 0, σ 95 (fw_c ((234 + (4 * t)) + 1)).toNat), (0, 0, x), (0, 0, 3), (0, 0, 0)] σ (fun rv σ2 => G 203 [some (2, 93, 0), some (0, 0, t), some (0, 0, x), some (0, 0, 234 + (4 * t)), some (0, 0, σ 95 (fw_c ((234 + (4 * t)) + 1)).toNat), some (0, 0, σ 95 (fw_c ((234 + (4 * t)) + 2)).toNat), none] (rv.toList ++ []) σ2))) ∧ (62 ≠ fw_c (σ 95 (fw_c (234 + (4 * t))).toNat) → ((0 ≤ fw_c (234 + (4 * t)) ∧ fw_c (234 + (4 * t)) < ((474 : Nat) : Int)) ∧ (sp_m_tell [(2, 93, 0), (0, 0, x), (0, 0, ((σ 95 (fw_c (234 + (4 * t))).toNat) - 50) - 13)] σ (fun rv σ2 => G 221 [some (2, 93, 0), some (0, 0, t), some (0, 0, x), some (0, 0, 234 + (4 * t)), some (0, 0, σ 95 (fw_c ((234 + (4 * t)) + 1)).toNat), some (0, 0, σ 95 (fw_c ((234 + (4 * t)) + 2)).toNat), none] (rv.toList ++ []) σ2)))))))))))))))))) : G 0 [some (2, 93, 0), some (0, 0, t), some (0, 0, x), none, none, none, none] [] σ := fw_on hG [99, 115, 125, 141, 151, 175, 183, 203, 221] 200 h
theorem fs_m_holds19_221 {G : fw_K} {R : fw_KR} (hG : fw_cls st_m_holds19 R G) {a1 a2 a3 a4 a5 b0 : Int} {σ : ab_SG} (h : (0 ≤ fw_c (a3 + 3) ∧ fw_c (a3 + 3) < ((474 : Nat) : Int)) ∧ ((fw_c (σ 95 (fw_c (a3 + 3)).toNat) ≠ fw_c 60 → (0 ≤ fw_c (a3 + 3) ∧ fw_c (a3 + 3) < ((474 : Nat) : Int)) ∧ ((fw_c (σ 95 (fw_c (a3 + 3)).toNat) ≠ fw_c 61 → (fw_c b0 ≤ fw_c a5 → (0 ≤ fw_c 0 ∧ fw_c 0 ≤ 1) ∧ R (some (0, 0, 0)) σ) ∧ (fw_c a5 < fw_c b0 → (0 ≤ fw_c 1 ∧ fw_c 1 ≤ 1) ∧ R (some (0, 0, 1)) σ)) ∧ (fw_c (σ 95 (fw_c (a3 + 3)).toNat) = fw_c 61 → (fw_c b0 ≠ fw_c a5 → (0 ≤ fw_c 0 ∧ fw_c 0 ≤ 1) ∧ R (some (0, 0, 0)) σ) ∧ (fw_c b0 = fw_c a5 → (0 ≤ fw_c 1 ∧ fw_c 1 ≤ 1) ∧ R (some (0, 0, 1)) σ)))) ∧ (fw_c (σ 95 (fw_c (a3 + 3)).toNat) = fw_c 60 → (fw_c a5 ≤ fw_c b0 → (0 ≤ fw_c 0 ∧ fw_c 0 ≤ 1) ∧ R (some (0, 0, 0)) σ) ∧ (fw_c b0 < fw_c a5 → (0 ≤ fw_c 1 ∧ fw_c 1 ≤ 1) ∧ R (some (0, 0, 1)) σ)))) : G 221 [some (2, 93, 0), some (0, 0, a1), some (0, 0, a2), some (0, 0, a3), some (0, 0, a4), some (0, 0, a5), none] [(0, 0, b0)] σ := fw_on hG [99, 115, 125, 141, 151, 175, 183, 203, 221] 200 h
theorem fs_m_holds19_203 {G : fw_K} {R : fw_KR} (hG : fw_cls st_m_holds19 R G) {a1 a2 a3 a4 a5 b0 : Int} {σ : ab_SG} (h : (0 ≤ fw_c b0 ∧ fw_c b0 ≤ 1) ∧ R (some (0, 0, b0)) σ) : G 203 [some (2, 93, 0), some (0, 0, a1), some (0, 0, a2), some (0, 0, a3), some (0, 0, a4), some (0, 0, a5), none] [(0, 0, b0)] σ := fw_on hG [99, 115, 125, 141, 151, 175, 183, 203, 221] 200 h
theorem fs_m_holds19_183 {G : fw_K} {R : fw_KR} (hG : fw_cls st_m_holds19 R G) {a1 a2 a3 a4 a5 b0 : Int} {σ : ab_SG} (h : (fw_c b0 ≠ fw_c 9 → (0 ≤ fw_c 0 ∧ fw_c 0 ≤ 1) ∧ R (some (0, 0, 0)) σ) ∧ (fw_c b0 = fw_c 9 → (0 ≤ fw_c 1 ∧ fw_c 1 ≤ 1) ∧ R (some (0, 0, 1)) σ)) : G 183 [some (2, 93, 0), some (0, 0, a1), some (0, 0, a2), some (0, 0, a3), some (0, 0, a4), some (0, 0, a5), none] [(0, 0, b0)] σ := fw_on hG [99, 115, 125, 141, 151, 175, 183, 203, 221] 200 h
theorem fs_m_holds19_175 {G : fw_K} {R : fw_KR} (hG : fw_cls st_m_holds19 R G) {a1 a2 a3 a4 a5 b0 : Int} {σ : ab_SG} (h : (0 ≤ fw_c b0 ∧ fw_c b0 ≤ 1) ∧ R (some (0, 0, b0)) σ) : G 175 [some (2, 93, 0), some (0, 0, a1), some (0, 0, a2), some (0, 0, a3), some (0, 0, a4), some (0, 0, a5), none] [(0, 0, b0)] σ := fw_on hG [99, 115, 125, 141, 151, 175, 183, 203, 221] 200 h
theorem fs_m_holds19_141 {G : fw_K} {R : fw_KR} (hG : fw_cls st_m_holds19 R G) {a1 a2 a3 a4 a5 b0 : Int} {σ : ab_SG} (h : (fw_c b0 ≠ 0 → (0 ≤ fw_c 1 ∧ fw_c 1 ≤ 1) ∧ R (some (0, 0, 1)) σ) ∧ (fw_c b0 = 0 → sp_m_holds 18 [(2, 93, 0), (0, 0, a5), (0, 0, a2)] σ (fun rv σ2 => G 151 [some (2, 93, 0), some (0, 0, a1), some (0, 0, a2), some (0, 0, a3), some (0, 0, a4), some (0, 0, a5), none] (rv.toList ++ []) σ2))) : G 141 [some (2, 93, 0), some (0, 0, a1), some (0, 0, a2), some (0, 0, a3), some (0, 0, a4), some (0, 0, a5), none] [(0, 0, b0)] σ := fw_on hG [99, 115, 125, 141, 151, 175, 183, 203, 221] 200 h
theorem fs_m_holds19_115 {G : fw_K} {R : fw_KR} (hG : fw_cls st_m_holds19 R G) {a1 a2 a3 a4 a5 b0 : Int} {σ : ab_SG} (h : (fw_c b0 = 0 → (0 ≤ fw_c 0 ∧ fw_c 0 ≤ 1) ∧ R (some (0, 0, 0)) σ) ∧ (fw_c b0 ≠ 0 → sp_m_holds 18 [(2, 93, 0), (0, 0, a5), (0, 0, a2)] σ (fun rv σ2 => G 125 [some (2, 93, 0), some (0, 0, a1), some (0, 0, a2), some (0, 0, a3), some (0, 0, a4), some (0, 0, a5), none] (rv.toList ++ []) σ2))) : G 115 [some (2, 93, 0), some (0, 0, a1), some (0, 0, a2), some (0, 0, a3), some (0, 0, a4), some (0, 0, a5), none] [(0, 0, b0)] σ := fw_on hG [99, 115, 125, 141, 151, 175, 183, 203, 221] 200 h
theorem fs_m_holds19_99 {G : fw_K} {R : fw_KR} (hG : fw_cls st_m_holds19 R G) {a1 a2 a3 a4 a5 b0 : Int} {σ : ab_SG} (h : (fw_c b0 ≠ 0 → (0 ≤ fw_c 0 ∧ fw_c 0 ≤ 1) ∧ R (some (0, 0, 0)) σ) ∧ (fw_c b0 = 0 → (0 ≤ fw_c 1 ∧ fw_c 1 ≤ 1) ∧ R (some (0, 0, 1)) σ)) : G 99 [some (2, 93, 0), some (0, 0, a1), some (0, 0, a2), some (0, 0, a3), some (0, 0, a4), some (0, 0, a5), none] [(0, 0, b0)] σ := fw_on hG [99, 115, 125, 141, 151, 175, 183, 203, 221] 200 h
theorem fs_m_holds19_151 {G : fw_K} {R : fw_KR} (hG : fw_cls st_m_holds19 R G) {a1 a2 a3 a4 a5 b0 : Int} {σ : ab_SG} (h : (fw_c b0 = 0 → (0 ≤ fw_c 0 ∧ fw_c 0 ≤ 1) ∧ R (some (0, 0, 0)) σ) ∧ (fw_c b0 ≠ 0 → (0 ≤ fw_c 1 ∧ fw_c 1 ≤ 1) ∧ R (some (0, 0, 1)) σ)) : G 151 [some (2, 93, 0), some (0, 0, a1), some (0, 0, a2), some (0, 0, a3), some (0, 0, a4), some (0, 0, a5), none] [(0, 0, b0)] σ := fw_on hG [99, 115, 125, 141, 151, 175, 183, 203, 221] 200 h
theorem fs_m_holds19_125 {G : fw_K} {R : fw_KR} (hG : fw_cls st_m_holds19 R G) {a1 a2 a3 a4 a5 b0 : Int} {σ : ab_SG} (h : (fw_c b0 = 0 → (0 ≤ fw_c 0 ∧ fw_c 0 ≤ 1) ∧ R (some (0, 0, 0)) σ) ∧ (fw_c b0 ≠ 0 → (0 ≤ fw_c 1 ∧ fw_c 1 ≤ 1) ∧ R (some (0, 0, 1)) σ)) : G 125 [some (2, 93, 0), some (0, 0, a1), some (0, 0, a2), some (0, 0, a3), some (0, 0, a4), some (0, 0, a5), none] [(0, 0, b0)] σ := fw_on hG [99, 115, 125, 141, 151, 175, 183, 203, 221] 200 h
section
variable {l : Launch} {cy : Nat → ClassId} {ad wr cr : Nat → Nat} {D : va_G}
theorem fm_m_holds19 (hinj : nn_inj ad) : fw_H l cy ad wr cr D 351 24 (sp_m_holds 19) := fw_mk hinj (⟨"NameNotesModel", "holds", "(II)Z"⟩, prog_14_method_148_code, 7, (Option.some Jvm.ClassFile.FieldType.boolean), 2, true, 1) rfl rfl nn_KI20_ok nn_KJ20_ok nn_PF20_ok nn_PS20_ok (by decide +kernel) rfl rfl (List.forall_mem_cons.mpr ⟨fw_row nn_PM20_ok (x := 216) (k := 0) (mn := 230) (np := 2) (ob := false) (ci := 0) (⟨"NameNotesModel", "has", "(II)Z"⟩, prog_14_method_9_code, 2, (Option.some Jvm.ClassFile.FieldType.boolean), 2, false, 1) rfl (by decide +kernel) rfl rfl (by decide) (fun q => by cases q) (fm_m_has hinj), (List.forall_mem_cons.mpr ⟨fw_row nn_PM20_ok (x := 277) (k := 0) (mn := 244) (np := 2) (ob := true) (ci := 11) (⟨"NameNotesModel", "tell", "(II)I"⟩, prog_14_method_50_code, 6, (Option.some Jvm.ClassFile.FieldType.int), 2, true, 0) rfl (by decide +kernel) rfl rfl (by decide) (fun _ => ⟨_, _, rfl⟩) (fm_m_tell hinj), (List.forall_mem_cons.mpr ⟨fw_row nn_PM20_ok (x := 284) (k := 0) (mn := 250) (np := 2) (ob := true) (ci := 11) (⟨"NameNotesModel", "known", "(II)I"⟩, prog_14_method_54_code, 3, (Option.some Jvm.ClassFile.FieldType.int), 2, true, 0) rfl (by decide +kernel) rfl rfl (by decide) (fun _ => ⟨_, _, rfl⟩) (fm_m_known hinj), (List.forall_mem_cons.mpr ⟨fw_row nn_PM20_ok (x := 294) (k := 0) (mn := 257) (np := 4) (ob := true) (ci := 11) (⟨"NameNotesModel", "areLike", "(IIII)Z"⟩, prog_14_method_59_code, 5, (Option.some Jvm.ClassFile.FieldType.boolean), 4, true, 1) rfl (by decide +kernel) rfl rfl (by decide) (fun _ => ⟨_, _, rfl⟩) (fm_m_areLike hinj), (List.forall_mem_cons.mpr ⟨fw_row nn_PM20_ok (x := 525) (k := 0) (mn := 351) (np := 2) (ob := true) (ci := 11) (⟨"NameNotesModel", "holds", "(II)Z"⟩, prog_14_method_148_code, 7, (Option.some Jvm.ClassFile.FieldType.boolean), 2, true, 1) rfl (by decide +kernel) rfl rfl (by decide) (fun _ => ⟨_, _, rfl⟩) (fm_m_holds18 hinj), (fun _ h => absurd h List.not_mem_nil)⟩)⟩)⟩)⟩)⟩) (fun as σ K h => by
  obtain ⟨A, x, t, L, rfl, hN, hx, H, hv, h⟩ := h
  exact ⟨rfl, fun G hG => mh_core hN hx H hv h (fs_m_holds19_0 hG) (fs_m_holds19_221 hG) (fs_m_holds19_203 hG) (fs_m_holds19_183 hG) (fs_m_holds19_175 hG) (fs_m_holds19_141 hG) (fs_m_holds19_115 hG) (fs_m_holds19_99 hG) (fs_m_holds19_151 hG) (fs_m_holds19_125 hG)⟩)
end
abbrev fk_m_holds20 : List fw_CR := [(216, 2, false, 0, 0, sp_m_has), (277, 2, true, 11, 2, sp_m_tell), (284, 2, true, 11, 0, sp_m_known), (294, 4, true, 11, 4, sp_m_areLike), (525, 2, true, 11, 24, sp_m_holds 19)]
abbrev st_m_holds20 : fw_K → fw_KR → fw_K := fw_st vwCl nn_sh nn_kd fw_kv fw_wc (nn_KI20.map (fun x => x.1)) (nn_KJ20.map (fun x => x.1)) (nn_PF20.map (fun x => x.1)) (nn_PS20.map (fun x => x.1)) fk_m_holds20 25 nn_dt351 7 1
theorem fs_m_holds20_0 {G : fw_K} {R : fw_KR} (hG : fw_cls st_m_holds20 R G) {t x : Int} {σ : ab_SG} (h : (0 ≤ fw_c ((234 + (4 * t)) + 1) ∧ fw_c ((234 + (4 * t)) + 1) < ((474 : Nat) : Int)) ∧ ((0 ≤ fw_c ((234 + (4 * t)) + 2) ∧ fw_c ((234 + (4 * t)) + 2) < ((474 : Nat) : Int)) ∧ ((0 ≤ fw_c (234 + (4 * t)) ∧ fw_c (234 + (4 * t)) < ((474 : Nat) : Int)) ∧ ((1 = fw_c (σ 95 (fw_c (234 + (4 * t))).toNat) → (sp_m_holds 19 [(2, 93, 0), (0, 0, σ 95 (fw_c ((234 + (4 * t)) + 1)).toNat), (0, 0, x)] σ (fun rv σ2 => G 99 [some (2, 93, 0), some (0, 0, t), some (0, 0, x), some (0, 0, 234 + (4 * t)), some (0, 0, σ 95 (fw_c ((234 + (4 * t)) + 1)).toNat), some (0, 0, σ 95 (fw_c ((234 + (4 * t)) + 2)).toNat), none] (rv.toList ++ []) σ2))) ∧ (1 ≠ fw_c (σ 95 (fw_c (234 + (4 * t))).toNat) → ((2 = fw_c (σ 95 (fw_c (234 + (4 * t))).toNat) → (sp_m_holds 19 [(2, 93, 0), (0, 0, σ 95 (fw_c ((234 + (4 * t)) + 1)).toNat), (0, 0, x)] σ (fun rv σ2 => G 115 [some (2, 93, 0), some (0, 0, t), some (0, 0, x), some (0, 0, 234 + (4 * t)), some (0, 0, σ 95 (fw_c ((234 + (4 * t)) + 1)).toNat), some (0, 0, σ 95 (fw_c ((234 + (4 * t)) + 2)).toNat), none] (rv.toList ++ []) σ2))) ∧ (2 ≠ fw_c (σ 95 (fw_c (234 + (4 * t))).toNat) → ((3 = fw_c (σ 95 (fw_c (234 + (4 * t))).toNat) → (sp_m_holds 19 [(2, 93, 0), (0, 0, σ 95 (fw_c ((234 + (4 * t)) + 1)).toNat), (0, 0, x)] σ (fun rv σ2 => G 141 [some (2, 93, 0), some (0, 0, t), some (0, 0, x), some (0, 0, 234 + (4 * t)), some (0, 0, σ 95 (fw_c ((234 + (4 * t)) + 1)).toNat), some (0, 0, σ 95 (fw_c ((234 + (4 * t)) + 2)).toNat), none] (rv.toList ++ []) σ2))) ∧ (3 ≠ fw_c (σ 95 (fw_c (234 + (4 * t))).toNat) → ((60 = fw_c (σ 95 (fw_c (234 + (4 * t))).toNat) → ((0 ≤ fw_c (176 + (σ 95 (fw_c ((234 + (4 * t)) + 1)).toNat)) ∧ fw_c (176 + (σ 95 (fw_c ((234 + (4 * t)) + 1)).toNat)) < ((474 : Nat) : Int)) ∧ (sp_m_has [(0, 0, σ 95 (fw_c (176 + (σ 95 (fw_c ((234 + (4 * t)) + 1)).toNat))).toNat), (0, 0, x)] σ (fun rv σ2 => G 175 [some (2, 93, 0), some (0, 0, t), some (0, 0, x), some (0, 0, 234 + (4 * t)), some (0, 0, σ 95 (fw_c ((234 + (4 * t)) + 1)).toNat), some (0, 0, σ 95 (fw_c ((234 + (4 * t)) + 2)).toNat), none] (rv.toList ++ []) σ2)))) ∧ (60 ≠ fw_c (σ 95 (fw_c (234 + (4 * t))).toNat) → ((61 = fw_c (σ 95 (fw_c (234 + (4 * t))).toNat) → (sp_m_known [(2, 93, 0), (0, 0, σ 95 (fw_c ((234 + (4 * t)) + 1)).toNat), (0, 0, x)] σ (fun rv σ2 => G 183 [some (2, 93, 0), some (0, 0, t), some (0, 0, x), some (0, 0, 234 + (4 * t)), some (0, 0, σ 95 (fw_c ((234 + (4 * t)) + 1)).toNat), some (0, 0, σ 95 (fw_c ((234 + (4 * t)) + 2)).toNat), none] (rv.toList ++ []) σ2))) ∧ (61 ≠ fw_c (σ 95 (fw_c (234 + (4 * t))).toNat) → ((62 = fw_c (σ 95 (fw_c (234 + (4 * t))).toNat) → (sp_m_areLike [(2, 93, 0), (0, 0, σ 95 (fw_c ((234 + (4 * t)) + 1)).toNat), (0, 0, x), (0, 0, 3), (0, 0, 0)] σ (fun rv σ2 => G 203 [some (2, 93, 0), some (0, 0, t), some (0, 0, x), some (0, 0, 234 + (4 * t)), some (0, 0, σ 95 (fw_c ((234 + (4 * t)) + 1)).toNat), some (0, 0, σ 95 (fw_c ((234 + (4 * t)) + 2)).toNat), none] (rv.toList ++ []) σ2))) ∧ (62 ≠ fw_c (σ 95 (fw_c (234 + (4 * t))).toNat) → ((0 ≤ fw_c (234 + (4 * t)) ∧ fw_c (234 + (4 * t)) < ((474 : Nat) : Int)) ∧ (sp_m_tell [(2, 93, 0), (0, 0, x), (0, 0, ((σ 95 (fw_c (234 + (4 * t))).toNat) - 50) - 13)] σ (fun rv σ2 => G 221 [some (2, 93, 0), some (0, 0, t), some (0, 0, x), some (0, 0, 234 + (4 * t)), some (0, 0, σ 95 (fw_c ((234 + (4 * t)) + 1)).toNat), some (0, 0, σ 95 (fw_c ((234 + (4 * t)) + 2)).toNat), none] (rv.toList ++ []) σ2)))))))))))))))))) : G 0 [some (2, 93, 0), some (0, 0, t), some (0, 0, x), none, none, none, none] [] σ := fw_on hG [99, 115, 125, 141, 151, 175, 183, 203, 221] 200 h
theorem fs_m_holds20_221 {G : fw_K} {R : fw_KR} (hG : fw_cls st_m_holds20 R G) {a1 a2 a3 a4 a5 b0 : Int} {σ : ab_SG} (h : (0 ≤ fw_c (a3 + 3) ∧ fw_c (a3 + 3) < ((474 : Nat) : Int)) ∧ ((fw_c (σ 95 (fw_c (a3 + 3)).toNat) ≠ fw_c 60 → (0 ≤ fw_c (a3 + 3) ∧ fw_c (a3 + 3) < ((474 : Nat) : Int)) ∧ ((fw_c (σ 95 (fw_c (a3 + 3)).toNat) ≠ fw_c 61 → (fw_c b0 ≤ fw_c a5 → (0 ≤ fw_c 0 ∧ fw_c 0 ≤ 1) ∧ R (some (0, 0, 0)) σ) ∧ (fw_c a5 < fw_c b0 → (0 ≤ fw_c 1 ∧ fw_c 1 ≤ 1) ∧ R (some (0, 0, 1)) σ)) ∧ (fw_c (σ 95 (fw_c (a3 + 3)).toNat) = fw_c 61 → (fw_c b0 ≠ fw_c a5 → (0 ≤ fw_c 0 ∧ fw_c 0 ≤ 1) ∧ R (some (0, 0, 0)) σ) ∧ (fw_c b0 = fw_c a5 → (0 ≤ fw_c 1 ∧ fw_c 1 ≤ 1) ∧ R (some (0, 0, 1)) σ)))) ∧ (fw_c (σ 95 (fw_c (a3 + 3)).toNat) = fw_c 60 → (fw_c a5 ≤ fw_c b0 → (0 ≤ fw_c 0 ∧ fw_c 0 ≤ 1) ∧ R (some (0, 0, 0)) σ) ∧ (fw_c b0 < fw_c a5 → (0 ≤ fw_c 1 ∧ fw_c 1 ≤ 1) ∧ R (some (0, 0, 1)) σ)))) : G 221 [some (2, 93, 0), some (0, 0, a1), some (0, 0, a2), some (0, 0, a3), some (0, 0, a4), some (0, 0, a5), none] [(0, 0, b0)] σ := fw_on hG [99, 115, 125, 141, 151, 175, 183, 203, 221] 200 h
theorem fs_m_holds20_203 {G : fw_K} {R : fw_KR} (hG : fw_cls st_m_holds20 R G) {a1 a2 a3 a4 a5 b0 : Int} {σ : ab_SG} (h : (0 ≤ fw_c b0 ∧ fw_c b0 ≤ 1) ∧ R (some (0, 0, b0)) σ) : G 203 [some (2, 93, 0), some (0, 0, a1), some (0, 0, a2), some (0, 0, a3), some (0, 0, a4), some (0, 0, a5), none] [(0, 0, b0)] σ := fw_on hG [99, 115, 125, 141, 151, 175, 183, 203, 221] 200 h
theorem fs_m_holds20_183 {G : fw_K} {R : fw_KR} (hG : fw_cls st_m_holds20 R G) {a1 a2 a3 a4 a5 b0 : Int} {σ : ab_SG} (h : (fw_c b0 ≠ fw_c 9 → (0 ≤ fw_c 0 ∧ fw_c 0 ≤ 1) ∧ R (some (0, 0, 0)) σ) ∧ (fw_c b0 = fw_c 9 → (0 ≤ fw_c 1 ∧ fw_c 1 ≤ 1) ∧ R (some (0, 0, 1)) σ)) : G 183 [some (2, 93, 0), some (0, 0, a1), some (0, 0, a2), some (0, 0, a3), some (0, 0, a4), some (0, 0, a5), none] [(0, 0, b0)] σ := fw_on hG [99, 115, 125, 141, 151, 175, 183, 203, 221] 200 h
theorem fs_m_holds20_175 {G : fw_K} {R : fw_KR} (hG : fw_cls st_m_holds20 R G) {a1 a2 a3 a4 a5 b0 : Int} {σ : ab_SG} (h : (0 ≤ fw_c b0 ∧ fw_c b0 ≤ 1) ∧ R (some (0, 0, b0)) σ) : G 175 [some (2, 93, 0), some (0, 0, a1), some (0, 0, a2), some (0, 0, a3), some (0, 0, a4), some (0, 0, a5), none] [(0, 0, b0)] σ := fw_on hG [99, 115, 125, 141, 151, 175, 183, 203, 221] 200 h
theorem fs_m_holds20_141 {G : fw_K} {R : fw_KR} (hG : fw_cls st_m_holds20 R G) {a1 a2 a3 a4 a5 b0 : Int} {σ : ab_SG} (h : (fw_c b0 ≠ 0 → (0 ≤ fw_c 1 ∧ fw_c 1 ≤ 1) ∧ R (some (0, 0, 1)) σ) ∧ (fw_c b0 = 0 → sp_m_holds 19 [(2, 93, 0), (0, 0, a5), (0, 0, a2)] σ (fun rv σ2 => G 151 [some (2, 93, 0), some (0, 0, a1), some (0, 0, a2), some (0, 0, a3), some (0, 0, a4), some (0, 0, a5), none] (rv.toList ++ []) σ2))) : G 141 [some (2, 93, 0), some (0, 0, a1), some (0, 0, a2), some (0, 0, a3), some (0, 0, a4), some (0, 0, a5), none] [(0, 0, b0)] σ := fw_on hG [99, 115, 125, 141, 151, 175, 183, 203, 221] 200 h
theorem fs_m_holds20_115 {G : fw_K} {R : fw_KR} (hG : fw_cls st_m_holds20 R G) {a1 a2 a3 a4 a5 b0 : Int} {σ : ab_SG} (h : (fw_c b0 = 0 → (0 ≤ fw_c 0 ∧ fw_c 0 ≤ 1) ∧ R (some (0, 0, 0)) σ) ∧ (fw_c b0 ≠ 0 → sp_m_holds 19 [(2, 93, 0), (0, 0, a5), (0, 0, a2)] σ (fun rv σ2 => G 125 [some (2, 93, 0), some (0, 0, a1), some (0, 0, a2), some (0, 0, a3), some (0, 0, a4), some (0, 0, a5), none] (rv.toList ++ []) σ2))) : G 115 [some (2, 93, 0), some (0, 0, a1), some (0, 0, a2), some (0, 0, a3), some (0, 0, a4), some (0, 0, a5), none] [(0, 0, b0)] σ := fw_on hG [99, 115, 125, 141, 151, 175, 183, 203, 221] 200 h
theorem fs_m_holds20_99 {G : fw_K} {R : fw_KR} (hG : fw_cls st_m_holds20 R G) {a1 a2 a3 a4 a5 b0 : Int} {σ : ab_SG} (h : (fw_c b0 ≠ 0 → (0 ≤ fw_c 0 ∧ fw_c 0 ≤ 1) ∧ R (some (0, 0, 0)) σ) ∧ (fw_c b0 = 0 → (0 ≤ fw_c 1 ∧ fw_c 1 ≤ 1) ∧ R (some (0, 0, 1)) σ)) : G 99 [some (2, 93, 0), some (0, 0, a1), some (0, 0, a2), some (0, 0, a3), some (0, 0, a4), some (0, 0, a5), none] [(0, 0, b0)] σ := fw_on hG [99, 115, 125, 141, 151, 175, 183, 203, 221] 200 h
theorem fs_m_holds20_151 {G : fw_K} {R : fw_KR} (hG : fw_cls st_m_holds20 R G) {a1 a2 a3 a4 a5 b0 : Int} {σ : ab_SG} (h : (fw_c b0 = 0 → (0 ≤ fw_c 0 ∧ fw_c 0 ≤ 1) ∧ R (some (0, 0, 0)) σ) ∧ (fw_c b0 ≠ 0 → (0 ≤ fw_c 1 ∧ fw_c 1 ≤ 1) ∧ R (some (0, 0, 1)) σ)) : G 151 [some (2, 93, 0), some (0, 0, a1), some (0, 0, a2), some (0, 0, a3), some (0, 0, a4), some (0, 0, a5), none] [(0, 0, b0)] σ := fw_on hG [99, 115, 125, 141, 151, 175, 183, 203, 221] 200 h
theorem fs_m_holds20_125 {G : fw_K} {R : fw_KR} (hG : fw_cls st_m_holds20 R G) {a1 a2 a3 a4 a5 b0 : Int} {σ : ab_SG} (h : (fw_c b0 = 0 → (0 ≤ fw_c 0 ∧ fw_c 0 ≤ 1) ∧ R (some (0, 0, 0)) σ) ∧ (fw_c b0 ≠ 0 → (0 ≤ fw_c 1 ∧ fw_c 1 ≤ 1) ∧ R (some (0, 0, 1)) σ)) : G 125 [some (2, 93, 0), some (0, 0, a1), some (0, 0, a2), some (0, 0, a3), some (0, 0, a4), some (0, 0, a5), none] [(0, 0, b0)] σ := fw_on hG [99, 115, 125, 141, 151, 175, 183, 203, 221] 200 h
section
variable {l : Launch} {cy : Nat → ClassId} {ad wr cr : Nat → Nat} {D : va_G}
theorem fm_m_holds20 (hinj : nn_inj ad) : fw_H l cy ad wr cr D 351 25 (sp_m_holds 20) := fw_mk hinj (⟨"NameNotesModel", "holds", "(II)Z"⟩, prog_14_method_148_code, 7, (Option.some Jvm.ClassFile.FieldType.boolean), 2, true, 1) rfl rfl nn_KI20_ok nn_KJ20_ok nn_PF20_ok nn_PS20_ok (by decide +kernel) rfl rfl (List.forall_mem_cons.mpr ⟨fw_row nn_PM20_ok (x := 216) (k := 0) (mn := 230) (np := 2) (ob := false) (ci := 0) (⟨"NameNotesModel", "has", "(II)Z"⟩, prog_14_method_9_code, 2, (Option.some Jvm.ClassFile.FieldType.boolean), 2, false, 1) rfl (by decide +kernel) rfl rfl (by decide) (fun q => by cases q) (fm_m_has hinj), (List.forall_mem_cons.mpr ⟨fw_row nn_PM20_ok (x := 277) (k := 0) (mn := 244) (np := 2) (ob := true) (ci := 11) (⟨"NameNotesModel", "tell", "(II)I"⟩, prog_14_method_50_code, 6, (Option.some Jvm.ClassFile.FieldType.int), 2, true, 0) rfl (by decide +kernel) rfl rfl (by decide) (fun _ => ⟨_, _, rfl⟩) (fm_m_tell hinj), (List.forall_mem_cons.mpr ⟨fw_row nn_PM20_ok (x := 284) (k := 0) (mn := 250) (np := 2) (ob := true) (ci := 11) (⟨"NameNotesModel", "known", "(II)I"⟩, prog_14_method_54_code, 3, (Option.some Jvm.ClassFile.FieldType.int), 2, true, 0) rfl (by decide +kernel) rfl rfl (by decide) (fun _ => ⟨_, _, rfl⟩) (fm_m_known hinj), (List.forall_mem_cons.mpr ⟨fw_row nn_PM20_ok (x := 294) (k := 0) (mn := 257) (np := 4) (ob := true) (ci := 11) (⟨"NameNotesModel", "areLike", "(IIII)Z"⟩, prog_14_method_59_code, 5, (Option.some Jvm.ClassFile.FieldType.boolean), 4, true, 1) rfl (by decide +kernel) rfl rfl (by decide) (fun _ => ⟨_, _, rfl⟩) (fm_m_areLike hinj), (List.forall_mem_cons.mpr ⟨fw_row nn_PM20_ok (x := 525) (k := 0) (mn := 351) (np := 2) (ob := true) (ci := 11) (⟨"NameNotesModel", "holds", "(II)Z"⟩, prog_14_method_148_code, 7, (Option.some Jvm.ClassFile.FieldType.boolean), 2, true, 1) rfl (by decide +kernel) rfl rfl (by decide) (fun _ => ⟨_, _, rfl⟩) (fm_m_holds19 hinj), (fun _ h => absurd h List.not_mem_nil)⟩)⟩)⟩)⟩)⟩) (fun as σ K h => by
  obtain ⟨A, x, t, L, rfl, hN, hx, H, hv, h⟩ := h
  exact ⟨rfl, fun G hG => mh_core hN hx H hv h (fs_m_holds20_0 hG) (fs_m_holds20_221 hG) (fs_m_holds20_203 hG) (fs_m_holds20_183 hG) (fs_m_holds20_175 hG) (fs_m_holds20_141 hG) (fs_m_holds20_115 hG) (fs_m_holds20_99 hG) (fs_m_holds20_151 hG) (fs_m_holds20_125 hG)⟩)
end
abbrev fk_m_said : List fw_CR := [(261, 0, true, 11, 0, sp_m_tunes), (525, 2, true, 11, 25, sp_m_holds 20)]
abbrev st_m_said : fw_K → fw_KR → fw_K := fw_st vwCl nn_sh nn_kd fw_kv fw_wc (nn_KI20.map (fun x => x.1)) (nn_KJ20.map (fun x => x.1)) (nn_PF20.map (fun x => x.1)) (nn_PS20.map (fun x => x.1)) fk_m_said 30 nn_dt350 4 0
theorem fs_m_said_0 {G : fw_K} {R : fw_KR} (hG : fw_cls st_m_said R G) {k : Int} {σ : ab_SG} (h : (0 ≤ fw_c 232 ∧ fw_c 232 < ((474 : Nat) : Int)) ∧ ((fw_c (σ 95 (fw_c 232).toNat) ≠ 0 → G 22 [some (2, 93, 0), some (0, 0, k), some (0, 0, 0), some (0, 0, 0)] [] (ab_ups σ 93 0 (fw_c 0))) ∧ (fw_c (σ 95 (fw_c 232).toNat) = 0 → R (some (0, 0, (-1))) (ab_ups σ 93 0 (fw_c 0))))) : G 0 [some (2, 93, 0), some (0, 0, k), none, none] [] σ := fw_on hG [22, 27, 43, 59] 200 h
theorem fs_m_said_22 {G : fw_K} {R : fw_KR} (hG : fw_cls st_m_said R G) {a1 a2 a3 : Int} {σ : ab_SG} (h : sp_m_tunes [(2, 93, 0)] σ (fun rv σ2 => G 27 [some (2, 93, 0), some (0, 0, a1), some (0, 0, a2), some (0, 0, a3)] (rv.toList ++ [(0, 0, a3)]) σ2)) : G 22 [some (2, 93, 0), some (0, 0, a1), some (0, 0, a2), some (0, 0, a3)] [] σ := fw_on hG [22, 27, 43, 59] 200 h
theorem fs_m_said_27 {G : fw_K} {R : fw_KR} (hG : fw_cls st_m_said R G) {a1 a2 a3 b0 b1 : Int} {σ : ab_SG} (h : (fw_c b0 ≤ fw_c b1 → (fw_c a1 ≠ fw_c (-1) → R (some (0, 0, (-1))) σ) ∧ (fw_c a1 = fw_c (-1) → R (some (0, 0, a2)) σ)) ∧ (fw_c b1 < fw_c b0 → (0 ≤ fw_c 233 ∧ fw_c 233 < ((474 : Nat) : Int)) ∧ (sp_m_holds 20 [(2, 93, 0), (0, 0, σ 95 (fw_c 233).toNat), (0, 0, a3)] σ (fun rv σ2 => G 43 [some (2, 93, 0), some (0, 0, a1), some (0, 0, a2), some (0, 0, a3)] (rv.toList ++ []) σ2)))) : G 27 [some (2, 93, 0), some (0, 0, a1), some (0, 0, a2), some (0, 0, a3)] [(0, 0, b0), (0, 0, b1)] σ := fw_on hG [22, 27, 43, 59] 200 h
theorem fs_m_said_43 {G : fw_K} {R : fw_KR} (hG : fw_cls st_m_said R G) {a1 a2 a3 b0 : Int} {σ : ab_SG} (h : (fw_c b0 ≠ 0 → (fw_c a2 ≠ fw_c a1 → G 59 [some (2, 93, 0), some (0, 0, a1), some (0, 0, a2 + 1), some (0, 0, a3)] [] σ) ∧ (fw_c a2 = fw_c a1 → R (some (0, 0, a3)) σ)) ∧ (fw_c b0 = 0 → G 59 [some (2, 93, 0), some (0, 0, a1), some (0, 0, a2), some (0, 0, a3)] [] σ)) : G 43 [some (2, 93, 0), some (0, 0, a1), some (0, 0, a2), some (0, 0, a3)] [(0, 0, b0)] σ := fw_on hG [22, 27, 43, 59] 200 h
theorem fs_m_said_59 {G : fw_K} {R : fw_KR} (hG : fw_cls st_m_said R G) {a1 a2 a3 : Int} {σ : ab_SG} (h : G 22 [some (2, 93, 0), some (0, 0, a1), some (0, 0, a2), some (0, 0, a3 + 1)] [] σ) : G 59 [some (2, 93, 0), some (0, 0, a1), some (0, 0, a2), some (0, 0, a3)] [] σ := fw_on hG [22, 27, 43, 59] 200 h
section
variable {l : Launch} {cy : Nat → ClassId} {ad wr cr : Nat → Nat} {D : va_G}
theorem fm_m_said (hinj : nn_inj ad) : fw_H l cy ad wr cr D 350 30 sp_m_said := fw_mk hinj (⟨"NameNotesModel", "said", "(I)I"⟩, prog_14_method_149_code, 4, (Option.some Jvm.ClassFile.FieldType.int), 1, true, 0) rfl rfl nn_KI20_ok nn_KJ20_ok nn_PF20_ok nn_PS20_ok (by decide +kernel) rfl rfl (List.forall_mem_cons.mpr ⟨fw_row nn_PM20_ok (x := 261) (k := 0) (mn := 240) (np := 0) (ob := true) (ci := 11) (⟨"NameNotesModel", "tunes", "()I"⟩, prog_14_method_41_code, 1, (Option.some Jvm.ClassFile.FieldType.int), 0, true, 0) rfl (by decide +kernel) rfl rfl (by decide) (fun _ => ⟨_, _, rfl⟩) (fm_m_tunes hinj), (List.forall_mem_cons.mpr ⟨fw_row nn_PM20_ok (x := 525) (k := 0) (mn := 351) (np := 2) (ob := true) (ci := 11) (⟨"NameNotesModel", "holds", "(II)Z"⟩, prog_14_method_148_code, 7, (Option.some Jvm.ClassFile.FieldType.boolean), 2, true, 1) rfl (by decide +kernel) rfl rfl (by decide) (fun _ => ⟨_, _, rfl⟩) (fm_m_holds20 hinj), (fun _ h => absurd h List.not_mem_nil)⟩)⟩) (fun as σ K h => by
  obtain ⟨A, k, L, rfl, ck, hN, hE, h⟩ := h
  have nn := N_n hN.1
  have m1 : fw_c (-1) = -1 := fw_s (by decide) (by decide)
  have c232 : fw_c 232 = 232 := fw_s (by decide) (by decide)
  have c233 : fw_c 233 = 233 := fw_s (by decide) (by decide)
  have t232 : (fw_c 232).toNat = 232 := by rw [c232]; rfl
  have t233 : (fw_c 233).toNat = 233 := by rw [c233]; rfl
  obtain ⟨T, eT⟩ := Int.eq_ofNat_of_zero_le nn.1.1
  have eTn : (A 49 11).toNat = T := by omega
  have e95 : ∀ j : Nat, (ab_ups σ 93 0 0) 95 j = σ 95 j := fun j => ab_ups_ne (fun z => absurd z.1 (by decide))
  have hN1 : NM (ab_ups σ 93 0 0) A := NM_ups hN
  refine ⟨rfl, fun G hG => fs_m_said_0 hG ?_⟩
  rw [t232, c232, fw_c0]
  refine ⟨by decide, fun z => ?_, fun z => ?_⟩
  · rcases hE with e | ⟨e, hv, hR⟩
    · rw [e] at z
      exact absurd fw_c0 z
    unfold v_said at h
    rw [if_neg (by rw [e]; decide), eTn] at h
    unfold sd_v at h
    have fN : (fun j => (ab_ups σ 93 0 0) 95 (234 + j)) = (fun j => σ 95 (234 + j)) := funext fun j => e95 _
    have loop : ∀ (f x : Nat) (n : Int), x + f = T → (0 ≤ n ∧ n ≤ (x : Int)) → sd_f (fun y => tv A (fun j => σ 95 (234 + j)) y 20 (σ 95 233)) k f x n = sd_f (fun y => tv A (fun j => σ 95 (234 + j)) y 20 (σ 95 233)) k T 0 0 → G 22 [some (2, 93, 0), some (0, 0, k), some (0, 0, n), some (0, 0, (x : Int))] [] (ab_ups σ 93 0 0) := by
      intro f
      induction f with
      | zero =>
        intro x n hx hn e2
        have ex : x = T := by omega
        subst ex
        refine fs_m_said_22 hG ⟨rfl, fs_m_said_27 hG ?_⟩
        rw [e95, (NM_n hN).1, eT, ck, m1]
        rw [← e2] at h
        refine ⟨fun _ => ⟨fun y => ?_, fun y => ?_⟩, fun y => absurd y (Int.lt_irrefl _)⟩
        · rw [show (sd_f (fun y => tv A (fun j => σ 95 (234 + j)) y 20 (σ 95 233)) k 0 x n) = (0, n) from rfl, if_neg (by show ¬ (0 : Int) = 1; decide), if_neg y] at h
          exact h
        · rw [show (sd_f (fun y => tv A (fun j => σ 95 (234 + j)) y 20 (σ 95 233)) k 0 x n) = (0, n) from rfl, if_neg (by show ¬ (0 : Int) = 1; decide), if_pos y] at h
          exact h
      | succ f ih =>
        intro x n hx hn e2
        have cx : fw_c (x : Int) = (x : Int) := fw_s (by omega) (by omega)
        have cn : fw_c n = n := fw_s (by omega) (by omega)
        have cT : fw_c (T : Int) = (T : Int) := fw_s (by omega) (by omega)
        rw [sd_s] at e2
        refine fs_m_said_22 hG ⟨rfl, fs_m_said_27 hG ?_⟩
        rw [e95, (NM_n hN).1, eT, t233, c233, cx, cT, e95]
        refine ⟨fun y => absurd y (by omega), fun _ => ⟨by decide, A, x, _, L, rfl, hN1, by omega, ?_, hv, fs_m_said_43 hG ?_⟩⟩
        · rw [fN]
          exact hR
        rw [fN, cn, ck]
        refine ⟨fun y => ?_, fun y => ?_⟩
        · have y := bI_1 y
          rw [if_pos y] at e2
          refine ⟨fun q => fs_m_said_59 hG ?_, fun q => ?_⟩
          · rw [if_neg q] at e2
            exact ih (x + 1) (n + 1) (by omega) (by omega) e2
          · rw [if_pos q] at e2
            rw [← e2] at h
            rw [show ((1, (x : Int)) : Int × Int).1 = 1 from rfl, if_pos rfl] at h
            exact h
        · have y := bI_0 y
          rw [if_neg (by rw [y]; decide)] at e2
          exact fs_m_said_59 hG (ih (x + 1) n (by omega) (by omega) e2)
    exact loop T 0 0 (by omega) (by decide) rfl
  · rcases hE with e | ⟨e, -, -⟩
    · unfold v_said at h
      rw [if_pos e] at h
      exact h
    · rw [e] at z
      exact absurd (fw_c1.symm.trans z) (by decide))
end
end
section
/-! the relation over a sentence and its steps -/
abbrev sq_o (σ : ab_SG) : tk_E := (tp_t σ, (σ 1 1).toNat, 200)
def k_sentence (A σ σ' : ab_SG) : Prop := ab_okM sz_M σ σ' ∧ σ' 1 1 = 0 ∧ σ' 1 9 = (sn_r A (sq_o σ)).1 ∧ (((sn_r A (sq_o σ)).1 ≠ 0 ∧ ab_okM sv_M σ σ') ∨ ((sn_r A (sq_o σ)).1 = 0 ∧ pq σ' (sl_r A (sq_o σ)) ((sn_r A (sq_o σ)).2.2.1 : Int)))
def km_sentence (A : ab_SG) (e : tk_E) (σ σ' : ab_SG) : Prop := sN_ok σ σ' ∧ σ' 93 2 = 0 ∧ ly_is σ σ' ∧ σ' 93 10 = (sn_r A e).1 ∧ (((sn_r A e).1 ≠ 0 ∧ ab_okM sM_N σ σ') ∨ ((sn_r A e).1 = 0 ∧ mq σ' (sl_r A e)))
theorem sk_sentence {σ A : ab_SG} (h : ra σ) (hN : NC σ A) : sp_sentence [(2, 0, 0)] σ (fun rv σ' => k_sentence A σ σ' ∧ rv = some (0, 0, v_se A (sq_o σ))) :=
  ⟨A, rfl, ⟨h.2.1, h.2.2.1⟩, hN, fun q _ M b c => ⟨⟨ev_up M (by decide), b, c, Or.inl ⟨q, M⟩⟩, rfl⟩, fun q _ M b c pp => ⟨⟨M, b, c.trans q.symm, Or.inr ⟨q, pp⟩⟩, rfl⟩⟩
theorem se_82 {A σ σ1 σm : ab_SG} (hc : cN σ) (hR : RQ σ) (h1 : k_sentence A σ σ1) (hv : vW σm σ1) : σm 93 2 = σ 1 1 :=
  (mid_at (cn_N hc) h1.1 (vw_W hv) (su93 (Or.inl rfl)) (by decide)).trans hR.1.1.1.symm
theorem sm_sentence {A σ σ1 σm : ab_SG} (hc : cN σ) (hR : RQ σ) (hi : RI A) (hn : nb_is A) (hs : sr_is (mlN σ) (σ 99) A) (h1 : k_sentence A σ σ1) (hv : vW σm σ1) : sp_m_sentence [(2, 93, 0)] σm (fun rv σ' => km_sentence A (sq_o σ) σm σ' ∧ rv = some (0, 0, v_se A (sq_o σ))) := by
  have e2 := se_82 hc hR h1 hv
  have e22 : σm 93 22 = σ 93 22 := mid_at (cn_N hc) h1.1 (vw_W hv) (su93 (Or.inr rfl)) (by decide)
  have hN := NM_V hc hi hn hs h1.1 hv (by decide) (by decide) (by decide)
  obtain ⟨⟨⟨r1, r2, r3, r4⟩, rB, -⟩, -⟩ := hR
  refine ⟨A, tp_t σ, rfl, ⟨by omega, by omega⟩, fun j hj => ?_, ?_, hN, fun q σ' M z2 l c => ?_, fun q σ' M z2 l c pp => ?_⟩
  · have hj9 : j < 940 := by omega
    refine ⟨?_, (tp_t_in σ j).1, (tp_t_in σ j).2⟩
    rw [mid_row (cn_N hc) h1.1 (vw_W hv) (k := 94) (by decide) j (su94 hj9)]
    exact (r4 j (by omega)).symm
  · unfold ly_ok
    rw [e22]
    exact ly_of rB
  · rw [e2] at q c ⊢
    exact ⟨⟨fun a b h _ => M a b h, z2, l, c, Or.inl ⟨q, M⟩⟩, rfl⟩
  · rw [e2] at q pp ⊢
    exact ⟨⟨M, z2, l, c.trans q.symm, Or.inr ⟨q, pp⟩⟩, rfl⟩
def sl_N : ab_ML := sM_N ++ (List.range 242).map (fun i => (95, 232 + i))
theorem sl_ok {σ σ' : ab_SG} (h : sN_ok σ σ') : ab_okM sl_N σ σ' := fun a b q => h a b (fun r hr => q r (List.mem_append_left _ hr)) (fun z => q (95, b) (List.mem_append_right _ (List.mem_map.mpr ⟨b - 232, List.mem_range.mpr (by omega), by rw [show 232 + (b - 232) = b by omega]⟩)) ⟨z.1.symm, Or.inl rfl⟩)
theorem rx_two_sy {M1 M2 : ab_ML} {σ σ1 σm σ2 σ5 : ab_SG} (hc : cN σ) (h1 : ab_okM M1 σ σ1) (hv : vW σm σ1) (h2 : ab_okM M2 σm σ2) (hw : vW σ5 σ2) (m1 : rx_b M1 = true) (m2 : (rx_c M2 && sy_b M2) = true) (hl : ly_is σm σ2) (h : rx σ) : rx σ5 := by
  unfold rx_b at m1
  rw [Bool.and_eq_true] at m1 m2
  have e95 : ∀ j : Nat, j < 232 → j ≠ 3 → σ5 95 j = σ 95 j := fun j hj h3 => by
    rw [hw.1 95 j (Or.inr (swr (by decide) hj)), mk_95b h2 m2.2 hj h3, xm_at hc h1 hv (Or.inr (swr (by decide) hj)) (off_mk (by have := m1.2; rw [Bool.and_eq_true] at this; exact this.1) j)]
    exact hc.1 95 j (Or.inr (swr (by decide) hj))
  exact rx_rest hc h1 hv h2 hw m1.1 m2.1 (fun j hj => mlN_ly (ly_W hc h1 hv m1.2 hl hw) e95 j hj) (fun j a b => e95 j b (by omega)) h
theorem RQ_sentence {A : ab_SG} {e : tk_E} {σ σ1 σm σ2 σ5 : ab_SG} (hc : cN σ) (hR : RQ σ) (h1 : k_sentence A σ σ1) (hv : vW σm σ1) (h2 : km_sentence A e σm σ2) (hw : vW σ5 σ2) : RQ σ5 := by
  obtain ⟨g2, g3, -⟩ := h1
  obtain ⟨q1, q3, q4, -⟩ := h2
  have q2 := sl_ok q1
  refine ⟨RQ9_tr (vw_W hw) ⟨?_, rb_two_ly (cn_N hc) g2 (vw_W hv) q2 (by decide) (by decide +kernel) (by decide +kernel) q4 hR.1.2.1, rk_two (cn_N hc) g2 (vw_W hv) q2 (by decide) (by decide +kernel) hR.1.2.2⟩, rx_two_sy hc g2 hv q2 hw (by decide +kernel) (by decide +kernel) q4 hR.2⟩
  have e11 : σ2 1 1 = 0 := by
    rw [q1 1 1 (by decide) (by decide), (vw_W hv) 1 1 su1, g3]
    exact fw_c_id (by decide) (by decide)
  exact ⟨by rw [e11, q3], by rw [e11]; exact Int.le_refl 0, by rw [e11]; decide, fun j hj => by rw [e11] at hj; omega⟩
end
section
/-! what may be said: the sentence on both sides, the kept ones too -/
def xs_L : List (Nat × Nat) := [(14, 3), (14, 4), (29, 3), (29, 4), (44, 3), (44, 4), (3, 11), (3, 12), (3, 13), (18, 11), (18, 12), (18, 13), (18, 16), (33, 11), (33, 12), (33, 13), (33, 16)]
def xs (k j : Nat) : Prop := ((k = 15 ∨ k = 16 ∨ k = 30 ∨ k = 31 ∨ k = 45 ∨ k = 46) ∧ j < 64) ∨ (k = 95 ∧ 232 ≤ j ∧ j < 474) ∨ (k = 97 ∧ j < 948) ∨ (k, j) ∈ xs_L
/-- a place that is written leaves all of them -/
def xf (k j : Nat) : Bool := decide (((k ≠ 15 ∧ k ≠ 16) ∧ (k ≠ 30 ∧ k ≠ 31) ∧ (k ≠ 45 ∧ k ≠ 46) ∧ k ≠ 97) ∧ (k = 95 → j < 232)) && xs_L.all (fun q => !(q.1.beq k && (j.beq q.2 || j.beq 1000000)))
theorem xf_ok {k b j : Nat} (h : xf k b = true) (w : b = j ∨ b = 1000000) (hs : xs k j) : False := by
  unfold xf at h
  rw [Bool.and_eq_true] at h
  obtain ⟨g1, g2⟩ := of_decide_eq_true h.1
  rcases hs with ⟨h1, h2⟩ | ⟨h1, h2, h3⟩ | ⟨h1, h2⟩ | h1
  · omega
  · have := g2 h1
    omega
  · omega
  · have t : (!(k.beq k && (b.beq j || b.beq 1000000))) = true := List.all_eq_true.mp h.2 (k, j) h1
    have t2 : (b.beq j || b.beq 1000000) = true := by
      rw [Bool.or_eq_true]
      rcases w with w | w
      · exact Or.inl (by rw [w]; exact Nat.beq_refl j)
      · exact Or.inr (by rw [w]; rfl)
    rw [Nat.beq_refl, t2] at t
    exact absurd t (by decide)
def xs_b (M : ab_ML) : Bool := M.all (fun q => xf q.1 q.2)
def xs_z (_ : ab_ML) : Bool := true
def xs_p (p : Nat → Bool) (M : ab_ML) : Bool := M.all (fun q => p q.1 || xf q.1 q.2)
theorem xs_ok {M : ab_ML} {σ σ' : ab_SG} (h : ab_okM M σ σ') (hk : xs_b M = true) {k j : Nat} (hs : xs k j) : σ' k j = σ k j := h k j (fun q hq w => xf_ok (k := k) (by rw [← w.1]; exact List.all_eq_true.mp hk q hq) w.2 hs)
theorem xs_bt {M : ab_ML} {p : Nat → Bool} {σ σ' : ab_SG} (h : ab_okM M σ σ') (hk : xs_p p M = true) {k j : Nat} (hs : xs k j) (hp : p k = false) : σ' k j = σ k j := h k j (fun q hq w => by
  have g : (p q.1 || xf q.1 q.2) = true := List.all_eq_true.mp hk q hq
  rw [w.1, hp, Bool.false_or] at g
  exact xf_ok g w.2 hs)
theorem xr_a : (su_b 15 0 63 && (su_b 16 0 63 && (su_b 30 0 63 && (su_b 31 0 63 && (su_b 45 0 63 && su_b 46 0 63))))) = true := by decide +kernel
theorem xr_b : (List.range 242).all (fun i => su_b 95 (232 + i) (232 + i)) = true := by decide +kernel
theorem xr_c : (List.range 948).all (fun i => su_b 97 i i) = true := by decide +kernel
theorem xr_d : xs_L.all (fun q => su_b q.1 q.2 q.2) = true := by decide +kernel
theorem xs_cn {σ : ab_SG} (h : ab_okR nn_T σ) {k j : Nat} (hs : xs k j) : fw_c (σ k j) = σ k j := by
  have g := xr_a
  rw [Bool.and_eq_true, Bool.and_eq_true, Bool.and_eq_true, Bool.and_eq_true, Bool.and_eq_true] at g
  rcases hs with ⟨h1, h2⟩ | ⟨h1, h2, h3⟩ | ⟨h1, h2⟩ | h1
  · rcases h1 with rfl | rfl | rfl | rfl | rfl | rfl
    · exact su_b_ok g.1 h (Nat.zero_le j) (by omega)
    · exact su_b_ok g.2.1 h (Nat.zero_le j) (by omega)
    · exact su_b_ok g.2.2.1 h (Nat.zero_le j) (by omega)
    · exact su_b_ok g.2.2.2.1 h (Nat.zero_le j) (by omega)
    · exact su_b_ok g.2.2.2.2.1 h (Nat.zero_le j) (by omega)
    · exact su_b_ok g.2.2.2.2.2 h (Nat.zero_le j) (by omega)
  · have t : su_b 95 (232 + (j - 232)) (232 + (j - 232)) = true := List.all_eq_true.mp xr_b (j - 232) (List.mem_range.mpr (by omega))
    rw [h1]
    exact su_b_ok t h (by omega) (by omega)
  · have t : su_b 97 j j = true := List.all_eq_true.mp xr_c j (List.mem_range.mpr h2)
    rw [h1]
    exact su_b_ok t h (Nat.le_refl j) (Nat.le_refl j)
  · exact su_b_ok (List.all_eq_true.mp xr_d (k, j) h1) h (Nat.le_refl j) (Nat.le_refl j)
theorem xv_of {cy : Nat → ClassId} {ad wr : Nat → Nat} {D : va_G} {σ σ' : ab_SG} {H : Heap} (hR : ab_okR nn_T σ) (h : va_P D vwCl (ab_WD cy ad wr nn_sh σ) H) (h' : va_P D vwCl (ab_WD cy ad wr nn_sh σ') H) : ∀ k j : Nat, xs k j → σ k j = fw_c (σ' k j) := by
  have g : ∀ q ∈ xs_L, fw_c (σ q.1 q.2) = fw_c (σ' q.1 q.2) := by
    unfold xs_L
    exact List.forall_mem_cons.mpr ⟨wd_int h h' (k := 14) (j := 3) rfl rfl rfl (by decide), List.forall_mem_cons.mpr ⟨wd_int h h' (k := 14) (j := 4) rfl rfl rfl (by decide), List.forall_mem_cons.mpr ⟨wd_int h h' (k := 29) (j := 3) rfl rfl rfl (by decide), List.forall_mem_cons.mpr ⟨wd_int h h' (k := 29) (j := 4) rfl rfl rfl (by decide), List.forall_mem_cons.mpr ⟨wd_int h h' (k := 44) (j := 3) rfl rfl rfl (by decide), List.forall_mem_cons.mpr ⟨wd_int h h' (k := 44) (j := 4) rfl rfl rfl (by decide), List.forall_mem_cons.mpr ⟨wd_int h h' (k := 3) (j := 11) rfl rfl rfl (by decide), List.forall_mem_cons.mpr ⟨wd_int h h' (k := 3) (j := 12) rfl rfl rfl (by decide), List.forall_mem_cons.mpr ⟨wd_int h h' (k := 3) (j := 13) rfl rfl rfl (by decide), List.forall_mem_cons.mpr ⟨wd_int h h' (k := 18) (j := 11) rfl rfl rfl (by decide), List.forall_mem_cons.mpr ⟨wd_int h h' (k := 18) (j := 12) rfl rfl rfl (by decide), List.forall_mem_cons.mpr ⟨wd_int h h' (k := 18) (j := 13) rfl rfl rfl (by decide), List.forall_mem_cons.mpr ⟨wd_int h h' (k := 18) (j := 16) rfl rfl rfl (by decide), List.forall_mem_cons.mpr ⟨wd_int h h' (k := 33) (j := 11) rfl rfl rfl (by decide), List.forall_mem_cons.mpr ⟨wd_int h h' (k := 33) (j := 12) rfl rfl rfl (by decide), List.forall_mem_cons.mpr ⟨wd_int h h' (k := 33) (j := 13) rfl rfl rfl (by decide), List.forall_mem_cons.mpr ⟨wd_int h h' (k := 33) (j := 16) rfl rfl rfl (by decide), fun _ z => absurd z List.not_mem_nil⟩⟩⟩⟩⟩⟩⟩⟩⟩⟩⟩⟩⟩⟩⟩⟩⟩
  intro k j hs
  rw [← xs_cn hR hs]
  rcases hs with ⟨h1, h2⟩ | ⟨h1, h2, h3⟩ | ⟨h1, h2⟩ | h1
  · rcases h1 with rfl | rfl | rfl | rfl | rfl | rfl
    · exact wd_arr h h' (k := 15) (t := 0) (n := 64) rfl (by decide) h2
    · exact wd_arr h h' (k := 16) (t := 0) (n := 64) rfl (by decide) h2
    · exact wd_arr h h' (k := 30) (t := 0) (n := 64) rfl (by decide) h2
    · exact wd_arr h h' (k := 31) (t := 0) (n := 64) rfl (by decide) h2
    · exact wd_arr h h' (k := 45) (t := 0) (n := 64) rfl (by decide) h2
    · exact wd_arr h h' (k := 46) (t := 0) (n := 64) rfl (by decide) h2
  · rw [h1]
    exact wd_arr h h' (k := 95) (t := 0) (n := 474) rfl (by decide) h3
  · rw [h1]
    exact wd_arr h h' (k := 97) (t := 0) (n := 948) rfl (by decide) h2
  · exact g (k, j) h1
theorem vs_cg {A B : ab_SG} (h1 : B 49 11 = A 49 11) (h2 : B 49 12 = A 49 12) (h3 : B 49 13 = A 49 13) {q : Int × Int} (h : vs A q) : vs B q := by
  unfold vs at h ⊢
  rw [h1, h2, h3]
  exact h
/-- a studio's sentence, the class's rows and the reference's -/
def sb (σ : ab_SG) (b : Nat) (R : Nat → Int) : Prop := (R 232 = 0 ∧ σ (b + 11) 4 = 0) ∨ (R 232 = 1 ∧ (1 ≤ σ (b + 11) 4 ∧ σ (b + 11) 4 ≤ 20) ∧ ∃ L : sl_T, (σ (b + 11) 3 = (L.length : Int) ∧ L.length ≤ 60) ∧ (∀ i : Nat, i < L.length → L[i]? = some (σ (b + 12) i, σ (b + 13) i)) ∧ (∀ q ∈ L, vs (fun _ j => σ b j) q) ∧ rp (fun j => R (234 + j)) 60 20 (R 233) L)
theorem sb_mv {σ σ' : ab_SG} {b b' : Nat} {R R' : Nat → Int} (h12 : ∀ j : Nat, j < 64 → σ' (b' + 12) j = σ (b + 12) j) (h13 : ∀ j : Nat, j < 64 → σ' (b' + 13) j = σ (b + 13) j) (h3 : σ' (b' + 11) 3 = σ (b + 11) 3) (h4 : σ' (b' + 11) 4 = σ (b + 11) 4) (hc : ∀ j : Nat, j = 11 ∨ j = 12 ∨ j = 13 → σ' b' j = σ b j) (hr : ∀ j : Nat, 232 ≤ j → j < 474 → R' j = R j) (H : sb σ b R) : sb σ' b' R' := by
  rcases H with ⟨a, c⟩ | ⟨a, c, L, l, r, v, p⟩
  · exact Or.inl ⟨(hr 232 (by decide) (by decide)).trans a, h4.trans c⟩
  · refine Or.inr ⟨(hr 232 (by decide) (by decide)).trans a, by rw [h4]; exact c, L, ⟨h3.trans l.1, l.2⟩, fun i hi => ?_, fun q hq => vs_cg (hc 11 (Or.inl rfl)) (hc 12 (Or.inr (Or.inl rfl))) (hc 13 (Or.inr (Or.inr rfl))) (v q hq), ?_⟩
    · rw [h12 i (by omega), h13 i (by omega)]
      exact r i hi
    · rw [hr 233 (by decide) (by decide)]
      exact rp_mono (Int.le_refl 60) (fun j hj => hr (234 + j) (by omega) (by omega)) 20 20 _ L (Nat.le_refl 20) p
def EX (σ : ab_SG) : Prop := sb σ 3 (σ 95) ∧ (σ 18 16 = 1 → sb σ 18 (σ 97)) ∧ (σ 33 16 = 1 → sb σ 33 (fun j => σ 97 (474 + j)))
def RX (σ : ab_SG) : Prop := RQ σ ∧ EX σ
theorem sd_c3 {j : Nat} (h : j = 11 ∨ j = 12 ∨ j = 13) : xs 3 j := by rcases h with rfl | rfl | rfl <;> exact Or.inr (Or.inr (Or.inr (by decide)))
theorem sd_c18 {j : Nat} (h : j = 11 ∨ j = 12 ∨ j = 13) : xs 18 j := by rcases h with rfl | rfl | rfl <;> exact Or.inr (Or.inr (Or.inr (by decide)))
theorem sd_c33 {j : Nat} (h : j = 11 ∨ j = 12 ∨ j = 13) : xs 33 j := by rcases h with rfl | rfl | rfl <;> exact Or.inr (Or.inr (Or.inr (by decide)))
theorem sd_xL {k j : Nat} (h : (k, j) ∈ xs_L) : xs k j := Or.inr (Or.inr (Or.inr h))
theorem sd_x15 {j : Nat} (h : j < 64) : xs 15 j := Or.inl ⟨Or.inl rfl, h⟩
theorem sd_x16 {j : Nat} (h : j < 64) : xs 16 j := Or.inl ⟨Or.inr (Or.inl rfl), h⟩
theorem sd_x30 {j : Nat} (h : j < 64) : xs 30 j := Or.inl ⟨Or.inr (Or.inr (Or.inl rfl)), h⟩
theorem sd_x31 {j : Nat} (h : j < 64) : xs 31 j := Or.inl ⟨Or.inr (Or.inr (Or.inr (Or.inl rfl))), h⟩
theorem sd_x45 {j : Nat} (h : j < 64) : xs 45 j := Or.inl ⟨Or.inr (Or.inr (Or.inr (Or.inr (Or.inl rfl)))), h⟩
theorem sd_x46 {j : Nat} (h : j < 64) : xs 46 j := Or.inl ⟨Or.inr (Or.inr (Or.inr (Or.inr (Or.inr rfl)))), h⟩
theorem sd_x95 {j : Nat} (h1 : 232 ≤ j) (h2 : j < 474) : xs 95 j := Or.inr (Or.inl ⟨rfl, h1, h2⟩)
theorem sd_x97 {j : Nat} (h : j < 948) : xs 97 j := Or.inr (Or.inr (Or.inl ⟨rfl, h⟩))
/-- where all of a studio's places are as they were -/
theorem sb_3 {σ σ' : ab_SG} (h : ∀ k j : Nat, xs k j → (k = 3 ∨ k = 14 ∨ k = 15 ∨ k = 16 ∨ k = 95) → σ' k j = σ k j) (H : sb σ 3 (σ 95)) : sb σ' 3 (σ' 95) := sb_mv (fun j hj => h 15 j (sd_x15 hj) (by decide)) (fun j hj => h 16 j (sd_x16 hj) (by decide)) (h 14 3 (sd_xL (by decide)) (by decide)) (h 14 4 (sd_xL (by decide)) (by decide)) (fun j hj => h 3 j (sd_c3 hj) (by decide)) (fun j h1 h2 => h 95 j (sd_x95 h1 h2) (by decide)) H
theorem sb_18 {σ σ' : ab_SG} (h : ∀ k j : Nat, xs k j → (k = 18 ∨ k = 29 ∨ k = 30 ∨ k = 31) → σ' k j = σ k j) (hr : ∀ j : Nat, j < 474 → σ' 97 j = σ 97 j) (H : σ 18 16 = 1 → sb σ 18 (σ 97)) : σ' 18 16 = 1 → sb σ' 18 (σ' 97) := fun z => sb_mv (fun j hj => h 30 j (sd_x30 hj) (by decide)) (fun j hj => h 31 j (sd_x31 hj) (by decide)) (h 29 3 (sd_xL (by decide)) (by decide)) (h 29 4 (sd_xL (by decide)) (by decide)) (fun j hj => h 18 j (sd_c18 hj) (by decide)) (fun j _ h2 => hr j h2) (H ((h 18 16 (sd_xL (by decide)) (by decide)).symm.trans z))
theorem sb_33 {σ σ' : ab_SG} (h : ∀ k j : Nat, xs k j → (k = 33 ∨ k = 44 ∨ k = 45 ∨ k = 46) → σ' k j = σ k j) (hr : ∀ j : Nat, j < 474 → σ' 97 (474 + j) = σ 97 (474 + j)) (H : σ 33 16 = 1 → sb σ 33 (fun j => σ 97 (474 + j))) : σ' 33 16 = 1 → sb σ' 33 (fun j => σ' 97 (474 + j)) := fun z => sb_mv (fun j hj => h 45 j (sd_x45 hj) (by decide)) (fun j hj => h 46 j (sd_x46 hj) (by decide)) (h 44 3 (sd_xL (by decide)) (by decide)) (h 44 4 (sd_xL (by decide)) (by decide)) (fun j hj => h 33 j (sd_c33 hj) (by decide)) (fun j _ h2 => hr j h2) (H ((h 33 16 (sd_xL (by decide)) (by decide)).symm.trans z))
theorem EX_cg {σ σ' : ab_SG} (h : ∀ k j : Nat, xs k j → σ' k j = σ k j) (hE : EX σ) : EX σ' := ⟨sb_3 (fun k j hs _ => h k j hs) hE.1, sb_18 (fun k j hs _ => h k j hs) (fun j hj => h 97 j (sd_x97 (by omega))) hE.2.1, sb_33 (fun k j hs _ => h k j hs) (fun j hj => h 97 (474 + j) (sd_x97 (by omega))) hE.2.2⟩
/-- what one side answers is what the other one does -/
theorem v_said_cg {A : ab_SG} {R R' : Nat → Int} (h : ∀ j : Nat, 232 ≤ j → j < 474 → R' j = R j) {L : sl_T} (hE : R 232 = 0 ∨ rp (fun j => R (234 + j)) 60 20 (R 233) L) (k : Int) : v_said A (R' 232) (fun j => R' (234 + j)) (R' 233) k = v_said A (R 232) (fun j => R (234 + j)) (R 233) k := by
  unfold v_said
  rw [h 232 (by decide) (by decide), h 233 (by decide) (by decide)]
  rcases hE with e | p
  · rw [if_pos e, if_pos e]
  · have g : ∀ (y hh : Nat) (t : Int) (L : sl_T), rp (fun j => R (234 + j)) 60 hh t L → tv A (fun j => R' (234 + j)) y hh t = tv A (fun j => R (234 + j)) y hh t := by
      intro y hh
      induction hh with
      | zero => exact fun t L H => absurd H (fun z => z)
      | succ hh ih =>
        intro t L H
        rw [rp_s] at H
        obtain ⟨b, H⟩ := H
        have f : ∀ i : Nat, i < 4 → (fun j => R' (234 + j)) (4 * t.toNat + i) = (fun j => R (234 + j)) (4 * t.toNat + i) := fun i hi => h (234 + (4 * t.toNat + i)) (by omega) (by omega)
        have f0 : (fun j => R' (234 + j)) (4 * t.toNat) = (fun j => R (234 + j)) (4 * t.toNat) := f 0 (by decide)
        have en : ns (fun j => R' (234 + j)) t = ns (fun j => R (234 + j)) t := by
          unfold ns
          rw [f0, f 1 (by decide), f 2 (by decide), f 3 (by decide)]
        have g0 : R' (234 + 4 * t.toNat) = R (234 + 4 * t.toNat) := f0
        have g1 : R' (234 + (4 * t.toNat + 1)) = R (234 + (4 * t.toNat + 1)) := f 1 (by decide)
        have g2 : R' (234 + (4 * t.toNat + 2)) = R (234 + (4 * t.toNat + 2)) := f 2 (by decide)
        rw [tv_s, tv_s, en, g0, g1, g2]
        rcases H with ⟨a, L1, H1, -⟩ | ⟨a, L1, L2, H1, H2, -⟩ | ⟨a, L1, L2, H1, H2, -⟩ | ⟨w, hw, a, -⟩ | ⟨w, r, hw, -, a, -⟩
        · rw [if_pos a, if_pos a, ih _ L1 H1]
        · rw [if_neg (by rw [a]; decide), if_pos a, if_neg (by rw [a]; decide), if_pos a, ih _ L1 H1, ih _ L2 H2]
        · rw [if_neg (by rw [a]; decide), if_neg (by rw [a]; decide), if_pos a, if_neg (by rw [a]; decide), if_neg (by rw [a]; decide), if_pos a, ih _ L1 H1, ih _ L2 H2]
        · have n1 : ¬ R (234 + 4 * t.toNat) = 1 := fun z => by rw [show R (234 + 4 * t.toNat) = _ from a] at z; omega
          have n2 : ¬ R (234 + 4 * t.toNat) = 2 := fun z => by rw [show R (234 + 4 * t.toNat) = _ from a] at z; omega
          have n3 : ¬ R (234 + 4 * t.toNat) = 3 := fun z => by rw [show R (234 + 4 * t.toNat) = _ from a] at z; omega
          rw [if_neg n1, if_neg n2, if_neg n3, if_neg n1, if_neg n2, if_neg n3]
        · have n1 : ¬ R (234 + 4 * t.toNat) = 1 := fun z => by rw [show R (234 + 4 * t.toNat) = _ from a] at z; omega
          have n2 : ¬ R (234 + 4 * t.toNat) = 2 := fun z => by rw [show R (234 + 4 * t.toNat) = _ from a] at z; omega
          have n3 : ¬ R (234 + 4 * t.toNat) = 3 := fun z => by rw [show R (234 + 4 * t.toNat) = _ from a] at z; omega
          rw [if_neg n1, if_neg n2, if_neg n3, if_neg n1, if_neg n2, if_neg n3]
    have e : (fun y => tv A (fun j => R' (234 + j)) y 20 (R 233)) = (fun y => tv A (fun j => R (234 + j)) y 20 (R 233)) := funext fun y => g y 20 (R 233) L p
    rw [e]
theorem EX_own {A σ σ3 : ab_SG} (hE : EX σ) (h3 : ∀ k j : Nat, xs k j → σ3 k j = σ k j) (k : Int) : v_said A (σ 95 232) (fun j => σ 95 (234 + j)) (σ 95 233) k = v_said A (σ3 95 232) (fun j => σ3 95 (234 + j)) (σ3 95 233) k := by
  rcases hE.1 with ⟨a, -⟩ | ⟨-, -, L, -, -, -, p⟩
  · exact (v_said_cg (R := σ 95) (R' := σ3 95) (L := []) (fun j h1 h2 => h3 95 j (sd_x95 h1 h2)) (Or.inl a) k).symm
  · exact (v_said_cg (R := σ 95) (R' := σ3 95) (L := L) (fun j h1 h2 => h3 95 j (sd_x95 h1 h2)) (Or.inr p) k).symm
/-- what the two calls ask -/
theorem EX_sc {A σ : ab_SG} (hE : EX σ) (hN : NC σ A) {k : Int} {K : fw_KR} (ck : fw_c k = k) (h : ∀ σ' : ab_SG, ab_okM [(17, 1000000)] σ σ' → K (some (0, 0, v_said A (σ 95 232) (fun j => σ 95 (234 + j)) (σ 95 233) k)) σ') : sp_said [(2, 0, 0), (0, 0, k)] σ K := by
  have n := NC_n hN
  rcases hE.1 with ⟨a, b⟩ | ⟨a, b, L, l, r, v, p⟩
  · exact ⟨A, _, _, _, k, [], rfl, ck, hN, Or.inl ⟨a, b⟩, h⟩
  · exact ⟨A, _, _, _, k, L, rfl, ck, hN, Or.inr ⟨a, b, l, r, fun q hq => vs_cg (B := A) (A := fun _ j => σ 3 j) n.1.symm n.2.1.symm n.2.2.symm (v q hq), p⟩, h⟩
theorem EX_sm {A σ σ3 : ab_SG} (hE : EX σ) (hN : NC σ A) (hM : NM σ3 A) (h3 : ∀ k j : Nat, xs k j → σ3 k j = σ k j) {k : Int} {K : fw_KR} (ck : fw_c k = k) (h : K (some (0, 0, v_said A (σ3 95 232) (fun j => σ3 95 (234 + j)) (σ3 95 233) k)) (ab_ups σ3 93 0 0)) : sp_m_said [(2, 93, 0), (0, 0, k)] σ3 K := by
  have n := NC_n hN
  have e : ∀ j : Nat, 232 ≤ j → j < 474 → σ3 95 j = σ 95 j := fun j h1 h2 => h3 95 j (sd_x95 h1 h2)
  rcases hE.1 with ⟨a, b⟩ | ⟨a, b, L, l, r, v, p⟩
  · exact ⟨A, k, [], rfl, ck, hM, Or.inl ((e 232 (by decide) (by decide)).trans a), h⟩
  · refine ⟨A, k, L, rfl, ck, hM, Or.inr ⟨(e 232 (by decide) (by decide)).trans a, fun q hq => vs_cg (B := A) (A := fun _ j => σ 3 j) n.1.symm n.2.1.symm n.2.2.symm (v q hq), ?_⟩, h⟩
    rw [e 233 (by decide) (by decide)]
    exact rp_mono (Int.le_refl 60) (fun j hj => e (234 + j) (by omega) (by omega)) 20 20 _ L (Nat.le_refl 20) p
/-- rows that nothing speaks of -/
def sd_fr : List Nat := [1, 2, 3, 18, 33, 85, 93, 94, 95, 97, 102] ++ (sw_T.map (fun q => q.1) ++ sw_L.map (fun q => q.1))
theorem sd_free {M : ab_ML} {σ σ1 σm : ab_SG} (hm : M.all (fun q => sd_fr.all (fun k => !(q.1.beq k))) = true) (h1 : ab_okM M σ σ1) (hv : vW σm σ1) : vW σm σ := by
  have e : ∀ k j : Nat, k ∈ sd_fr → σ1 k j = σ k j := fun k j hk => h1 k j (fun q hq hh => by
    have g := List.all_eq_true.mp (List.all_eq_true.mp hm q hq) k hk
    rw [hh.1, show k.beq k = true from Nat.beq_refl k] at g
    cases g)
  have hT : ∀ q ∈ sw_T, q.1 ∈ sd_fr := fun q hq => List.mem_append_right _ (List.mem_append_left _ (List.mem_map.mpr ⟨q, hq, rfl⟩))
  have hL : ∀ q ∈ sw_L, q.1 ∈ sd_fr := fun q hq => List.mem_append_right _ (List.mem_append_right _ (List.mem_map.mpr ⟨q, hq, rfl⟩))
  have c : ∀ k : Nat, k ∈ [1, 2, 3, 18, 33, 85, 93, 94, 95, 97, 102] → k ∈ sd_fr := fun k hk => List.mem_append_left _ hk
  have su_in : ∀ k j : Nat, su k j → k ∈ sd_fr := by
    intro k j h
    unfold su at h
    rcases h with h | h | h | h | h | h | h | h | h | h <;> (rw [h.1]; exact c _ (by decide))
  have sw_in : ∀ k j : Nat, sw k j → k ∈ sd_fr := by
    intro k j h
    rcases h with ⟨q, hq, rfl, -⟩ | ⟨rfl, -⟩ | ⟨rfl, -⟩
    · exact hT q hq
    · exact c _ (by decide)
    · exact c _ (by decide)
  refine ⟨fun k j hs => ?_, fun k j hs => ?_⟩
  · rw [hv.1 k j hs, e k j (hs.elim (su_in k j) (sw_in k j))]
  · obtain ⟨q, hq, rfl, hj⟩ := hs
    rw [hv.2 _ j ⟨q, hq, rfl, hj⟩, e _ j (hL q hq)]
theorem vW_sd {σ σ1 σm : ab_SG} (hc : cN σ) (h1 : ab_okM [(17, 1000000)] σ σ1) (hv : vW σm σ1) : vW σm σ := sd_free (by decide +kernel) h1 hv
theorem RQ_sd {σ σ1 σm σ2 σ5 : ab_SG} (hc : cN σ) (hR : RQ σ) (h1 : ab_okM [(17, 1000000)] σ σ1) (hv : vW σm σ1) (h2 : ab_okM [(93, 0)] σm σ2) (hw : vW σ5 σ2) : RQ σ5 :=
  ⟨RQ9_tr (vw_W hw) ⟨ra_two (cn_N hc) h1 (vw_W hv) h2 (by decide) (by decide) hR.1.1, rb_two (cn_N hc) h1 (vw_W hv) h2 (by decide) (by decide) hR.1.2.1, rk_two (cn_N hc) h1 (vw_W hv) h2 (by decide) (by decide) hR.1.2.2⟩, rx_two hc h1 hv h2 hw (by decide +kernel) (by decide +kernel) hR.2⟩
theorem sd_ap {M N : ab_ML} {σ σ1 σ2 : ab_SG} (h1 : ab_okM M σ σ1) (h2 : ab_okM N σ1 σ2) : ab_okM (M ++ N) σ σ2 := fun a b q => (h2 a b (fun r hr => q r (List.mem_append_right M hr))).trans (h1 a b (fun r hr => q r (List.mem_append_left N hr)))
/-- what neither call writes; what the class's alone does -/
theorem sd_st {σ σ1 σm σ2 σ5 : ab_SG} {M N : ab_ML} {p p' : Nat → Bool} (hn : ∀ k j : Nat, xs k j → fw_c (σ k j) = σ k j) (hn3 : ∀ k j : Nat, xs k j → fw_c (σm k j) = σm k j) (g : ab_okM M σ σ1) (hk : xs_p p M = true) (x3 : ∀ k j : Nat, xs k j → σm k j = fw_c (σ1 k j)) (q : ab_okM N σm σ2) (hk' : xs_p p' N = true) (x5 : ∀ k j : Nat, xs k j → σ5 k j = fw_c (σ2 k j)) : ∀ k j : Nat, xs k j → p k = false → p' k = false → σ5 k j = σ k j := fun k j hs h1 h2 => by
  rw [x5 k j hs, xs_bt q hk' hs h2, hn3 k j hs, x3 k j hs, xs_bt g hk hs h1, hn k j hs]
theorem sd_cl {σ σ1 σm σ2 σ5 : ab_SG} {N : ab_ML} {p' : Nat → Bool} (hn3 : ∀ k j : Nat, xs k j → fw_c (σm k j) = σm k j) (x3 : ∀ k j : Nat, xs k j → σm k j = fw_c (σ1 k j)) (q : ab_okM N σm σ2) (hk' : xs_p p' N = true) (x5 : ∀ k j : Nat, xs k j → σ5 k j = fw_c (σ2 k j)) : ∀ k j : Nat, xs k j → p' k = false → σ5 k j = fw_c (σ1 k j) := fun k j hs h2 => by
  rw [x5 k j hs, xs_bt q hk' hs h2, hn3 k j hs, x3 k j hs]
theorem sd_mi {σ σ1 σm : ab_SG} {M : ab_ML} {p : Nat → Bool} (hn : ∀ k j : Nat, xs k j → fw_c (σ k j) = σ k j) (g : ab_okM M σ σ1) (hk : xs_p p M = true) (x3 : ∀ k j : Nat, xs k j → σm k j = fw_c (σ1 k j)) : ∀ k j : Nat, xs k j → p k = false → σm k j = σ k j := fun k j hs h1 => by
  rw [x3 k j hs, xs_bt g hk hs h1, hn k j hs]
def sd_p95 (k : Nat) : Bool := k.beq 95
def sd_p97 (k : Nat) : Bool := k.beq 97
def sd_p3 (k : Nat) : Bool := k.beq 3 || (k.beq 14 || (k.beq 15 || k.beq 16))
def sd_p18 (k : Nat) : Bool := k.beq 18 || (k.beq 29 || (k.beq 30 || k.beq 31))
def sd_p33 (k : Nat) : Bool := k.beq 33 || (k.beq 44 || (k.beq 45 || k.beq 46))
theorem sd_ksz : xs_p sd_p3 sz_M = true := by decide +kernel
theorem sd_ksl : xs_p sd_p95 sl_N = true := by decide +kernel
theorem sd_ksv : xs_b sv_M = true := by decide +kernel
theorem sd_ksN : xs_b sM_N = true := by decide +kernel
/-- others than the studio now -/
theorem sd_ot {σ σ1 σm σ2 σ5 : ab_SG} {M N : ab_ML} (hE : EX σ) (hn : ∀ k j : Nat, xs k j → fw_c (σ k j) = σ k j) (hn3 : ∀ k j : Nat, xs k j → fw_c (σm k j) = σm k j) (g : ab_okM M σ σ1) (hk : xs_p sd_p3 M = true) (x3 : ∀ k j : Nat, xs k j → σm k j = fw_c (σ1 k j)) (q : ab_okM N σm σ2) (hk' : xs_p sd_p95 N = true) (x5 : ∀ k j : Nat, xs k j → σ5 k j = fw_c (σ2 k j)) : (σ5 18 16 = 1 → sb σ5 18 (σ5 97)) ∧ (σ5 33 16 = 1 → sb σ5 33 (fun j => σ5 97 (474 + j))) := by
  have t := sd_st hn hn3 g hk x3 q hk' x5
  refine ⟨sb_18 (fun k j hs hh => ?_) (fun j hj => t 97 j (sd_x97 (by omega)) rfl rfl) hE.2.1, sb_33 (fun k j hs hh => ?_) (fun j hj => t 97 (474 + j) (sd_x97 (by omega)) rfl rfl) hE.2.2⟩
  · rcases hh with rfl | rfl | rfl | rfl <;> exact t _ _ hs rfl rfl
  · rcases hh with rfl | rfl | rfl | rfl <;> exact t _ _ hs rfl rfl
/-- a sentence -/
theorem EX_se {A : ab_SG} {σ σ1 σm σ2 σ5 : ab_SG} (hE : EX σ) (hA : NC σ A) (hn : ∀ k j : Nat, xs k j → fw_c (σ k j) = σ k j) (hn3 : ∀ k j : Nat, xs k j → fw_c (σm k j) = σm k j) (c : k_sentence A σ σ1) (x3 : ∀ k j : Nat, xs k j → σm k j = fw_c (σ1 k j)) (r : km_sentence A (sq_o σ) σm σ2) (x5 : ∀ k j : Nat, xs k j → σ5 k j = fw_c (σ2 k j)) : EX σ5 := by
  obtain ⟨c1, -, -, c⟩ := c
  obtain ⟨r1, -, -, -, r⟩ := r
  rcases c with ⟨q, c⟩ | ⟨q, c⟩
  · rcases r with ⟨-, r⟩ | ⟨q2, -⟩
    · exact EX_cg (fun k j hs => by rw [x5 k j hs, xs_ok r sd_ksN hs, hn3 k j hs, x3 k j hs, xs_ok c sd_ksv hs, hn k j hs]) hE
    · exact absurd q2 q
  · rcases r with ⟨q2, -⟩ | ⟨-, r⟩
    · exact absurd q q2
    · have n := NC_n hA
      have nn := N_n hA.1
      have lr := sl_r_ok A (sq_o σ) ⟨nn.1.1, nn.2.1.1, nn.2.2.1⟩ q
      have n20 := sn_r_20 A (sq_o σ) q
      have vc : ∀ x ∈ sl_r A (sq_o σ), fw_c x.1 = x.1 ∧ fw_c x.2 = x.2 := fun x hx => vs_c nn (lr.2.1 x hx)
      have y := sd_cl (σ := σ) hn3 x3 (sl_ok r1) sd_ksl x5
      obtain ⟨⟨o4, o3⟩, ro⟩ := c
      obtain ⟨m1, mp⟩ := r
      have lr1 := lr.1
      have lr3 := lr.2.2
      have e3 : ∀ j : Nat, (j = 11 ∨ j = 12 ∨ j = 13) → σ5 3 j = σ 3 j := fun j hj => by
        rw [y 3 j (sd_c3 hj) rfl, mk_at c1 (k := 3) (j := j) (by rcases hj with rfl | rfl | rfl <;> decide +kernel), hn 3 j (sd_c3 hj)]
      refine ⟨Or.inr ⟨?_, ⟨?_, ?_⟩, sl_r A (sq_o σ), ⟨?_, by omega⟩, fun i hi => ?_, fun x hx => vs_cg (A := A) (B := fun _ j => σ5 3 j) ((e3 11 (Or.inl rfl)).trans n.1) ((e3 12 (Or.inr (Or.inl rfl))).trans n.2.1) ((e3 13 (Or.inr (Or.inr rfl))).trans n.2.2) (lr.2.1 x hx), ?_⟩, sd_ot hE hn hn3 c1 sd_ksz x3 (sl_ok r1) sd_ksl x5⟩
      · rw [x5 95 232 (sd_x95 (by decide) (by decide)), m1]
        exact fw_c1
      · show 1 ≤ σ5 14 4
        rw [y 14 4 (sd_xL (by decide)) rfl, o4, fw_s (by omega) (by omega)]
        omega
      · show σ5 14 4 ≤ 20
        rw [y 14 4 (sd_xL (by decide)) rfl, o4, fw_s (by omega) (by omega)]
        omega
      · show σ5 14 3 = _
        rw [y 14 3 (sd_xL (by decide)) rfl, o3]
        exact fw_s (by omega) (by omega)
      · show _ = some (σ5 15 i, σ5 16 i)
        have g := ro i hi
        have v := vc _ (List.mem_of_getElem? g)
        rw [y 15 i (sd_x15 (by omega)) rfl, y 16 i (sd_x16 (by omega)) rfl, show fw_c (σ1 15 i) = σ1 15 i from v.1, show fw_c (σ1 16 i) = σ1 16 i from v.2]
        exact g
      · have bd := rp_bd mp
        have ef : σ5 95 233 = σ2 95 233 := by
          rw [x5 95 233 (sd_x95 (by decide) (by decide))]
          exact fw_s (by omega) (by omega)
        rw [ef]
        exact rp_mono (Int.le_refl 60) (fun j hj => x5 95 (234 + j) (sd_x95 (by omega) (by omega))) 20 20 _ _ (Nat.le_refl 20) (rp_fc (Int.le_refl 60) 20 _ _ (fun x hx => (vc x hx).2) mp)
theorem sd_kss : xs_p sd_p3 ss_M = true := by decide +kernel
theorem sd_kms : xs_p sd_p95 ms_M = true := by decide +kernel
theorem sd_ksf : xs_b sf_M = true := by decide +kernel
theorem sd_kmf : xs_b mf_M = true := by decide +kernel
theorem EX_nw {A A2 : ab_SG} {σ σ1 σm σ2 σ5 : ab_SG} (hE : EX σ) (hn : ∀ k j : Nat, xs k j → fw_c (σ k j) = σ k j) (hn3 : ∀ k j : Nat, xs k j → fw_c (σm k j) = σm k j) (c : cs_ok σ σ1 A) (x3 : ∀ k j : Nat, xs k j → σm k j = fw_c (σ1 k j)) (r : ms_ok σm σ2 A2) (x5 : ∀ k j : Nat, xs k j → σ5 k j = fw_c (σ2 k j)) : EX σ5 := by
  obtain ⟨g2, -, -, -, -, -, -, -, -, -, c4⟩ := c
  obtain ⟨q1, -, -, -, -, -, -, -, r0, -, -⟩ := r
  refine ⟨Or.inl ⟨?_, ?_⟩, sd_ot hE hn hn3 g2 sd_kss x3 q1 sd_kms x5⟩
  · rw [x5 95 232 (sd_x95 (by decide) (by decide)), r0 232 (by decide) (by decide)]
    exact fw_c0
  · show σ5 14 4 = 0
    rw [sd_cl (σ := σ) hn3 x3 q1 sd_kms x5 14 4 (sd_xL (by decide)) rfl, c4]
    exact fw_c0
theorem EX_mu {σ σ1 σm σ2 σ5 : ab_SG} (hE : EX σ) (hn : ∀ k j : Nat, xs k j → fw_c (σ k j) = σ k j) (hn3 : ∀ k j : Nat, xs k j → fw_c (σm k j) = σm k j) (c : ∀ k j : Nat, xs k j → σ1 k j = σ k j) (x3 : ∀ k j : Nat, xs k j → σm k j = fw_c (σ1 k j)) (r : ∀ k j : Nat, xs k j → σ2 k j = σm k j) (x5 : ∀ k j : Nat, xs k j → σ5 k j = fw_c (σ2 k j)) : EX σ5 := EX_cg (fun k j hs => by rw [x5 k j hs, r k j hs, hn3 k j hs, x3 k j hs, c k j hs, hn k j hs]) hE
theorem EX_sd {A : ab_SG} {σ σ1 σm σ2 σ5 : ab_SG} (hE : EX σ) (hn : ∀ k j : Nat, xs k j → fw_c (σ k j) = σ k j) (hn3 : ∀ k j : Nat, xs k j → fw_c (σm k j) = σm k j) (hc : cN σ) (hR : RQ σ) (h1 : k_studio A σ σ1) (hv : vW σm σ1) (x3 : ∀ k j : Nat, xs k j → σm k j = fw_c (σ1 k j)) (h2 : km_studio A (tp_t σ) σm σ2) (x5 : ∀ k j : Nat, xs k j → σ5 k j = fw_c (σ2 k j)) : EX σ5 := by
  have e2 : σm 93 2 = σ 93 2 := mid_studio (cn_N hc) h1 (vw_W hv) (su93 (Or.inl rfl)) (by decide) (by decide)
  have r1 : σ 1 1 = σ 93 2 := hR.1.1.1
  obtain ⟨-, -, h1⟩ := h1
  unfold km_studio at h2
  rw [e2, ← r1] at h2
  rcases h1 with ⟨g1, g2, -⟩ | ⟨g1, g2⟩
  · rcases h2 with ⟨-, q2, -, -⟩ | ⟨q1, -⟩
    · exact EX_mu hE hn hn3 (fun k j hs => xs_ok g2 sd_ksf hs) x3 (fun k j hs => xs_ok q2 sd_kmf hs) x5
    · exact absurd q1 g1
  · rcases h2 with ⟨q1, -⟩ | ⟨-, q2⟩
    · exact absurd g1 q1
    · exact EX_nw hE hn hn3 g2 x3 q2 x5
theorem sd_klm : xs_b lm_M = true := by decide +kernel
theorem sd_ku0 : xs_b [(93, 0)] = true := by decide +kernel
def kp_M : ab_ML := [(97, 1000000), (101, 1000000), (102, 1000000)]
def tb_M : ab_ML := [(93, 0), (93, 24), (95, 1000000), (99, 1000000)]
theorem sd_klk : xs_p sd_p97 (lm_M ++ kp_M) = true := by decide +kernel
theorem sd_ktb : xs_p sd_p95 tb_M = true := by decide +kernel
theorem sd_kre : xs_p sd_p3 re_M = true := by decide +kernel
theorem sd_kim18 : xs_p sd_p18 (im_M 18) = true := by decide +kernel
theorem EX_im18 {σ σ1 σm σ2 σ5 : ab_SG} {t1 : ab_SG} (hE : EX σ) (hn : ∀ k j : Nat, xs k j → fw_c (σ k j) = σ k j) (hn3 : ∀ k j : Nat, xs k j → fw_c (σm k j) = σm k j) (g2 : ab_okM (im_M 18) σ σ1) (g3 : cy_is σ σ1 3 18) (x3 : ∀ k j : Nat, xs k j → σm k j = fw_c (σ1 k j)) (q1 : ab_okM lm_M σm t1) (q3 : kp_is t1 σ2 0) (x5 : ∀ k j : Nat, xs k j → σ5 k j = fw_c (σ2 k j)) : EX σ5 := by
  obtain ⟨-, -, -, -, -, -, -, -, -, -, ⟨s1, s2, s3, s4⟩, c11, c12, c13, -, -⟩ := g3
  have q30 : ab_okM kp_M t1 σ2 := q3.1
  have qq : ab_okM (lm_M ++ kp_M) σm σ2 := sd_ap q1 q30
  have t := sd_st hn hn3 g2 sd_kim18 x3 qq sd_klk x5
  have y := sd_cl (σ := σ) hn3 x3 qq sd_klk x5
  have m := sd_mi hn g2 sd_kim18 x3
  refine ⟨sb_3 (fun k j hs hh => ?_) hE.1, fun _ => ?_, sb_33 (fun k j hs hh => ?_) (fun j hj => ?_) hE.2.2⟩
  · rcases hh with rfl | rfl | rfl | rfl | rfl <;> exact t _ _ hs rfl rfl
  · refine sb_mv (σ := σ) (b := 3) (R := σ 95) (fun j hj => ?_) (fun j hj => ?_) ?_ ?_ (fun j hj => ?_) (fun j h1 h2 => ?_) hE.1
    · show σ5 30 j = σ 15 j
      rw [y 30 j (sd_x30 hj) rfl, show σ1 30 j = fw_c (σ 15 j) from s1 j hj, fw_c_c, hn 15 j (sd_x15 hj)]
    · show σ5 31 j = σ 16 j
      rw [y 31 j (sd_x31 hj) rfl, show σ1 31 j = fw_c (σ 16 j) from s2 j hj, fw_c_c, hn 16 j (sd_x16 hj)]
    · show σ5 29 3 = σ 14 3
      rw [y 29 3 (sd_xL (by decide)) rfl, show σ1 29 3 = fw_c (σ 14 3) from s3, fw_c_c, hn 14 3 (sd_xL (by decide))]
    · show σ5 29 4 = σ 14 4
      rw [y 29 4 (sd_xL (by decide)) rfl, show σ1 29 4 = fw_c (σ 14 4) from s4, fw_c_c, hn 14 4 (sd_xL (by decide))]
    · rw [y 18 j (sd_c18 hj) rfl]
      rcases hj with rfl | rfl | rfl
      · rw [c11, fw_c_c, hn 3 11 (sd_xL (by decide))]
      · rw [c12, fw_c_c, hn 3 12 (sd_xL (by decide))]
      · rw [c13, fw_c_c, hn 3 13 (sd_xL (by decide))]
    · have k1 : σ2 97 j = fw_c (t1 95 j) := by
        have z := q3.2.1 j h2
        rw [show 474 * 0 + j = j by omega] at z
        exact z
      show σ5 97 j = σ 95 j
      rw [x5 97 _ (sd_x97 (by omega)), k1, fw_c_c, xs_ok q1 sd_klm (sd_x95 h1 h2), hn3 95 j (sd_x95 h1 h2), m 95 j (sd_x95 h1 h2) rfl]
  · rcases hh with rfl | rfl | rfl | rfl <;> exact t _ _ hs rfl rfl
  · have z : σ2 97 (474 + j) = t1 97 (474 + j) := q3.2.2.2.1 _ (by omega)
    rw [x5 97 _ (sd_x97 (by omega)), z, xs_ok q1 sd_klm (sd_x97 (by omega)), hn3 97 _ (sd_x97 (by omega)), m 97 _ (sd_x97 (by omega)) rfl]
theorem EX_rs18 {σ σ1 σm σ2 σ5 : ab_SG} (hE : EX σ) (hn : ∀ k j : Nat, xs k j → fw_c (σ k j) = σ k j) (hn3 : ∀ k j : Nat, xs k j → fw_c (σm k j) = σm k j) (gB : σ 18 16 = 1) (g2 : ab_okM re_M σ σ1) (g3 : cy_is σ σ1 18 3) (x3 : ∀ k j : Nat, xs k j → σm k j = fw_c (σ1 k j)) (q3 : tb_is σm σ2 0) (x5 : ∀ k j : Nat, xs k j → σ5 k j = fw_c (σ2 k j)) : EX σ5 := by
  obtain ⟨-, -, -, -, -, -, -, -, -, -, ⟨s1, s2, s3, s4⟩, c11, c12, c13, -, -⟩ := g3
  have q30 : ab_okM tb_M σm σ2 := q3.1
  have y := sd_cl (σ := σ) hn3 x3 q30 sd_ktb x5
  have m := sd_mi hn g2 sd_kre x3
  refine ⟨sb_mv (σ := σ) (b := 18) (R := σ 97) (fun j hj => ?_) (fun j hj => ?_) ?_ ?_ (fun j hj => ?_) (fun j h1 h2 => ?_) (hE.2.1 gB), sd_ot hE hn hn3 g2 sd_kre x3 q30 sd_ktb x5⟩
  · show σ5 15 j = σ 30 j
    rw [y 15 j (sd_x15 hj) rfl, show σ1 15 j = fw_c (σ 30 j) from s1 j hj, fw_c_c, hn 30 j (sd_x30 hj)]
  · show σ5 16 j = σ 31 j
    rw [y 16 j (sd_x16 hj) rfl, show σ1 16 j = fw_c (σ 31 j) from s2 j hj, fw_c_c, hn 31 j (sd_x31 hj)]
  · show σ5 14 3 = σ 29 3
    rw [y 14 3 (sd_xL (by decide)) rfl, show σ1 14 3 = fw_c (σ 29 3) from s3, fw_c_c, hn 29 3 (sd_xL (by decide))]
  · show σ5 14 4 = σ 29 4
    rw [y 14 4 (sd_xL (by decide)) rfl, show σ1 14 4 = fw_c (σ 29 4) from s4, fw_c_c, hn 29 4 (sd_xL (by decide))]
  · rw [y 3 j (sd_c3 hj) rfl]
    rcases hj with rfl | rfl | rfl
    · rw [c11, fw_c_c, hn 18 11 (sd_xL (by decide))]
    · rw [c12, fw_c_c, hn 18 12 (sd_xL (by decide))]
    · rw [c13, fw_c_c, hn 18 13 (sd_xL (by decide))]
  · have k1 : σ2 95 j = fw_c (σm 97 j) := by
      have z := q3.2.1 j h2
      rw [show 474 * 0 + j = j by omega] at z
      exact z
    show σ5 95 j = σ 97 j
    rw [x5 95 j (sd_x95 h1 h2), k1, fw_c_c, hn3 97 _ (sd_x97 (by omega)), m 97 _ (sd_x97 (by omega)) rfl]
theorem sd_kim33 : xs_p sd_p33 (im_M 33) = true := by decide +kernel
theorem EX_im33 {σ σ1 σm σ2 σ5 : ab_SG} {t1 : ab_SG} (hE : EX σ) (hn : ∀ k j : Nat, xs k j → fw_c (σ k j) = σ k j) (hn3 : ∀ k j : Nat, xs k j → fw_c (σm k j) = σm k j) (g2 : ab_okM (im_M 33) σ σ1) (g3 : cy_is σ σ1 3 33) (x3 : ∀ k j : Nat, xs k j → σm k j = fw_c (σ1 k j)) (q1 : ab_okM lm_M σm t1) (q3 : kp_is t1 σ2 1) (x5 : ∀ k j : Nat, xs k j → σ5 k j = fw_c (σ2 k j)) : EX σ5 := by
  obtain ⟨-, -, -, -, -, -, -, -, -, -, ⟨s1, s2, s3, s4⟩, c11, c12, c13, -, -⟩ := g3
  have q30 : ab_okM kp_M t1 σ2 := q3.1
  have qq : ab_okM (lm_M ++ kp_M) σm σ2 := sd_ap q1 q30
  have t := sd_st hn hn3 g2 sd_kim33 x3 qq sd_klk x5
  have y := sd_cl (σ := σ) hn3 x3 qq sd_klk x5
  have m := sd_mi hn g2 sd_kim33 x3
  refine ⟨sb_3 (fun k j hs hh => ?_) hE.1, sb_18 (fun k j hs hh => ?_) (fun j hj => ?_) hE.2.1, fun _ => ?_⟩
  · rcases hh with rfl | rfl | rfl | rfl | rfl <;> exact t _ _ hs rfl rfl
  · rcases hh with rfl | rfl | rfl | rfl <;> exact t _ _ hs rfl rfl
  · have z : σ2 97 j = t1 97 j := q3.2.2.2.1 _ (by omega)
    rw [x5 97 _ (sd_x97 (by omega)), z, xs_ok q1 sd_klm (sd_x97 (by omega)), hn3 97 _ (sd_x97 (by omega)), m 97 _ (sd_x97 (by omega)) rfl]
  · refine sb_mv (σ := σ) (b := 3) (R := σ 95) (fun j hj => ?_) (fun j hj => ?_) ?_ ?_ (fun j hj => ?_) (fun j h1 h2 => ?_) hE.1
    · show σ5 45 j = σ 15 j
      rw [y 45 j (sd_x45 hj) rfl, show σ1 45 j = fw_c (σ 15 j) from s1 j hj, fw_c_c, hn 15 j (sd_x15 hj)]
    · show σ5 46 j = σ 16 j
      rw [y 46 j (sd_x46 hj) rfl, show σ1 46 j = fw_c (σ 16 j) from s2 j hj, fw_c_c, hn 16 j (sd_x16 hj)]
    · show σ5 44 3 = σ 14 3
      rw [y 44 3 (sd_xL (by decide)) rfl, show σ1 44 3 = fw_c (σ 14 3) from s3, fw_c_c, hn 14 3 (sd_xL (by decide))]
    · show σ5 44 4 = σ 14 4
      rw [y 44 4 (sd_xL (by decide)) rfl, show σ1 44 4 = fw_c (σ 14 4) from s4, fw_c_c, hn 14 4 (sd_xL (by decide))]
    · rw [y 33 j (sd_c33 hj) rfl]
      rcases hj with rfl | rfl | rfl
      · rw [c11, fw_c_c, hn 3 11 (sd_xL (by decide))]
      · rw [c12, fw_c_c, hn 3 12 (sd_xL (by decide))]
      · rw [c13, fw_c_c, hn 3 13 (sd_xL (by decide))]
    · have k1 : σ2 97 (474 + j) = fw_c (t1 95 j) := by
        have z := q3.2.1 j h2
        rw [show 474 * 1 + j = (474 + j) by omega] at z
        exact z
      show σ5 97 (474 + j) = σ 95 j
      rw [x5 97 _ (sd_x97 (by omega)), k1, fw_c_c, xs_ok q1 sd_klm (sd_x95 h1 h2), hn3 95 j (sd_x95 h1 h2), m 95 j (sd_x95 h1 h2) rfl]
theorem EX_rs33 {σ σ1 σm σ2 σ5 : ab_SG} (hE : EX σ) (hn : ∀ k j : Nat, xs k j → fw_c (σ k j) = σ k j) (hn3 : ∀ k j : Nat, xs k j → fw_c (σm k j) = σm k j) (gB : σ 33 16 = 1) (g2 : ab_okM re_M σ σ1) (g3 : cy_is σ σ1 33 3) (x3 : ∀ k j : Nat, xs k j → σm k j = fw_c (σ1 k j)) (q3 : tb_is σm σ2 1) (x5 : ∀ k j : Nat, xs k j → σ5 k j = fw_c (σ2 k j)) : EX σ5 := by
  obtain ⟨-, -, -, -, -, -, -, -, -, -, ⟨s1, s2, s3, s4⟩, c11, c12, c13, -, -⟩ := g3
  have q30 : ab_okM tb_M σm σ2 := q3.1
  have y := sd_cl (σ := σ) hn3 x3 q30 sd_ktb x5
  have m := sd_mi hn g2 sd_kre x3
  refine ⟨sb_mv (σ := σ) (b := 33) (R := fun j => σ 97 (474 + j)) (fun j hj => ?_) (fun j hj => ?_) ?_ ?_ (fun j hj => ?_) (fun j h1 h2 => ?_) (hE.2.2 gB), sd_ot hE hn hn3 g2 sd_kre x3 q30 sd_ktb x5⟩
  · show σ5 15 j = σ 45 j
    rw [y 15 j (sd_x15 hj) rfl, show σ1 15 j = fw_c (σ 45 j) from s1 j hj, fw_c_c, hn 45 j (sd_x45 hj)]
  · show σ5 16 j = σ 46 j
    rw [y 16 j (sd_x16 hj) rfl, show σ1 16 j = fw_c (σ 46 j) from s2 j hj, fw_c_c, hn 46 j (sd_x46 hj)]
  · show σ5 14 3 = σ 44 3
    rw [y 14 3 (sd_xL (by decide)) rfl, show σ1 14 3 = fw_c (σ 44 3) from s3, fw_c_c, hn 44 3 (sd_xL (by decide))]
  · show σ5 14 4 = σ 44 4
    rw [y 14 4 (sd_xL (by decide)) rfl, show σ1 14 4 = fw_c (σ 44 4) from s4, fw_c_c, hn 44 4 (sd_xL (by decide))]
  · rw [y 3 j (sd_c3 hj) rfl]
    rcases hj with rfl | rfl | rfl
    · rw [c11, fw_c_c, hn 33 11 (sd_xL (by decide))]
    · rw [c12, fw_c_c, hn 33 12 (sd_xL (by decide))]
    · rw [c13, fw_c_c, hn 33 13 (sd_xL (by decide))]
  · have k1 : σ2 95 j = fw_c (σm 97 (474 + j)) := by
      have z := q3.2.1 j h2
      rw [show 474 * 1 + j = (474 + j) by omega] at z
      exact z
    show σ5 95 j = σ 97 (474 + j)
    rw [x5 95 j (sd_x95 h1 h2), k1, fw_c_c, hn3 97 _ (sd_x97 (by omega)), m 97 _ (sd_x97 (by omega)) rfl]
theorem EX_im {k : Int} {σ σ1 σm σ2 σ5 : ab_SG} (hE : EX σ) (hn : ∀ k j : Nat, xs k j → fw_c (σ k j) = σ k j) (hn3 : ∀ k j : Nat, xs k j → fw_c (σm k j) = σm k j) (c : k_image k σ σ1) (x3 : ∀ k j : Nat, xs k j → σm k j = fw_c (σ1 k j)) (r : km_image k σm σ2) (x5 : ∀ k j : Nat, xs k j → σ5 k j = fw_c (σ2 k j)) : EX σ5 := by
  rcases c with ⟨a, b, h⟩ | ⟨a, g2, g3, g4⟩ | ⟨a, g2, g3, g4⟩
  · rcases r with ⟨-, -, q2, -⟩ | ⟨q, t1, hq, hk, -⟩
    · refine EX_cg (fun i j hs => ?_) hE
      rw [x5 i j hs, xs_ok q2 sd_klm hs, hn3 i j hs, x3 i j hs, h, hn i j hs]
    · rcases q_of hq hk with ⟨z, -⟩ | ⟨z, -⟩
      · exact absurd z a
      · exact absurd z b
  · rcases r with ⟨z, -⟩ | ⟨q, t1, hq, hk, q1, -, q3⟩
    · exact absurd a z
    · rcases q_of hq hk with ⟨-, rfl⟩ | ⟨z, -⟩
      · exact EX_im18 hE hn hn3 g2 g3 x3 q1 q3 x5
      · omega
  · rcases r with ⟨-, z, -⟩ | ⟨q, t1, hq, hk, q1, -, q3⟩
    · exact absurd a z
    · rcases q_of hq hk with ⟨z, -⟩ | ⟨-, rfl⟩
      · omega
      · exact EX_im33 hE hn hn3 g2 g3 x3 q1 q3 x5
theorem EX_rs {k : Int} {σ σ1 σm σ2 σ5 : ab_SG} (hE : EX σ) (hn : ∀ k j : Nat, xs k j → fw_c (σ k j) = σ k j) (hn3 : ∀ k j : Nat, xs k j → fw_c (σm k j) = σm k j) (hc : cN σ) (hR : RQ σ) (h1 : k_restore k σ σ1) (hv : vW σm σ1) (x3 : ∀ k j : Nat, xs k j → σm k j = fw_c (σ1 k j)) (h2 : km_restore k σm σ2) (x5 : ∀ k j : Nat, xs k j → σ5 k j = fw_c (σ2 k j)) : EX σ5 := by
  have e : ∀ r : Nat, r < 2 → σm 102 r = σ 102 r := fun r hr => mid_restore (cn_N hc) h1 (vw_W hv) (a := 102) (by decide) r (su102 hr)
  have f0 : σ 18 16 = σ 102 0 := hR.1.2.2.1.1
  have f1 : σ 33 16 = σ 102 1 := hR.1.2.2.2.1
  have e0 := e 0 (by decide)
  have e1 := e 1 (by decide)
  rcases h1 with ⟨a, h⟩ | ⟨a, b, g2, g3, -⟩ | ⟨a, b, g2, g3, -⟩
  · rcases h2 with ⟨-, h9⟩ | ⟨q, hq, hk, q1, -⟩
    · refine EX_cg (fun i j hs => ?_) hE
      have s2 : ab_okM [(93, 0)] σm σ2 := by
        rw [h9]
        exact okM_one
      rw [x5 i j hs, xs_ok s2 sd_ku0 hs, hn3 i j hs, x3 i j hs, h, hn i j hs]
    · rcases q_of hq hk with ⟨z, rfl⟩ | ⟨z, rfl⟩
      · rcases a with a | a | a <;> omega
      · rcases a with a | a | a <;> omega
  · rcases h2 with ⟨q1 | ⟨q, hq, hk, q1⟩, -⟩ | ⟨q, hq, hk, q1, q2⟩
    · omega
    · rcases q_of hq hk with ⟨z, rfl⟩ | ⟨z, rfl⟩ <;> omega
    · rcases q_of hq hk with ⟨z, rfl⟩ | ⟨z, rfl⟩
      · exact EX_rs18 hE hn hn3 b g2 g3 x3 q2 x5
      · omega
  · rcases h2 with ⟨q1 | ⟨q, hq, hk, q1⟩, -⟩ | ⟨q, hq, hk, q1, q2⟩
    · omega
    · rcases q_of hq hk with ⟨z, rfl⟩ | ⟨z, rfl⟩ <;> omega
    · rcases q_of hq hk with ⟨z, rfl⟩ | ⟨z, rfl⟩
      · omega
      · exact EX_rs33 hE hn hn3 b g2 g3 x3 q2 x5
/-- all of it is kept -/
def kx (σ σ' : ab_SG) : Prop := ∀ k j : Nat, xs k j → σ' k j = σ k j
theorem sd_kkj : xs_b kj_M = true := by decide +kernel
theorem sd_ksn : xs_b sn_M = true := by decide +kernel
theorem sd_ktk : xs_b tk_M = true := by decide +kernel
theorem sd_kc9 : xs_b [(9, 1000000)] = true := by decide +kernel
theorem sd_kn9 : xs_p sd_p95 [(95, 1000000)] = true := by decide +kernel
theorem sd_kun : xs_p sd_p95 un_M = true := by decide +kernel
theorem xs_9 {k j : Nat} (hs : xs k j) (h : k = 9 ∨ k = 10) : False := by
  rcases hs with ⟨h1, -⟩ | ⟨h1, -⟩ | ⟨h1, -⟩ | h1
  · omega
  · omega
  · omega
  · have g : ∀ q ∈ xs_L, ¬ (q.1 = 9 ∨ q.1 = 10) := by decide +kernel
    exact g (k, j) h1 h
theorem xs_95 {j : Nat} (hs : xs 95 j) : 232 ≤ j ∧ j < 474 := by
  rcases hs with ⟨h1, -⟩ | ⟨-, h1⟩ | ⟨h1, -⟩ | h1
  · omega
  · exact h1
  · omega
  · have g : ∀ q ∈ xs_L, ¬ q.1 = 95 := by decide +kernel
    exact absurd rfl (g (95, j) h1)
theorem kx_of {σ σ' : ab_SG} (h : σ' = σ) : kx σ σ' := fun _ _ _ => by rw [h]
theorem kx_u0 {σ σ' : ab_SG} {x : Int} (h : σ' = ab_ups σ 93 0 x) : kx σ σ' := fun k j hs => by
  rw [h]
  exact xs_ok okM_one sd_ku0 hs
theorem kx_tr {σ σ1 σ' : ab_SG} (h1 : kx σ σ1) (h2 : kx σ1 σ') : kx σ σ' := fun k j hs => (h2 k j hs).trans (h1 k j hs)
theorem kx_ce {σ σ' : ab_SG} {p a q : Nat} {v : Int} (ha : a = 9 ∨ a = 10) (h : ce_is σ σ' p a q v) : kx σ σ' := by
  obtain ⟨σ1, h1, h2⟩ := h
  intro k j hs
  rw [h2, ab_ups_ne (fun z => xs_9 hs (by rw [z.1]; exact ha)), xs_ok h1.1 sd_kkj hs]
theorem kx_te {σ σ' : ab_SG} {q : Nat} {v : Int} (hq : q < 232) (h : te_is σ σ' q v) : kx σ σ' := by
  obtain ⟨σ1, h1, h2⟩ := h
  refine kx_tr (kx_u0 rfl) (kx_tr (fun a j hs => xs_ok h1.1 sd_ksn hs) (fun a j hs => ?_))
  rw [h2, ab_ups_ne (fun z => by
    rw [z.1] at hs
    have := xs_95 hs
    have := z.2
    omega)]
theorem kx_cw {σ σ' : ab_SG} {a b N : Nat} (ha : a + N ≤ 232) (h : cw_is σ σ' 95 a b N) : kx σ σ' := by
  intro k j hs
  by_cases z : k = 95
  · subst z
    have := xs_95 hs
    exact h.2.1 j (Or.inr (by omega))
  · refine xs_bt h.1 sd_kn9 hs ?_
    unfold sd_p95
    cases q : k.beq 95 with
    | false => rfl
    | true => exact absurd (Nat.eq_of_beq_eq_true q) z
theorem kx_teach {p x k v : Int} {σ σ' : ab_SG} (h : k_teach p x k v σ σ') : kx σ σ' := by
  rcases h with ⟨-, h, -⟩ | ⟨-, p', x', -, -, -, -, -, -, h⟩
  · exact kx_of h
  · exact kx_ce (Or.inl rfl) h
theorem kx_dares {p k v : Int} {σ σ' : ab_SG} (h : k_dares p k v σ σ') : kx σ σ' := by
  rcases h with ⟨-, h, -⟩ | ⟨-, p', -, -, -, -, h⟩
  · exact kx_of h
  · exact kx_ce (Or.inr rfl) h
theorem kx_copies {p q v : Int} {σ σ' : ab_SG} (h : k_copies p q v σ σ') : kx σ σ' := by
  rcases h with ⟨-, h, -⟩ | ⟨p', q', N, -, -, -, -, -, -, ⟨-, h⟩ | ⟨-, σ1, h1, h2⟩⟩
  · exact kx_of h
  · exact kx_of h
  · exact kx_tr (fun a j hs => xs_ok h1.1 sd_kkj hs) (fun a j hs => xs_ok h2.1 sd_kc9 hs)
theorem kx_undo {v : Int} {σ σ' : ab_SG} (h : k_undo v σ σ') : kx σ σ' := by
  rcases h with ⟨-, -, h⟩ | ⟨n, p, -, -, -, -, h⟩
  · exact kx_of h
  · exact fun a j hs => xs_ok h.1 sd_ktk hs
theorem pe_5 {σ : ab_SG} (hf : m_fw σ) {p : Int} {p' : Nat} (ep : p = (p' : Int)) (cp : fw_c p = p) (h : m_pe σ p = true) : p' < 5 := by
  have g := m_pe_t h
  have c2 : fw_c (σ 95 2) = σ 95 2 := fw_s (by have := hf.2.1; omega) (by have := hf.2.1; omega)
  rw [c2, cp] at g
  have := hf.2.1
  omega
theorem tu_9 {σ : ab_SG} (hf : m_fw σ) {x : Int} {x' : Nat} (ex : x = (x' : Int)) (cx : fw_c x = x) (h : m_tu σ x = true) : x' < 9 := by
  unfold m_tu at h
  rw [Bool.and_eq_true] at h
  have g := of_decide_eq_true h.2
  have c0 : fw_c (σ 95 0) = σ 95 0 := fw_s (by have := hf.1; omega) (by have := hf.1; omega)
  rw [c0, cx] at g
  have := hf.1
  omega
theorem kxm_teach {p x k v : Int} {σ σ' : ab_SG} (hf : m_fw σ) (cp : fw_c p = p) (cx : fw_c x = x) (h : km_teach p x k v σ σ') : kx σ σ' := by
  rcases h with ⟨-, h, -⟩ | ⟨-, p', x', e1, e2, a, b, -, -, h⟩
  · exact kx_u0 h
  · have := pe_5 hf e1 cp a
    have := tu_9 hf e2 cx b
    exact kx_te (by omega) h
theorem kxm_dares {p k v : Int} {σ σ' : ab_SG} (hf : m_fw σ) (cp : fw_c p = p) (h : km_dares p k v σ σ') : kx σ σ' := by
  rcases h with ⟨-, h, -⟩ | ⟨-, p', e1, a, -, -, h⟩
  · exact kx_u0 h
  · have := pe_5 hf e1 cp a
    exact kx_te (by omega) h
theorem kxm_copies {p q v : Int} {σ σ' : ab_SG} (hf : m_fw σ) (cp : fw_c p = p) (h : km_copies p q v σ σ') : kx σ σ' := by
  rcases h with ⟨-, h, -⟩ | ⟨p', q', N, e1, -, a, -, eN, -, ⟨-, h⟩ | ⟨-, σ1, h1, h2⟩⟩
  · exact kx_u0 h
  · exact kx_u0 h
  · have := pe_5 hf e1 cp a
    have := hf.1
    exact kx_tr (kx_u0 rfl) (kx_tr (fun a j hs => xs_ok h1.1 sd_ksn hs) (kx_cw (by omega) h2))
theorem kxm_undo {v : Int} {σ σ' : ab_SG} (h : km_undo v σ σ') : kx σ σ' := by
  rcases h with ⟨-, -, h⟩ | ⟨n, -, -, h1, -, h2, -⟩
  · exact kx_u0 h
  · intro k j hs
    by_cases z : k = 95
    · subst z
      have := xs_95 hs
      exact h2 j (Or.inr (by omega))
    · refine xs_bt h1 sd_kun hs ?_
      unfold sd_p95
      cases q : k.beq 95 with
      | false => rfl
      | true => exact absurd (Nat.eq_of_beq_eq_true q) z
end
