/-! the two-number instructions over ints, what they give (o: which one) and what is known of it -/
def ab_sem (o : Nat) (x y : Int32) : Int32 := match o with
  | 0 => x + y
  | 1 => x - y
  | 2 => x * y
  | 3 => x / y
  | 4 => x - x / y * y
  | 5 => x <<< (y &&& 31)
  | 6 => x >>> (y &&& 31)
  | 7 => (x.toUInt32 >>> (y.toUInt32 &&& Int32.toUInt32 31)).toInt32
  | 8 => x &&& y
  | 9 => x ||| y
  | _ => x ^^^ y
/-- a known number over a symbol, or a new symbol with its bounds and with rows (t, k): it is at most rho t + k -/
abbrev ab_RS : Type := (Nat × Int) ⊕ (Int × Int × List (Nat × Int))
def ab_full : ab_RS := .inr (-2147483648, 2147483647, [])
/-- bounds that a 32-bit number can have, else all -/
def ab_box (l h : Int) : ab_RS := cond (ab_le (-2147483648) l && ab_le h 2147483647) (.inr (l, h, [])) ab_full
def ab_pw : List Int := [1, 2, 4, 8, 16, 32, 64, 128, 256, 512, 1024, 2048, 4096, 8192, 16384, 32768, 65536, 131072, 262144, 524288, 1048576, 2097152, 4194304, 8388608, 16777216, 33554432, 67108864, 134217728, 268435456, 536870912, 1073741824, 2147483648]
def ab_p2 (h : Int) : Nat → Nat → Nat
  | 0, k => k
  | f + 1, k => cond (ab_le (h + 1) (2 ^ k : Nat)) k (ab_p2 h f (k + 1))
def ab_opA (B : ab_BD) (s : Nat) (c : Int) (t : Nat) (d : Int) : ab_RS :=
  cond (t.beq 0) (.inl (s, c + d)) (cond (s.beq 0) (.inl (t, c + d))
    (cond (ab_in B s c && ab_in B t d) (ab_box (ab_lo B s + c + (ab_lo B t + d)) (ab_hi B s + c + (ab_hi B t + d))) ab_full))
def ab_opS (B : ab_BD) (F : ab_FT) (s : Nat) (c : Int) (t : Nat) (d : Int) : ab_RS :=
  cond (s.beq t) (.inl (0, c - d)) (cond (t.beq 0) (.inl (s, c - d))
    (cond (ab_in B s c && ab_in B t d) (ab_box (c - d - ab_ub B F t s) (ab_ub B F s t + c - d)) ab_full))
def ab_opM (B : ab_BD) (s : Nat) (c : Int) (t : Nat) (d : Int) : ab_RS :=
  cond (ab_in B s c && ab_in B t d)
    (cond (s.beq 0 && ab_le 0 c) (ab_box (c * (ab_lo B t + d)) (c * (ab_hi B t + d)))
      (cond (t.beq 0 && ab_le 0 d) (ab_box (d * (ab_lo B s + c)) (d * (ab_hi B s + c)))
        (cond (ab_le 0 (ab_lo B s + c) && ab_le 0 (ab_lo B t + d)) (ab_box ((ab_lo B s + c) * (ab_lo B t + d)) ((ab_hi B s + c) * (ab_hi B t + d))) ab_full)))
    ab_full
/-- the divisor isn't 0 -/
def ab_nz (B : ab_BD) (t : Nat) (d : Int) : Bool := ab_in B t d && (ab_le 1 (ab_lo B t + d) || ab_le (ab_hi B t + d) (-1))
def ab_opD (B : ab_BD) (s : Nat) (c : Int) (t : Nat) (d : Int) : ab_RS :=
  cond (ab_in B s c && ab_in B t d && ab_le 1 (ab_lo B t + d) && ab_le 0 (ab_lo B s + c)) (.inr (0, ab_hi B s + c, [])) ab_full
def ab_opR (B : ab_BD) (s : Nat) (c : Int) (t : Nat) (d : Int) : ab_RS :=
  cond (ab_in B s c && ab_in B t d && ab_le 1 (ab_lo B t + d))
    (cond (ab_le 0 (ab_lo B s + c)) (.inr (0, ab_min (ab_hi B s + c) (ab_hi B t + d - 1), [(t, d - 1)])) (.inr (-(ab_hi B t + d - 1), ab_hi B t + d - 1, [(t, d - 1)])))
    ab_full
def ab_opL (B : ab_BD) (s : Nat) (c : Int) (t : Nat) (d : Int) : ab_RS :=
  cond (s.beq 0 && ab_le 1 c && ab_le c 1 && ab_le 0 (ab_lo B t + d) && ab_le (ab_hi B t + d) 30) (.inr ((2 : Int) ^ (ab_lo B t + d).toNat, (2 : Int) ^ (ab_hi B t + d).toNat, [])) ab_full
def ab_opU (t : Nat) (d : Int) : ab_RS := cond (t.beq 0 && ab_le 1 d && ab_le d 31) (.inr (0, 2147483647, [])) ab_full
def ab_opN (B : ab_BD) (s : Nat) (c : Int) (t : Nat) (d : Int) : ab_RS :=
  cond (ab_in B t d && ab_le 0 (ab_lo B t + d))
    (cond (ab_in B s c && ab_le 0 (ab_lo B s + c)) (.inr (0, ab_min (ab_hi B s + c) (ab_hi B t + d), [(t, d), (s, c)])) (.inr (0, ab_hi B t + d, [(t, d)])))
    (cond (ab_in B s c && ab_le 0 (ab_lo B s + c)) (.inr (0, ab_hi B s + c, [(s, c)])) ab_full)
def ab_opO (B : ab_BD) (s : Nat) (c : Int) (t : Nat) (d : Int) : ab_RS :=
  cond (ab_in B s c && ab_in B t d && ab_le 0 (ab_lo B s + c) && ab_le 0 (ab_lo B t + d))
    (.inr (ab_max (ab_lo B s + c) (ab_lo B t + d), (2 : Int) ^ (ab_p2 (ab_max (ab_hi B s + c) (ab_hi B t + d)) 31 0) - 1, [])) ab_full
/-- a known number that may leave the 32 bits is a new one -/
def ab_nm (B : ab_BD) (r : ab_RS) : ab_RS := match r with
  | .inl q => cond (ab_in B q.1 q.2) (.inl q) ab_full
  | .inr q => .inr q
def ab_op (o : Nat) (B : ab_BD) (F : ab_FT) (s : Nat) (c : Int) (t : Nat) (d : Int) : ab_RS :=
  ab_nm B <| cond (s.beq 0 && t.beq 0) (.inl (0, (ab_sem o (Int32.ofInt c) (Int32.ofInt d)).toInt))
    (match o with
      | 0 => ab_opA B s c t d
      | 1 => ab_opS B F s c t d
      | 2 => ab_opM B s c t d
      | 3 => ab_opD B s c t d
      | 4 => ab_opR B s c t d
      | 5 => ab_opL B s c t d
      | 7 => ab_opU t d
      | 8 => ab_opN B s c t d
      | 9 => ab_opO B s c t d
      | _ => ab_full)
/-- what a result says of a 32-bit number z -/
def ab_rs (n : Nat) (ρ : Nat → Int) (r : ab_RS) (z : Int32) : Prop := match r with
  | .inl q => q.1 < n ∧ Int32.ofInt (ρ q.1 + q.2) = z
  | .inr q => q.1 ≤ z.toInt ∧ z.toInt ≤ q.2.1 ∧ ∀ f ∈ q.2.2, f.1 < n ∧ z.toInt - ρ f.1 ≤ f.2
theorem ab_rs_full {n : Nat} {ρ : Nat → Int} (z : Int32) : ab_rs n ρ ab_full z := ⟨(ab_r32 z).1, (ab_r32 z).2, fun f h => by cases h⟩
theorem ab_rs_box {n : Nat} {ρ : Nat → Int} {z : Int32} {l h : Int} (hb : -2147483648 ≤ l → h ≤ 2147483647 → l ≤ z.toInt ∧ z.toInt ≤ h) : ab_rs n ρ (ab_box l h) z := by
  unfold ab_box
  cases hc : (ab_le (-2147483648) l && ab_le h 2147483647) with
  | false => exact ab_rs_full z
  | true =>
    rw [Bool.and_eq_true, ab_le_iff, ab_le_iff] at hc
    have := hb hc.1 hc.2
    exact ⟨this.1, this.2, fun f h => by cases h⟩
theorem ab_nm_ok {B : ab_BD} {n : Nat} {ρ : Nat → Int} {r : ab_RS} {z : Int32} (h : ab_rs n ρ r z) : ab_rs n ρ (ab_nm B r) z := by
  cases r with
  | inl q =>
    show ab_rs n ρ (cond _ _ _) z
    cases ab_in B q.1 q.2 with
    | true => exact h
    | false => exact ab_rs_full z
  | inr q => exact h
theorem ab_opA_ok {B : ab_BD} {ρ : Nat → Int} {s t : Nat} {c d : Int} (hB : ab_okB B ρ) (h0 : ρ 0 = 0) (hs : s < B.length) (ht : t < B.length) :
    ab_rs B.length ρ (ab_opA B s c t d) (Int32.ofInt (ρ s + c) + Int32.ofInt (ρ t + d)) := by
  unfold ab_opA
  cases h1 : t.beq 0 with
  | true =>
    have := Nat.eq_of_beq_eq_true h1
    subst this
    refine ⟨hs, ?_⟩
    rw [← Int32.ofInt_add]
    congr 1
    show ρ s + (c + d) = ρ s + c + (ρ 0 + d)
    omega
  | false =>
    cases h2 : s.beq 0 with
    | true =>
      have := Nat.eq_of_beq_eq_true h2
      subst this
      refine ⟨ht, ?_⟩
      rw [← Int32.ofInt_add]
      congr 1
      show ρ t + (c + d) = ρ 0 + c + (ρ t + d)
      omega
    | false =>
      cases h3 : (ab_in B s c && ab_in B t d) with
      | false => exact ab_rs_full _
      | true =>
        rw [Bool.and_eq_true] at h3
        refine ab_rs_box (fun g1 g2 => ?_)
        have e1 := hB s hs
        have e2 := hB t ht
        rw [← Int32.ofInt_add, Int32.toInt_ofInt_of_le (by omega) (by omega)]
        omega
theorem ab_opS_ok {B : ab_BD} {F : ab_FT} {ρ : Nat → Int} {s t : Nat} {c d : Int} (hB : ab_okB B ρ) (hF : ab_okF B.length F ρ) (h0 : ρ 0 = 0) (hn : 0 < B.length) (hs : s < B.length) (ht : t < B.length) :
    ab_rs B.length ρ (ab_opS B F s c t d) (Int32.ofInt (ρ s + c) - Int32.ofInt (ρ t + d)) := by
  unfold ab_opS
  cases h1 : s.beq t with
  | true =>
    have := Nat.eq_of_beq_eq_true h1
    subst this
    refine ⟨hn, ?_⟩
    rw [← Int32.ofInt_sub]
    congr 1
    show ρ 0 + (c - d) = ρ s + c - (ρ s + d)
    omega
  | false =>
    cases h2 : t.beq 0 with
    | true =>
      have := Nat.eq_of_beq_eq_true h2
      subst this
      refine ⟨hs, ?_⟩
      rw [← Int32.ofInt_sub]
      congr 1
      show ρ s + (c - d) = ρ s + c - (ρ 0 + d)
      omega
    | false =>
      cases h3 : (ab_in B s c && ab_in B t d) with
      | false => exact ab_rs_full _
      | true =>
        refine ab_rs_box (fun g1 g2 => ?_)
        have e1 := ab_ub_ok hB hF hs ht
        have e2 := ab_ub_ok hB hF ht hs
        rw [← Int32.ofInt_sub, Int32.toInt_ofInt_of_le (by omega) (by omega)]
        omega
theorem ab_opM_ok {B : ab_BD} {ρ : Nat → Int} {s t : Nat} {c d : Int} (hB : ab_okB B ρ) (h0 : ρ 0 = 0) (hs : s < B.length) (ht : t < B.length) :
    ab_rs B.length ρ (ab_opM B s c t d) (Int32.ofInt (ρ s + c) * Int32.ofInt (ρ t + d)) := by
  unfold ab_opM
  have e1 := hB s hs
  have e2 := hB t ht
  cases h3 : (ab_in B s c && ab_in B t d) with
  | false => exact ab_rs_full _
  | true =>
    cases h1 : (s.beq 0 && ab_le 0 c) with
    | true =>
      rw [Bool.and_eq_true, ab_le_iff] at h1
      have := Nat.eq_of_beq_eq_true h1.1
      subst this
      have m1 : c * (ab_lo B t + d) ≤ c * (ρ t + d) := Int.mul_le_mul_of_nonneg_left (by omega) h1.2
      have m2 : c * (ρ t + d) ≤ c * (ab_hi B t + d) := Int.mul_le_mul_of_nonneg_left (by omega) h1.2
      refine ab_rs_box (fun g1 g2 => ?_)
      rw [← Int32.ofInt_mul, h0, Int.zero_add, Int32.toInt_ofInt_of_le (by omega) (by omega)]
      exact ⟨m1, m2⟩
    | false =>
      cases h2 : (t.beq 0 && ab_le 0 d) with
      | true =>
        rw [Bool.and_eq_true, ab_le_iff] at h2
        have := Nat.eq_of_beq_eq_true h2.1
        subst this
        have m1 : d * (ab_lo B s + c) ≤ d * (ρ s + c) := Int.mul_le_mul_of_nonneg_left (by omega) h2.2
        have m2 : d * (ρ s + c) ≤ d * (ab_hi B s + c) := Int.mul_le_mul_of_nonneg_left (by omega) h2.2
        refine ab_rs_box (fun g1 g2 => ?_)
        rw [← Int32.ofInt_mul, h0, Int.zero_add, Int.mul_comm (ρ s + c) d, Int32.toInt_ofInt_of_le (by omega) (by omega)]
        exact ⟨m1, m2⟩
      | false =>
        cases h4 : (ab_le 0 (ab_lo B s + c) && ab_le 0 (ab_lo B t + d)) with
        | false => exact ab_rs_full _
        | true =>
          rw [Bool.and_eq_true, ab_le_iff, ab_le_iff] at h4
          have m1 : (ab_lo B s + c) * (ab_lo B t + d) ≤ (ρ s + c) * (ρ t + d) := Int.mul_le_mul (by omega) (by omega) h4.2 (by omega)
          have m2 : (ρ s + c) * (ρ t + d) ≤ (ab_hi B s + c) * (ab_hi B t + d) := Int.mul_le_mul (by omega) (by omega) (by omega) (by omega)
          have m3 : 0 ≤ (ab_lo B s + c) * (ab_lo B t + d) := Int.mul_nonneg h4.1 h4.2
          refine ab_rs_box (fun g1 g2 => ?_)
          rw [← Int32.ofInt_mul, Int32.toInt_ofInt_of_le (by omega) (by omega)]
          exact ⟨m1, m2⟩
theorem ab_nz_ok {B : ab_BD} {ρ : Nat → Int} {t : Nat} {d : Int} (hB : ab_okB B ρ) (ht : t < B.length) (h : ab_nz B t d = true) : ¬ Int32.ofInt (ρ t + d) = 0 := by
  unfold ab_nz at h
  rw [Bool.and_eq_true, Bool.or_eq_true, ab_le_iff, ab_le_iff] at h
  intro q
  have e := ab_in_ok hB ht h.1
  rw [q] at e
  have e0 : (0 : Int32).toInt = 0 := rfl
  have := hB t ht
  omega
theorem ab_tdiv_le {x y : Int} (hx : 0 ≤ x) (hy : 1 ≤ y) : 0 ≤ x.tdiv y ∧ x.tdiv y ≤ x := by
  rw [Int.tdiv_eq_ediv_of_nonneg hx]
  exact ⟨Int.ediv_nonneg hx (by omega), Int.ediv_le_self _ hx⟩
theorem ab_opD_ok {B : ab_BD} {ρ : Nat → Int} {s t : Nat} {c d : Int} (hB : ab_okB B ρ) (hs : s < B.length) (ht : t < B.length) :
    ab_rs B.length ρ (ab_opD B s c t d) (Int32.ofInt (ρ s + c) / Int32.ofInt (ρ t + d)) := by
  unfold ab_opD
  have e1 := hB s hs
  have e2 := hB t ht
  cases h : (ab_in B s c && ab_in B t d && ab_le 1 (ab_lo B t + d) && ab_le 0 (ab_lo B s + c)) with
  | false => exact ab_rs_full _
  | true =>
    rw [Bool.and_eq_true, Bool.and_eq_true, Bool.and_eq_true, ab_le_iff, ab_le_iff] at h
    have x1 := ab_in_ok hB hs h.1.1.1
    have x2 := ab_in_ok hB ht h.1.1.2
    have hne : Int32.ofInt (ρ t + d) ≠ -1 := by
      intro q
      rw [q] at x2
      have e0 : (-1 : Int32).toInt = -1 := rfl
      omega
    have hd := Int32.toInt_div_of_ne_right (Int32.ofInt (ρ s + c)) _ hne
    rw [x1, x2] at hd
    have h5 := ab_tdiv_le (x := ρ s + c) (y := ρ t + d) (by omega) (by omega)
    refine ⟨?_, ?_, fun f h => by cases h⟩
    · show 0 ≤ _; rw [hd]; exact h5.1
    · show _ ≤ ab_hi B s + c; rw [hd]; omega
theorem ab_irem {x y : Int32} (hy : 1 ≤ y.toInt) : (x - x / y * y).toInt = x.toInt.tmod y.toInt := by
  have hne : y ≠ -1 := by
    intro q
    rw [q] at hy
    have e0 : (-1 : Int32).toInt = -1 := rfl
    omega
  have hd := Int32.toInt_div_of_ne_right x y hne
  have h2 : x.toInt.tmod y.toInt = x.toInt - y.toInt * x.toInt.tdiv y.toInt := Int.tmod_def _ _
  have hb : -y.toInt < x.toInt.tmod y.toInt ∧ x.toInt.tmod y.toInt < y.toInt := ⟨Int.lt_tmod_of_pos _ (by omega), Int.tmod_lt_of_pos _ (by omega)⟩
  have hy2 := ab_r32 y
  have e : x - x / y * y = Int32.ofInt (x.toInt.tmod y.toInt) := by
    rw [h2, ← hd, Int.mul_comm, Int32.ofInt_sub, Int32.ofInt_mul, Int32.ofInt_toInt, Int32.ofInt_toInt, Int32.ofInt_toInt]
  rw [e, Int32.toInt_ofInt_of_le (by omega) (by omega)]
theorem ab_opR_ok {B : ab_BD} {ρ : Nat → Int} {s t : Nat} {c d : Int} (hB : ab_okB B ρ) (hs : s < B.length) (ht : t < B.length) :
    ab_rs B.length ρ (ab_opR B s c t d) (Int32.ofInt (ρ s + c) - Int32.ofInt (ρ s + c) / Int32.ofInt (ρ t + d) * Int32.ofInt (ρ t + d)) := by
  unfold ab_opR
  have e1 := hB s hs
  have e2 := hB t ht
  cases h : (ab_in B s c && ab_in B t d && ab_le 1 (ab_lo B t + d)) with
  | false => exact ab_rs_full _
  | true =>
    rw [Bool.and_eq_true, Bool.and_eq_true, ab_le_iff] at h
    have x1 := ab_in_ok hB hs h.1.1
    have x2 := ab_in_ok hB ht h.1.2
    have hr := ab_irem (x := Int32.ofInt (ρ s + c)) (y := Int32.ofInt (ρ t + d)) (by rw [x2]; omega)
    rw [x1, x2] at hr
    have b1 : -(ρ t + d) < (ρ s + c).tmod (ρ t + d) := Int.lt_tmod_of_pos _ (by omega)
    have b2 : (ρ s + c).tmod (ρ t + d) < ρ t + d := Int.tmod_lt_of_pos _ (by omega)
    cases h2 : ab_le 0 (ab_lo B s + c) with
    | true =>
      have h3 := ab_le_iff.mp h2
      have b3 : 0 ≤ (ρ s + c).tmod (ρ t + d) := Int.tmod_nonneg _ (by omega)
      have b4 : (ρ s + c).tmod (ρ t + d) ≤ ρ s + c := by
        rw [Int.tmod_eq_emod_of_nonneg (by omega)]
        have q1 : 0 ≤ (ρ s + c) / (ρ t + d) := Int.ediv_nonneg (by omega) (by omega)
        have q2 : 0 ≤ (ρ t + d) * ((ρ s + c) / (ρ t + d)) := Int.mul_nonneg (by omega) q1
        have q3 := Int.emod_def (ρ s + c) (ρ t + d)
        omega
      refine ⟨?_, ?_, ?_⟩
      · show 0 ≤ _; rw [hr]; exact b3
      · show _ ≤ ab_min _ _; rw [hr]; exact ab_le_min (by omega) (by omega)
      · intro f hf
        rw [List.mem_singleton.mp hf]
        exact ⟨ht, by rw [hr]; show _ - ρ t ≤ d - 1; omega⟩
    | false =>
      refine ⟨?_, ?_, ?_⟩
      · show -(_) ≤ _; rw [hr]; omega
      · show _ ≤ ab_hi B t + d - 1; rw [hr]; omega
      · intro f hf
        rw [List.mem_singleton.mp hf]
        exact ⟨ht, by rw [hr]; show _ - ρ t ≤ d - 1; omega⟩
theorem ab_bit_and (x y : Int32) (h : 0 ≤ y.toInt) : 0 ≤ (x &&& y).toInt ∧ (x &&& y).toInt ≤ y.toInt := by
  have e : ∀ z : Int32, z.toInt = z.toBitVec.toInt := fun _ => rfl
  rw [e] at h ⊢
  rw [e, Int32.toBitVec_and]
  rw [BitVec.toInt_eq_toNat_cond] at h ⊢
  rw [BitVec.toInt_eq_toNat_cond, BitVec.toNat_and]
  have h1 : x.toBitVec.toNat &&& y.toBitVec.toNat ≤ y.toBitVec.toNat := Nat.and_le_right
  have h2 := y.toBitVec.isLt
  split at h
  · rw [if_pos (by omega)]
    split <;> omega
  · omega
theorem ab_opN_ok {B : ab_BD} {ρ : Nat → Int} {s t : Nat} {c d : Int} (hB : ab_okB B ρ) (hs : s < B.length) (ht : t < B.length) :
    ab_rs B.length ρ (ab_opN B s c t d) (Int32.ofInt (ρ s + c) &&& Int32.ofInt (ρ t + d)) := by
  unfold ab_opN
  have e1 := hB s hs
  have e2 := hB t ht
  cases h1 : (ab_in B t d && ab_le 0 (ab_lo B t + d)) with
  | true =>
    rw [Bool.and_eq_true, ab_le_iff] at h1
    have x2 := ab_in_ok hB ht h1.1
    have a1 := ab_bit_and (Int32.ofInt (ρ s + c)) (Int32.ofInt (ρ t + d)) (by rw [x2]; omega)
    rw [x2] at a1
    cases h2 : (ab_in B s c && ab_le 0 (ab_lo B s + c)) with
    | true =>
      rw [Bool.and_eq_true, ab_le_iff] at h2
      have x1 := ab_in_ok hB hs h2.1
      have a2 := ab_bit_and (Int32.ofInt (ρ t + d)) (Int32.ofInt (ρ s + c)) (by rw [x1]; omega)
      rw [x1, Int32.and_comm] at a2
      refine ⟨a1.1, ab_le_min (by omega) (by omega), fun f hf => ?_⟩
      rcases List.mem_cons.mp hf with rfl | hf
      · exact ⟨ht, by show _ - ρ t ≤ d; omega⟩
      · rw [List.mem_singleton.mp hf]
        exact ⟨hs, by show _ - ρ s ≤ c; omega⟩
    | false =>
      refine ⟨a1.1, by show _ ≤ ab_hi B t + d; omega, fun f hf => ?_⟩
      rw [List.mem_singleton.mp hf]
      exact ⟨ht, by show _ - ρ t ≤ d; omega⟩
  | false =>
    cases h2 : (ab_in B s c && ab_le 0 (ab_lo B s + c)) with
    | true =>
      rw [Bool.and_eq_true, ab_le_iff] at h2
      have x1 := ab_in_ok hB hs h2.1
      have a2 := ab_bit_and (Int32.ofInt (ρ t + d)) (Int32.ofInt (ρ s + c)) (by rw [x1]; omega)
      rw [x1, Int32.and_comm] at a2
      refine ⟨a2.1, by show _ ≤ ab_hi B s + c; omega, fun f hf => ?_⟩
      rw [List.mem_singleton.mp hf]
      exact ⟨hs, by show _ - ρ s ≤ c; omega⟩
    | false => exact ab_rs_full _
theorem ab_p2_ok (h : Int) : ∀ (f k : Nat), h + 1 ≤ (2 : Int) ^ (k + f) → h + 1 ≤ (2 : Int) ^ (ab_p2 h f k) ∧ ab_p2 h f k ≤ k + f := by
  intro f
  induction f with
  | zero => intro k hk; exact ⟨hk, Nat.le_refl _⟩
  | succ f ih =>
    intro k hk
    unfold ab_p2
    cases hc : ab_le (h + 1) (2 ^ k : Nat) with
    | true =>
      have := ab_le_iff.mp hc
      exact ⟨by rw [Int.natCast_pow] at this; exact this, by show k ≤ _; omega⟩
    | false =>
      have h2 := ih (k + 1) (by rw [show k + 1 + f = k + (f + 1) by omega]; exact hk)
      exact ⟨h2.1, by have := h2.2; show ab_p2 h f (k + 1) ≤ _; omega⟩
theorem ab_bit_or {x y : Int32} {k : Nat} (hx : 0 ≤ x.toInt) (hy : 0 ≤ y.toInt) (hk : k ≤ 31) (h1 : x.toInt < (2 : Int) ^ k) (h2 : y.toInt < (2 : Int) ^ k) :
    x.toInt ≤ (x ||| y).toInt ∧ y.toInt ≤ (x ||| y).toInt ∧ (x ||| y).toInt < (2 : Int) ^ k := by
  have e : ∀ z : Int32, z.toInt = z.toBitVec.toInt := fun _ => rfl
  have c : ∀ z : Int32, 0 ≤ z.toInt → z.toInt = (z.toBitVec.toNat : Int) ∧ z.toBitVec.toNat < 2 ^ 31 := by
    intro z hz
    rw [e, BitVec.toInt_eq_toNat_cond] at hz ⊢
    have := z.toBitVec.isLt
    split at hz
    · rw [if_pos (by assumption)]; omega
    · omega
  obtain ⟨x1, x2⟩ := c x hx
  obtain ⟨y1, y2⟩ := c y hy
  have p : ((2 : Int) ^ k) = ((2 ^ k : Nat) : Int) := by rw [Int.natCast_pow]; rfl
  rw [p] at h1 h2 ⊢
  have h3 : x.toBitVec.toNat < 2 ^ k := by omega
  have h4 : y.toBitVec.toNat < 2 ^ k := by omega
  have h5 : x.toBitVec.toNat ||| y.toBitVec.toNat < 2 ^ k := Nat.or_lt_two_pow h3 h4
  have h6 : (2 : Nat) ^ k ≤ 2 ^ 31 := Nat.pow_le_pow_right (by decide) hk
  have h7 : x.toBitVec.toNat ≤ x.toBitVec.toNat ||| y.toBitVec.toNat := Nat.left_le_or
  have h8 : y.toBitVec.toNat ≤ x.toBitVec.toNat ||| y.toBitVec.toNat := Nat.right_le_or
  have z1 : (x ||| y).toInt = ((x.toBitVec.toNat ||| y.toBitVec.toNat : Nat) : Int) := by
    rw [e, Int32.toBitVec_or, BitVec.toInt_eq_toNat_cond, BitVec.toNat_or, if_pos (by omega)]
  rw [z1, x1, y1]
  omega
theorem ab_opO_ok {B : ab_BD} {ρ : Nat → Int} {s t : Nat} {c d : Int} (hB : ab_okB B ρ) (hs : s < B.length) (ht : t < B.length) :
    ab_rs B.length ρ (ab_opO B s c t d) (Int32.ofInt (ρ s + c) ||| Int32.ofInt (ρ t + d)) := by
  unfold ab_opO
  have e1 := hB s hs
  have e2 := hB t ht
  cases h1 : (ab_in B s c && ab_in B t d && ab_le 0 (ab_lo B s + c) && ab_le 0 (ab_lo B t + d)) with
  | false => exact ab_rs_full _
  | true =>
    rw [Bool.and_eq_true, Bool.and_eq_true, Bool.and_eq_true, ab_le_iff, ab_le_iff] at h1
    have x1 := ab_in_ok hB hs h1.1.1.1
    have x2 := ab_in_ok hB ht h1.1.1.2
    have r1 := ab_r32 (Int32.ofInt (ρ s + c))
    have r2 := ab_r32 (Int32.ofInt (ρ t + d))
    have i1 := h1.1.1.1
    have i2 := h1.1.1.2
    unfold ab_in at i1 i2
    rw [Bool.and_eq_true, ab_le_iff, ab_le_iff] at i1 i2
    have hm : ab_max (ab_hi B s + c) (ab_hi B t + d) + 1 ≤ (2 : Int) ^ (0 + 31) := by
      have := ab_max_le i1.2 i2.2
      have e : (2 : Int) ^ (0 + 31) = 2147483648 := rfl
      omega
    obtain ⟨p1, p2⟩ := ab_p2_ok _ 31 0 hm
    have l1 := ab_max_l (ab_hi B s + c) (ab_hi B t + d)
    have l2 := ab_max_r (ab_hi B s + c) (ab_hi B t + d)
    have q := ab_bit_or (x := Int32.ofInt (ρ s + c)) (y := Int32.ofInt (ρ t + d)) (k := ab_p2 (ab_max (ab_hi B s + c) (ab_hi B t + d)) 31 0) (by rw [x1]; omega) (by rw [x2]; omega) (by omega) (by rw [x1]; omega) (by rw [x2]; omega)
    rw [x1, x2] at q
    exact ⟨ab_max_le (by omega) (by omega), by show _ ≤ _ - 1; omega, fun f hf => by cases hf⟩
theorem ab_shl1 : ∀ n, n < 31 → ((1 : Int32) <<< (Int32.ofNat n &&& 31)).toInt = (2 : Int) ^ n := by decide +kernel
theorem ab_pow_mono {a b : Nat} (h : a ≤ b) : (2 : Int) ^ a ≤ (2 : Int) ^ b := by
  have p : ∀ k : Nat, ((2 : Int) ^ k) = ((2 ^ k : Nat) : Int) := fun k => by rw [Int.natCast_pow]; rfl
  rw [p, p]
  exact Int.ofNat_le.mpr (Nat.pow_le_pow_right (by decide) h)
theorem ab_opL_ok {B : ab_BD} {ρ : Nat → Int} {s t : Nat} {c d : Int} (hB : ab_okB B ρ) (h0 : ρ 0 = 0) (ht : t < B.length) :
    ab_rs B.length ρ (ab_opL B s c t d) (Int32.ofInt (ρ s + c) <<< (Int32.ofInt (ρ t + d) &&& 31)) := by
  unfold ab_opL
  have e2 := hB t ht
  cases h1 : (s.beq 0 && ab_le 1 c && ab_le c 1 && ab_le 0 (ab_lo B t + d) && ab_le (ab_hi B t + d) 30) with
  | false => exact ab_rs_full _
  | true =>
    rw [Bool.and_eq_true, Bool.and_eq_true, Bool.and_eq_true, Bool.and_eq_true, ab_le_iff, ab_le_iff, ab_le_iff, ab_le_iff] at h1
    obtain ⟨⟨⟨⟨g1, g2⟩, g3⟩, g4⟩, g5⟩ := h1
    have := Nat.eq_of_beq_eq_true g1
    subst this
    have hc : c = 1 := by omega
    subst hc
    have hx : Int32.ofInt (ρ 0 + 1) = 1 := by rw [h0]; rfl
    have hy : Int32.ofInt (ρ t + d) = Int32.ofNat (ρ t + d).toNat := by
      have : ρ t + d = ((ρ t + d).toNat : Int) := by omega
      rw [this]
      rfl
    have hz := ab_shl1 (ρ t + d).toNat (by omega)
    rw [hx, hy]
    refine ⟨?_, ?_, fun f hf => by cases hf⟩
    · rw [hz]; exact ab_pow_mono (by omega)
    · rw [hz]; exact ab_pow_mono (by omega)
theorem ab_opU_ok {n : Nat} {ρ : Nat → Int} {t : Nat} {d : Int} (x : Int32) (h0 : ρ 0 = 0) :
    ab_rs n ρ (ab_opU t d) ((x.toUInt32 >>> ((Int32.ofInt (ρ t + d)).toUInt32 &&& Int32.toUInt32 31)).toInt32) := by
  unfold ab_opU
  cases h1 : (t.beq 0 && ab_le 1 d && ab_le d 31) with
  | false => exact ab_rs_full _
  | true =>
    rw [Bool.and_eq_true, Bool.and_eq_true, ab_le_iff, ab_le_iff] at h1
    obtain ⟨⟨g1, g2⟩, g3⟩ := h1
    have := Nat.eq_of_beq_eq_true g1
    subst this
    obtain ⟨k, hk1, hk2, rfl⟩ : ∃ k : Nat, 1 ≤ k ∧ k < 32 ∧ d = (k : Int) := ⟨d.toNat, by omega, by omega, by omega⟩
    have hq : ∀ j : Nat, j < 32 → ((Int32.toUInt32 (Int32.ofInt (j : Int)) &&& Int32.toUInt32 31).toBitVec % 32).toNat = j := by decide +kernel
    have hz := pk_ushr x (Int32.ofInt (k : Int)) k (hq k hk2)
    have hd : x.toBitVec.toNat / 2 ^ k < 2 ^ 31 := by
      have b := x.toBitVec.isLt
      have p : (2 : Nat) ^ 1 ≤ 2 ^ k := Nat.pow_le_pow_right (by decide) hk1
      have q := Nat.div_le_div_left (a := x.toBitVec.toNat) p (by decide)
      omega
    rw [h0, Int.zero_add]
    have e : ∀ z : Int32, z.toInt = z.toBitVec.toInt := fun _ => rfl
    have hi : ((x.toUInt32 >>> ((Int32.ofInt (k : Int)).toUInt32 &&& Int32.toUInt32 31)).toInt32).toInt = ((x.toBitVec.toNat / 2 ^ k : Nat) : Int) := by
      rw [e, BitVec.toInt_eq_toNat_cond, hz, if_pos (by omega)]
    refine ⟨?_, ?_, fun f hf => by cases hf⟩
    · show 0 ≤ _; rw [hi]; omega
    · show _ ≤ (2147483647 : Int); rw [hi]; omega
theorem ab_op_ok (o : Nat) {B : ab_BD} {F : ab_FT} {ρ : Nat → Int} {s t : Nat} {c d : Int} (hB : ab_okB B ρ) (hF : ab_okF B.length F ρ) (h0 : ρ 0 = 0) (hn : 0 < B.length) (hs : s < B.length) (ht : t < B.length) :
    ab_rs B.length ρ (ab_op o B F s c t d) (ab_sem o (Int32.ofInt (ρ s + c)) (Int32.ofInt (ρ t + d))) := by
  unfold ab_op
  refine ab_nm_ok ?_
  cases h1 : (s.beq 0 && t.beq 0) with
  | true =>
    rw [Bool.and_eq_true] at h1
    have q1 := Nat.eq_of_beq_eq_true h1.1
    have q2 := Nat.eq_of_beq_eq_true h1.2
    subst q1; subst q2
    refine ⟨hn, ?_⟩
    show Int32.ofInt (ρ 0 + (ab_sem o (Int32.ofInt c) (Int32.ofInt d)).toInt) = _
    rw [h0, Int.zero_add, Int.zero_add, Int.zero_add, Int32.ofInt_toInt]
  | false =>
    show ab_rs B.length ρ (match o with | 0 => _ | 1 => _ | 2 => _ | 3 => _ | 4 => _ | 5 => _ | 7 => _ | 8 => _ | 9 => _ | _ => _) _
    match o with
    | 0 => exact ab_opA_ok hB h0 hs ht
    | 1 => exact ab_opS_ok hB hF h0 hn hs ht
    | 2 => exact ab_opM_ok hB h0 hs ht
    | 3 => exact ab_opD_ok hB hs ht
    | 4 => exact ab_opR_ok hB hs ht
    | 5 => exact ab_opL_ok hB h0 ht
    | 6 => exact ab_rs_full _
    | 7 => exact ab_opU_ok _ h0
    | 8 => exact ab_opN_ok hB hs ht
    | 9 => exact ab_opO_ok hB hs ht
    | n + 10 => exact ab_rs_full _
