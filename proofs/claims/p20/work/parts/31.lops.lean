/-! the same over longs -/
def ab_lsem (o : Nat) (x y : Int64) : Int64 := match o with
  | 0 => x + y
  | 1 => x - y
  | 2 => x * y
  | 3 => x / y
  | 4 => x - x / y * y
  | _ => x &&& y
def ab_lfull : ab_RS := .inr (-9223372036854775808, 9223372036854775807, [])
def ab_lbox (l h : Int) : ab_RS := cond (ab_le (-9223372036854775808) l && ab_le h 9223372036854775807) (.inr (l, h, [])) ab_lfull
def ab_lopA (B : ab_BD) (s : Nat) (c : Int) (t : Nat) (d : Int) : ab_RS :=
  cond (t.beq 0) (.inl (s, c + d)) (cond (s.beq 0) (.inl (t, c + d))
    (cond (ab_inL B s c && ab_inL B t d) (ab_lbox (ab_lo B s + c + (ab_lo B t + d)) (ab_hi B s + c + (ab_hi B t + d))) ab_lfull))
def ab_lopS (B : ab_BD) (F : ab_FT) (s : Nat) (c : Int) (t : Nat) (d : Int) : ab_RS :=
  cond (s.beq t) (.inl (0, c - d)) (cond (t.beq 0) (.inl (s, c - d))
    (cond (ab_inL B s c && ab_inL B t d) (ab_lbox (c - d - ab_ub B F t s) (ab_ub B F s t + c - d)) ab_lfull))
def ab_lopM (B : ab_BD) (s : Nat) (c : Int) (t : Nat) (d : Int) : ab_RS :=
  cond (ab_inL B s c && ab_inL B t d)
    (cond (s.beq 0 && ab_le 0 c) (ab_lbox (c * (ab_lo B t + d)) (c * (ab_hi B t + d)))
      (cond (t.beq 0 && ab_le 0 d) (ab_lbox (d * (ab_lo B s + c)) (d * (ab_hi B s + c)))
        (cond (ab_le 0 (ab_lo B s + c) && ab_le 0 (ab_lo B t + d)) (ab_lbox ((ab_lo B s + c) * (ab_lo B t + d)) ((ab_hi B s + c) * (ab_hi B t + d))) ab_lfull)))
    ab_lfull
def ab_lopR (B : ab_BD) (s : Nat) (c : Int) (t : Nat) (d : Int) : ab_RS :=
  cond (ab_inL B s c && ab_inL B t d && ab_le 1 (ab_lo B t + d))
    (cond (ab_le 0 (ab_lo B s + c)) (.inr (0, ab_min (ab_hi B s + c) (ab_hi B t + d - 1), [(t, d - 1)])) (.inr (-(ab_hi B t + d - 1), ab_hi B t + d - 1, [(t, d - 1)])))
    ab_lfull
def ab_lopD (B : ab_BD) (s : Nat) (c : Int) (t : Nat) (d : Int) : ab_RS :=
  cond (ab_inL B s c && ab_inL B t d && ab_le 1 (ab_lo B t + d) && ab_le 0 (ab_lo B s + c))
    (cond (t.beq 0) (.inr ((ab_lo B s + c) / d, (ab_hi B s + c) / d, [])) (.inr (0, ab_hi B s + c, []))) ab_lfull
def ab_lnz (B : ab_BD) (t : Nat) (d : Int) : Bool := ab_inL B t d && (ab_le 1 (ab_lo B t + d) || ab_le (ab_hi B t + d) (-1))
/-- a known number that may leave the 64 bits is a new one -/
def ab_lnm (B : ab_BD) (r : ab_RS) : ab_RS := match r with
  | .inl q => cond (ab_inL B q.1 q.2) (.inl q) ab_lfull
  | .inr q => .inr q
def ab_lop (o : Nat) (B : ab_BD) (F : ab_FT) (s : Nat) (c : Int) (t : Nat) (d : Int) : ab_RS :=
  ab_lnm B <| cond (s.beq 0 && t.beq 0) (.inl (0, (ab_lsem o (Int64.ofInt c) (Int64.ofInt d)).toInt))
    (match o with
      | 0 => ab_lopA B s c t d
      | 1 => ab_lopS B F s c t d
      | 2 => ab_lopM B s c t d
      | 3 => ab_lopD B s c t d
      | 4 => ab_lopR B s c t d
      | _ => ab_lfull)
/-- what a result says of a 64-bit number z -/
def ab_lrs (n : Nat) (ρ : Nat → Int) (r : ab_RS) (z : Int64) : Prop := match r with
  | .inl q => q.1 < n ∧ Int64.ofInt (ρ q.1 + q.2) = z
  | .inr q => q.1 ≤ z.toInt ∧ z.toInt ≤ q.2.1 ∧ ∀ f ∈ q.2.2, f.1 < n ∧ z.toInt - ρ f.1 ≤ f.2
theorem ab_lrs_full {n : Nat} {ρ : Nat → Int} (z : Int64) : ab_lrs n ρ ab_lfull z := ⟨(ab_r64 z).1, (ab_r64 z).2, fun f h => by cases h⟩
theorem ab_lrs_box {n : Nat} {ρ : Nat → Int} {z : Int64} {l h : Int} (hb : -9223372036854775808 ≤ l → h ≤ 9223372036854775807 → l ≤ z.toInt ∧ z.toInt ≤ h) : ab_lrs n ρ (ab_lbox l h) z := by
  unfold ab_lbox
  cases hc : (ab_le (-9223372036854775808) l && ab_le h 9223372036854775807) with
  | false => exact ab_lrs_full z
  | true =>
    rw [Bool.and_eq_true, ab_le_iff, ab_le_iff] at hc
    have := hb hc.1 hc.2
    exact ⟨this.1, this.2, fun f h => by cases h⟩
theorem ab_lopA_ok {B : ab_BD} {ρ : Nat → Int} {s t : Nat} {c d : Int} (hB : ab_okB B ρ) (h0 : ρ 0 = 0) (hs : s < B.length) (ht : t < B.length) :
    ab_lrs B.length ρ (ab_lopA B s c t d) (Int64.ofInt (ρ s + c) + Int64.ofInt (ρ t + d)) := by
  unfold ab_lopA
  cases h1 : t.beq 0 with
  | true =>
    have := Nat.eq_of_beq_eq_true h1
    subst this
    refine ⟨hs, ?_⟩
    rw [← Int64.ofInt_add]
    congr 1
    show ρ s + (c + d) = ρ s + c + (ρ 0 + d)
    omega
  | false =>
    cases h2 : s.beq 0 with
    | true =>
      have := Nat.eq_of_beq_eq_true h2
      subst this
      refine ⟨ht, ?_⟩
      rw [← Int64.ofInt_add]
      congr 1
      show ρ t + (c + d) = ρ 0 + c + (ρ t + d)
      omega
    | false =>
      cases h3 : (ab_inL B s c && ab_inL B t d) with
      | false => exact ab_lrs_full _
      | true =>
        rw [Bool.and_eq_true] at h3
        refine ab_lrs_box (fun g1 g2 => ?_)
        have e1 := hB s hs
        have e2 := hB t ht
        rw [← Int64.ofInt_add, Int64.toInt_ofInt_of_le (by omega) (by omega)]
        omega
theorem ab_lopS_ok {B : ab_BD} {F : ab_FT} {ρ : Nat → Int} {s t : Nat} {c d : Int} (hB : ab_okB B ρ) (hF : ab_okF B.length F ρ) (h0 : ρ 0 = 0) (hn : 0 < B.length) (hs : s < B.length) (ht : t < B.length) :
    ab_lrs B.length ρ (ab_lopS B F s c t d) (Int64.ofInt (ρ s + c) - Int64.ofInt (ρ t + d)) := by
  unfold ab_lopS
  cases h1 : s.beq t with
  | true =>
    have := Nat.eq_of_beq_eq_true h1
    subst this
    refine ⟨hn, ?_⟩
    rw [← Int64.ofInt_sub]
    congr 1
    show ρ 0 + (c - d) = ρ s + c - (ρ s + d)
    omega
  | false =>
    cases h2 : t.beq 0 with
    | true =>
      have := Nat.eq_of_beq_eq_true h2
      subst this
      refine ⟨hs, ?_⟩
      rw [← Int64.ofInt_sub]
      congr 1
      show ρ s + (c - d) = ρ s + c - (ρ 0 + d)
      omega
    | false =>
      cases h3 : (ab_inL B s c && ab_inL B t d) with
      | false => exact ab_lrs_full _
      | true =>
        refine ab_lrs_box (fun g1 g2 => ?_)
        have e1 := ab_ub_ok hB hF hs ht
        have e2 := ab_ub_ok hB hF ht hs
        rw [← Int64.ofInt_sub, Int64.toInt_ofInt_of_le (by omega) (by omega)]
        omega
theorem ab_lopM_ok {B : ab_BD} {ρ : Nat → Int} {s t : Nat} {c d : Int} (hB : ab_okB B ρ) (h0 : ρ 0 = 0) (hs : s < B.length) (ht : t < B.length) :
    ab_lrs B.length ρ (ab_lopM B s c t d) (Int64.ofInt (ρ s + c) * Int64.ofInt (ρ t + d)) := by
  unfold ab_lopM
  have e1 := hB s hs
  have e2 := hB t ht
  cases h3 : (ab_inL B s c && ab_inL B t d) with
  | false => exact ab_lrs_full _
  | true =>
    cases h1 : (s.beq 0 && ab_le 0 c) with
    | true =>
      rw [Bool.and_eq_true, ab_le_iff] at h1
      have := Nat.eq_of_beq_eq_true h1.1
      subst this
      have m1 : c * (ab_lo B t + d) ≤ c * (ρ t + d) := Int.mul_le_mul_of_nonneg_left (by omega) h1.2
      have m2 : c * (ρ t + d) ≤ c * (ab_hi B t + d) := Int.mul_le_mul_of_nonneg_left (by omega) h1.2
      refine ab_lrs_box (fun g1 g2 => ?_)
      rw [← Int64.ofInt_mul, h0, Int.zero_add, Int64.toInt_ofInt_of_le (by omega) (by omega)]
      exact ⟨m1, m2⟩
    | false =>
      cases h2 : (t.beq 0 && ab_le 0 d) with
      | true =>
        rw [Bool.and_eq_true, ab_le_iff] at h2
        have := Nat.eq_of_beq_eq_true h2.1
        subst this
        have m1 : d * (ab_lo B s + c) ≤ d * (ρ s + c) := Int.mul_le_mul_of_nonneg_left (by omega) h2.2
        have m2 : d * (ρ s + c) ≤ d * (ab_hi B s + c) := Int.mul_le_mul_of_nonneg_left (by omega) h2.2
        refine ab_lrs_box (fun g1 g2 => ?_)
        rw [← Int64.ofInt_mul, h0, Int.zero_add, Int.mul_comm (ρ s + c) d, Int64.toInt_ofInt_of_le (by omega) (by omega)]
        exact ⟨m1, m2⟩
      | false =>
        cases h4 : (ab_le 0 (ab_lo B s + c) && ab_le 0 (ab_lo B t + d)) with
        | false => exact ab_lrs_full _
        | true =>
          rw [Bool.and_eq_true, ab_le_iff, ab_le_iff] at h4
          have m1 : (ab_lo B s + c) * (ab_lo B t + d) ≤ (ρ s + c) * (ρ t + d) := Int.mul_le_mul (by omega) (by omega) h4.2 (by omega)
          have m2 : (ρ s + c) * (ρ t + d) ≤ (ab_hi B s + c) * (ab_hi B t + d) := Int.mul_le_mul (by omega) (by omega) (by omega) (by omega)
          have m3 : 0 ≤ (ab_lo B s + c) * (ab_lo B t + d) := Int.mul_nonneg h4.1 h4.2
          refine ab_lrs_box (fun g1 g2 => ?_)
          rw [← Int64.ofInt_mul, Int64.toInt_ofInt_of_le (by omega) (by omega)]
          exact ⟨m1, m2⟩
theorem ab_lnz_ok {B : ab_BD} {ρ : Nat → Int} {t : Nat} {d : Int} (hB : ab_okB B ρ) (ht : t < B.length) (h : ab_lnz B t d = true) : ¬ Int64.ofInt (ρ t + d) = 0 := by
  unfold ab_lnz at h
  rw [Bool.and_eq_true, Bool.or_eq_true, ab_le_iff, ab_le_iff] at h
  intro q
  have e := ab_inL_ok hB ht h.1
  rw [q] at e
  have e0 : (0 : Int64).toInt = 0 := rfl
  have := hB t ht
  omega
theorem ab_lopD_ok {B : ab_BD} {ρ : Nat → Int} {s t : Nat} {c d : Int} (hB : ab_okB B ρ) (h0 : ρ 0 = 0) (hs : s < B.length) (ht : t < B.length) :
    ab_lrs B.length ρ (ab_lopD B s c t d) (Int64.ofInt (ρ s + c) / Int64.ofInt (ρ t + d)) := by
  unfold ab_lopD
  have e1 := hB s hs
  have e2 := hB t ht
  cases h : (ab_inL B s c && ab_inL B t d && ab_le 1 (ab_lo B t + d) && ab_le 0 (ab_lo B s + c)) with
  | false => exact ab_lrs_full _
  | true =>
    rw [Bool.and_eq_true, Bool.and_eq_true, Bool.and_eq_true, ab_le_iff, ab_le_iff] at h
    have x1 := ab_inL_ok hB hs h.1.1.1
    have x2 := ab_inL_ok hB ht h.1.1.2
    have hne : Int64.ofInt (ρ t + d) ≠ -1 := by
      intro q
      rw [q] at x2
      have e0 : (-1 : Int64).toInt = -1 := rfl
      omega
    have hd := Int64.toInt_div_of_ne_right (Int64.ofInt (ρ s + c)) _ hne
    rw [x1, x2] at hd
    have h5 := @ab_tdiv_le (ρ s + c) (ρ t + d) (by omega) (by omega)
    cases h6 : t.beq 0 with
    | false =>
      refine ⟨?_, ?_, fun f h => by cases h⟩
      · show 0 ≤ _; rw [hd]; exact h5.1
      · show _ ≤ ab_hi B s + c; rw [hd]; omega
    | true =>
      have := Nat.eq_of_beq_eq_true h6
      subst this
      rw [h0, Int.zero_add, Int.tdiv_eq_ediv_of_nonneg (by omega)] at hd
      have hd0 : 0 ≤ d := by have := h.1.2; omega
      refine ⟨?_, ?_, fun f h => by cases h⟩
      · show (ab_lo B s + c) / d ≤ _; rw [h0, Int.zero_add, hd]; exact Int.ediv_le_ediv (by omega) (by omega)
      · show _ ≤ (ab_hi B s + c) / d; rw [h0, Int.zero_add, hd]; exact Int.ediv_le_ediv (by omega) (by omega)
theorem ab_lirem {x y : Int64} (hy : 1 ≤ y.toInt) : (x - x / y * y).toInt = x.toInt.tmod y.toInt := by
  have hne : y ≠ -1 := by
    intro q
    rw [q] at hy
    have e0 : (-1 : Int64).toInt = -1 := rfl
    omega
  have hd := Int64.toInt_div_of_ne_right x y hne
  have h2 : x.toInt.tmod y.toInt = x.toInt - y.toInt * x.toInt.tdiv y.toInt := Int.tmod_def _ _
  have hb : -y.toInt < x.toInt.tmod y.toInt ∧ x.toInt.tmod y.toInt < y.toInt := ⟨Int.lt_tmod_of_pos _ (by omega), Int.tmod_lt_of_pos _ (by omega)⟩
  have hy2 := ab_r64 y
  have e : x - x / y * y = Int64.ofInt (x.toInt.tmod y.toInt) := by
    rw [h2, ← hd, Int.mul_comm, Int64.ofInt_sub, Int64.ofInt_mul, Int64.ofInt_toInt, Int64.ofInt_toInt, Int64.ofInt_toInt]
  rw [e, Int64.toInt_ofInt_of_le (by omega) (by omega)]
theorem ab_lopR_ok {B : ab_BD} {ρ : Nat → Int} {s t : Nat} {c d : Int} (hB : ab_okB B ρ) (hs : s < B.length) (ht : t < B.length) :
    ab_lrs B.length ρ (ab_lopR B s c t d) (Int64.ofInt (ρ s + c) - Int64.ofInt (ρ s + c) / Int64.ofInt (ρ t + d) * Int64.ofInt (ρ t + d)) := by
  unfold ab_lopR
  have e1 := hB s hs
  have e2 := hB t ht
  cases h : (ab_inL B s c && ab_inL B t d && ab_le 1 (ab_lo B t + d)) with
  | false => exact ab_lrs_full _
  | true =>
    rw [Bool.and_eq_true, Bool.and_eq_true, ab_le_iff] at h
    have x1 := ab_inL_ok hB hs h.1.1
    have x2 := ab_inL_ok hB ht h.1.2
    have hr := ab_lirem (x := Int64.ofInt (ρ s + c)) (y := Int64.ofInt (ρ t + d)) (by rw [x2]; omega)
    rw [x1, x2] at hr
    have b1 : -(ρ t + d) < (ρ s + c).tmod (ρ t + d) := Int.lt_tmod_of_pos _ (by omega)
    have b2 : (ρ s + c).tmod (ρ t + d) < ρ t + d := Int.tmod_lt_of_pos _ (by omega)
    cases h2 : ab_le 0 (ab_lo B s + c) with
    | true =>
      have h3 := ab_le_iff.mp h2
      have b3 : 0 ≤ (ρ s + c).tmod (ρ t + d) := Int.tmod_nonneg _ (by omega)
      have b4 : (ρ s + c).tmod (ρ t + d) ≤ ρ s + c := by
        rw [Int.tmod_eq_emod_of_nonneg (by omega)]
        have q1 : 0 ≤ (ρ s + c) / (ρ t + d) := Int.ediv_nonneg (by omega) (by omega)
        have q2 : 0 ≤ (ρ t + d) * ((ρ s + c) / (ρ t + d)) := Int.mul_nonneg (by omega) q1
        have q3 := Int.emod_def (ρ s + c) (ρ t + d)
        omega
      refine ⟨?_, ?_, ?_⟩
      · show 0 ≤ _; rw [hr]; exact b3
      · show _ ≤ ab_min _ _; rw [hr]; exact ab_le_min (by omega) (by omega)
      · intro f hf
        rw [List.mem_singleton.mp hf]
        exact ⟨ht, by rw [hr]; show _ - ρ t ≤ d - 1; omega⟩
    | false =>
      refine ⟨?_, ?_, ?_⟩
      · show -(_) ≤ _; rw [hr]; omega
      · show _ ≤ ab_hi B t + d - 1; rw [hr]; omega
      · intro f hf
        rw [List.mem_singleton.mp hf]
        exact ⟨ht, by rw [hr]; show _ - ρ t ≤ d - 1; omega⟩
theorem ab_lnm_ok {B : ab_BD} {n : Nat} {ρ : Nat → Int} {r : ab_RS} {z : Int64} (h : ab_lrs n ρ r z) : ab_lrs n ρ (ab_lnm B r) z := by
  cases r with
  | inl q =>
    show ab_lrs n ρ (cond _ _ _) z
    cases ab_inL B q.1 q.2 with
    | true => exact h
    | false => exact ab_lrs_full z
  | inr q => exact h
theorem ab_lop_ok (o : Nat) {B : ab_BD} {F : ab_FT} {ρ : Nat → Int} {s t : Nat} {c d : Int} (hB : ab_okB B ρ) (hF : ab_okF B.length F ρ) (h0 : ρ 0 = 0) (hn : 0 < B.length) (hs : s < B.length) (ht : t < B.length) :
    ab_lrs B.length ρ (ab_lop o B F s c t d) (ab_lsem o (Int64.ofInt (ρ s + c)) (Int64.ofInt (ρ t + d))) := by
  unfold ab_lop
  refine ab_lnm_ok ?_
  cases h1 : (s.beq 0 && t.beq 0) with
  | true =>
    rw [Bool.and_eq_true] at h1
    have q1 := Nat.eq_of_beq_eq_true h1.1
    have q2 := Nat.eq_of_beq_eq_true h1.2
    subst q1; subst q2
    refine ⟨hn, ?_⟩
    show Int64.ofInt (ρ 0 + (ab_lsem o (Int64.ofInt c) (Int64.ofInt d)).toInt) = _
    rw [h0, Int.zero_add, Int.zero_add, Int.zero_add, Int64.ofInt_toInt]
  | false =>
    show ab_lrs B.length ρ (match o with | 0 => _ | 1 => _ | 2 => _ | 3 => _ | 4 => _ | _ => _) _
    match o with
    | 0 => exact ab_lopA_ok hB h0 hs ht
    | 1 => exact ab_lopS_ok hB hF h0 hn hs ht
    | 2 => exact ab_lopM_ok hB h0 hs ht
    | 3 => exact ab_lopD_ok hB h0 hs ht
    | 4 => exact ab_lopR_ok hB hs ht
    | n + 5 => exact ab_lrs_full _
