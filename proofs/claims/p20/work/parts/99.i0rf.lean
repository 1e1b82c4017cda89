/-! the reference's words: numbers over 27; a run of letters and digits as it reads it -/
/-- a word's number over 32, told over 27 -/
def rf_w : Nat → Int → Int
  | 0, _ => 0
  | n + 1, w => 27 * rf_w n (w / 32) + w % 32
/-- a word of at most n letters -/
def rf_ok : Nat → Int → Prop
  | 0, w => w = 0
  | n + 1, w => w = 0 ∨ (1 ≤ w % 32 ∧ w % 32 ≤ 26 ∧ rf_ok n (w / 32))
def rf_B : Nat → Int
  | 0 => 0
  | n + 1 => 27 * rf_B n + 31
def rf_C : Nat → Int
  | 0 => 1
  | n + 1 => 32 * rf_C n
theorem rf_w_in : ∀ (n : Nat) (w : Int), 0 ≤ rf_w n w ∧ rf_w n w ≤ rf_B n := by
  intro n
  induction n with
  | zero => intro w; exact ⟨Int.le_refl _, Int.le_refl _⟩
  | succ n ih =>
    intro w
    have := ih (w / 32)
    show 0 ≤ 27 * rf_w n (w / 32) + w % 32 ∧ 27 * rf_w n (w / 32) + w % 32 ≤ 27 * rf_B n + 31
    omega
theorem rf_w_0 : ∀ n : Nat, rf_w n 0 = 0 := by
  intro n
  induction n with
  | zero => rfl
  | succ n ih =>
    show 27 * rf_w n ((0 : Int) / 32) + (0 : Int) % 32 = 0
    rw [show (0 : Int) / 32 = 0 from by decide, ih]
    decide
theorem rf_ok_0 : ∀ n : Nat, rf_ok n 0 := by
  intro n
  cases n with
  | zero => exact rfl
  | succ n => exact Or.inl rfl
theorem rf_ok_in : ∀ (n : Nat) (w : Int), rf_ok n w → 0 ≤ w ∧ w < rf_C n := by
  intro n
  induction n with
  | zero => intro w h; cases h; decide
  | succ n ih =>
    intro w h
    show 0 ≤ w ∧ w < 32 * rf_C n
    rcases h with h | ⟨h1, h2, h3⟩
    · have := ih 0 (rf_ok_0 n)
      omega
    · have := ih _ h3
      omega
theorem rf_ok_up : ∀ (n : Nat) (w : Int), rf_ok n w → rf_ok (n + 1) w ∧ rf_w (n + 1) w = rf_w n w := by
  intro n
  induction n with
  | zero => intro w h; cases h; exact ⟨Or.inl rfl, rf_w_0 1⟩
  | succ n ih =>
    intro w h
    rcases h with h | ⟨h1, h2, h3⟩
    · subst h
      exact ⟨Or.inl rfl, by rw [rf_w_0, rf_w_0]⟩
    · have := ih _ h3
      refine ⟨Or.inr ⟨h1, h2, this.1⟩, ?_⟩
      show 27 * rf_w (n + 1) (w / 32) + w % 32 = 27 * rf_w n (w / 32) + w % 32
      rw [this.2]
theorem rf_ok_le {n m : Nat} (h : n ≤ m) {w : Int} (hw : rf_ok n w) : rf_ok m w ∧ rf_w m w = rf_w n w := by
  induction h with
  | refl => exact ⟨hw, rfl⟩
  | step _ ih =>
    have := rf_ok_up _ _ ih.1
    exact ⟨this.1, this.2.trans ih.2⟩
/-- words told over 27 are the same if they are -/
theorem rf_inj : ∀ (n : Nat) (a b : Int), rf_ok n a → rf_ok n b → rf_w n a = rf_w n b → a = b := by
  intro n
  induction n with
  | zero => intro a b ha hb _; exact ha.trans hb.symm
  | succ n ih =>
    intro a b ha hb h
    replace h : 27 * rf_w n (a / 32) + a % 32 = 27 * rf_w n (b / 32) + b % 32 := h
    have na := (rf_w_in n (a / 32)).1
    have nb := (rf_w_in n (b / 32)).1
    rcases ha with ha | ⟨a1, a2, a3⟩
    · rcases hb with hb | ⟨b1, b2, b3⟩
      · exact ha.trans hb.symm
      · exfalso
        subst ha
        rw [show (0 : Int) / 32 = 0 from by decide, rf_w_0] at h
        omega
    · rcases hb with hb | ⟨b1, b2, b3⟩
      · exfalso
        subst hb
        rw [show (0 : Int) / 32 = 0 from by decide, rf_w_0] at h
        omega
      · have := ih _ _ a3 b3 (by omega)
        omega
/-- one letter more -/
theorem rf_add {n : Nat} {w d : Int} (h : rf_ok n w) (h1 : 1 ≤ d) (h2 : d ≤ 26) : rf_ok (n + 1) (w * 32 + d) ∧ rf_w (n + 1) (w * 32 + d) = 27 * rf_w n w + d := by
  have e1 : (w * 32 + d) / 32 = w := by omega
  have e2 : (w * 32 + d) % 32 = d := by omega
  refine ⟨Or.inr ⟨by omega, by omega, by rw [e1]; exact h⟩, ?_⟩
  show 27 * rf_w n ((w * 32 + d) / 32) + (w * 32 + d) % 32 = 27 * rf_w n w + d
  rw [e1, e2]
theorem rf_C7 : rf_C 7 = 34359738368 := by decide
theorem rf_B7 : rf_B 7 ≤ 13000000000 := by decide
/-- what a run of p - q bytes tells both: the class's (letters, digits, word, number) and the reference's (good, word, number); L: its first byte is a letter -/
def rf_is (L : Prop) (q p : Nat) (s : tk_S) (g : Prop) (w n : Int) : Prop :=
  (0 ≤ s.1 ∧ 0 ≤ s.2.1 ∧ s.1 + s.2.1 = (p : Int) - q) ∧ (g ↔ ((L ∧ s.2.1 = 0) ∨ (¬ L ∧ s.1 = 0))) ∧ (q < p → (L → 1 ≤ s.1) ∧ (¬ L → 1 ≤ s.2.1)) ∧
  (s.2.1 = 0 → s.1 ≤ 7 → rf_ok s.1.toNat s.2.2.1 ∧ w = rf_w 7 s.2.2.1) ∧ (s.1 = 0 → (s.2.1 = 0 → s.2.2.2 = 0 ∧ n = 0) ∧ (s.2.1 = 1 → 0 ≤ s.2.2.2 ∧ s.2.2.2 ≤ 9 ∧ n = s.2.2.2) ∧ (s.2.1 = 2 → 0 ≤ s.2.2.2 ∧ s.2.2.2 ≤ 99 ∧ n = s.2.2.2))
theorem rf_is_0 (L : Prop) (q : Nat) : rf_is L q q (0, 0, 0, 0) True 0 0 :=
  ⟨⟨Int.le_refl _, Int.le_refl _, by show (0 : Int) + 0 = (q : Int) - q; omega⟩, ⟨fun _ => (Classical.em L).elim (fun z => Or.inl ⟨z, rfl⟩) (fun z => Or.inr ⟨z, rfl⟩), fun _ => trivial⟩, fun z => absurd z (Nat.lt_irrefl _), fun _ _ => ⟨rfl, (rf_w_0 7).symm⟩, fun _ => ⟨fun _ => ⟨rfl, rfl⟩, fun z => absurd z (by show ¬ (0 : Int) = 1; decide), fun z => absurd z (by show ¬ (0 : Int) = 2; decide)⟩⟩
theorem rf_is_l {L : Prop} {q p : Nat} {s : tk_S} {g : Prop} {w n c w' n' : Int} (h : rf_is L q p s g w n) (hc : 97 ≤ c ∧ c ≤ 122) (hL : p = q → L) (hw' : (p : Int) - q < 7 → w' = fw_d (27 * w + fw_c c - 96)) :
    rf_is L q (p + 1) (s.1 + 1, s.2.1, fw_d (s.2.2.1 * 32 + c - 97 + 1), s.2.2.2) (g ∧ L) w' n' := by
  obtain ⟨⟨h1, h2, h3⟩, hg, hf, hw, hn⟩ := h
  have hp : q ≤ p := by omega
  refine ⟨⟨by show 0 ≤ s.1 + 1; omega, h2, by show s.1 + 1 + s.2.1 = ((p + 1 : Nat) : Int) - q; omega⟩, ?_, fun _ => ⟨fun _ => by show 1 ≤ s.1 + 1; omega, fun z => ?_⟩, fun z z7 => ?_, fun z => absurd z (by show ¬ s.1 + 1 = 0; omega)⟩
  · show (g ∧ L) ↔ ((L ∧ s.2.1 = 0) ∨ (¬ L ∧ s.1 + 1 = 0))
    rw [hg]
    constructor
    · rintro ⟨z | z, zl⟩
      · exact Or.inl z
      · exact absurd zl z.1
    · rintro (z | z)
      · exact ⟨Or.inl z, z.1⟩
      · exact absurd z.2 (by omega)
  · show 1 ≤ s.2.1
    by_cases e : p = q
    · exact absurd (hL e) z
    · exact (hf (by omega)).2 z
  · replace z : s.2.1 = 0 := z
    replace z7 : s.1 + 1 ≤ 7 := z7
    have hk := hw z (by omega)
    have hin := rf_ok_in _ _ (rf_ok_le (m := 7) (by omega) hk.1).1
    rw [rf_C7] at hin
    have ha := rf_add (d := c - 96) hk.1 (by omega) (by omega)
    have ed : fw_d (s.2.2.1 * 32 + c - 97 + 1) = s.2.2.1 * 32 + (c - 96) := by
      rw [fw_d_id (by omega) (by omega)]; omega
    have en : (s.1 + 1).toNat = s.1.toNat + 1 := by omega
    show rf_ok (s.1 + 1).toNat (fw_d (s.2.2.1 * 32 + c - 97 + 1)) ∧ w' = rf_w 7 (fw_d (s.2.2.1 * 32 + c - 97 + 1))
    have hb := rf_w_in 7 s.2.2.1
    have hB := rf_B7
    have ew := hk.2
    rw [ed, en, hw' (by omega), fw_c_id (by omega) (by omega), fw_d_id (by omega) (by omega)]
    refine ⟨ha.1, ?_⟩
    have e7 := (rf_ok_le (m := 7) (by omega) ha.1).2
    have e6 := (rf_ok_le (m := 7) (by omega) hk.1).2
    rw [e7, ha.2, hk.2, e6]
    omega
theorem rf_is_d {L : Prop} {q p : Nat} {s : tk_S} {g : Prop} {w n c w' n' : Int} (h : rf_is L q p s g w n) (hc : 48 ≤ c ∧ c ≤ 57) (hL : p = q → ¬ L) (hn' : (p : Int) - q < 2 → n' = fw_c (10 * n + c - 48)) :
    rf_is L q (p + 1) (s.1, s.2.1 + 1, s.2.2.1, fw_c (s.2.2.2 * 10 + c - 48)) (g ∧ ¬ L) w' n' := by
  obtain ⟨⟨h1, h2, h3⟩, hg, hf, hw, hn⟩ := h
  have hp : q ≤ p := by omega
  refine ⟨⟨h1, by show 0 ≤ s.2.1 + 1; omega, by show s.1 + (s.2.1 + 1) = ((p + 1 : Nat) : Int) - q; omega⟩, ?_, fun _ => ⟨fun z => ?_, fun _ => by show 1 ≤ s.2.1 + 1; omega⟩, fun z => absurd z (by show ¬ s.2.1 + 1 = 0; omega), fun z => ?_⟩
  · show (g ∧ ¬ L) ↔ ((L ∧ s.2.1 + 1 = 0) ∨ (¬ L ∧ s.1 = 0))
    rw [hg]
    constructor
    · rintro ⟨z | z, zl⟩
      · exact absurd z.1 zl
      · exact Or.inr z
    · rintro (z | z)
      · exact absurd z.2 (by omega)
      · exact ⟨Or.inr z, z.1⟩
  · show 1 ≤ s.1
    by_cases e : p = q
    · exact absurd z (hL e)
    · exact (hf (by omega)).1 z
  · replace z : s.1 = 0 := z
    obtain ⟨n0, n1, n2⟩ := hn z
    refine ⟨fun y => absurd y (by show ¬ s.2.1 + 1 = 0; omega), fun y => ?_, fun y => ?_⟩
    · replace y : s.2.1 + 1 = 1 := y
      have := n0 (by omega)
      show 0 ≤ fw_c (s.2.2.2 * 10 + c - 48) ∧ fw_c (s.2.2.2 * 10 + c - 48) ≤ 9 ∧ n' = fw_c (s.2.2.2 * 10 + c - 48)
      have e1 : fw_c (s.2.2.2 * 10 + c - 48) = s.2.2.2 * 10 + c - 48 := fw_c_id (by omega) (by omega)
      have e2 : fw_c (10 * n + c - 48) = 10 * n + c - 48 := fw_c_id (by omega) (by omega)
      rw [e1, hn' (by omega), e2]
      omega
    · replace y : s.2.1 + 1 = 2 := y
      have := n1 (by omega)
      show 0 ≤ fw_c (s.2.2.2 * 10 + c - 48) ∧ fw_c (s.2.2.2 * 10 + c - 48) ≤ 99 ∧ n' = fw_c (s.2.2.2 * 10 + c - 48)
      have e1 : fw_c (s.2.2.2 * 10 + c - 48) = s.2.2.2 * 10 + c - 48 := fw_c_id (by omega) (by omega)
      have e2 : fw_c (10 * n + c - 48) = 10 * n + c - 48 := fw_c_id (by omega) (by omega)
      rw [e1, hn' (by omega), e2]
      omega
