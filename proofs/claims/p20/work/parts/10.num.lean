/-! bounds of numbers by symbols: rho gives each symbol its number; B holds for each symbol its least and its greatest number, F holds rows (s, t, k): rho s - rho t is at most k -/
abbrev ab_BD : Type := List (Int × Int)
abbrev ab_FT : Type := List (Nat × Nat × Int)
def ab_le (a b : Int) : Bool := match b - a with
  | .ofNat _ => true
  | .negSucc _ => false
theorem ab_le_iff {a b : Int} : ab_le a b = true ↔ a ≤ b := by
  unfold ab_le
  constructor
  · intro h
    cases hd : b - a with
    | ofNat n => have : b - a = (n : Int) := hd; omega
    | negSucc n => rw [hd] at h; cases h
  · intro h
    cases hd : b - a with
    | ofNat n => rfl
    | negSucc n => have : b - a = Int.negSucc n := hd; rw [Int.negSucc_eq] at this; omega
theorem ab_le_false {a b : Int} : ab_le a b = false ↔ b < a := by
  rw [← Bool.not_eq_true, ab_le_iff]; omega
def ab_min (a b : Int) : Int := cond (ab_le a b) a b
def ab_max (a b : Int) : Int := cond (ab_le a b) b a
theorem ab_le_min {x a b : Int} (h1 : x ≤ a) (h2 : x ≤ b) : x ≤ ab_min a b := by
  unfold ab_min; cases ab_le a b <;> assumption
theorem ab_max_le {x a b : Int} (h1 : a ≤ x) (h2 : b ≤ x) : ab_max a b ≤ x := by
  unfold ab_max; cases ab_le a b <;> assumption
theorem ab_min_l (a b : Int) : ab_min a b ≤ a := by
  unfold ab_min; cases h : ab_le a b
  · have := ab_le_false.mp h; show b ≤ a; omega
  · exact Int.le_refl _
theorem ab_min_r (a b : Int) : ab_min a b ≤ b := by
  unfold ab_min; cases h : ab_le a b
  · exact Int.le_refl _
  · exact ab_le_iff.mp h
theorem ab_max_l (a b : Int) : a ≤ ab_max a b := by
  unfold ab_max; cases h : ab_le a b
  · exact Int.le_refl _
  · exact ab_le_iff.mp h
theorem ab_max_r (a b : Int) : b ≤ ab_max a b := by
  unfold ab_max; cases h : ab_le a b
  · have := ab_le_false.mp h; show b ≤ a; omega
  · exact Int.le_refl _
def ab_lo (B : ab_BD) (s : Nat) : Int := (B.getD s (0, 0)).1
def ab_hi (B : ab_BD) (s : Nat) : Int := (B.getD s (0, 0)).2
def ab_okB (B : ab_BD) (ρ : Nat → Int) : Prop := ∀ i, i < B.length → ab_lo B i ≤ ρ i ∧ ρ i ≤ ab_hi B i
def ab_okF (n : Nat) (F : ab_FT) (ρ : Nat → Int) : Prop := ∀ f ∈ F, f.1 < n ∧ f.2.1 < n ∧ ρ f.1 - ρ f.2.1 ≤ f.2.2
/-- the greatest that rho s - rho t can be -/
def ab_ub (B : ab_BD) (F : ab_FT) (s t : Nat) : Int :=
  cond (s.beq t) 0 (F.foldl (fun m f => cond (f.1.beq s && f.2.1.beq t) (ab_min m f.2.2) m) (ab_hi B s - ab_lo B t))
theorem ab_fold_ok {ρ : Nat → Int} {n s t : Nat} : ∀ (F : ab_FT) (m : Int), ab_okF n F ρ → ρ s - ρ t ≤ m → ρ s - ρ t ≤ F.foldl (fun m f => cond (f.1.beq s && f.2.1.beq t) (ab_min m f.2.2) m) m := by
  intro F
  induction F with
  | nil => intro m _ h; exact h
  | cons f F ih =>
    intro m hF h
    rw [List.foldl_cons]
    refine ih _ (fun g hg => hF g (List.mem_cons_of_mem _ hg)) ?_
    cases hc : (f.1.beq s && f.2.1.beq t) with
    | false => exact h
    | true =>
      rw [Bool.and_eq_true] at hc
      have h1 := Nat.eq_of_beq_eq_true hc.1
      have h2 := Nat.eq_of_beq_eq_true hc.2
      have h3 := (hF f List.mem_cons_self).2.2
      rw [h1, h2] at h3
      exact ab_le_min h h3
theorem ab_ub_ok {B : ab_BD} {F : ab_FT} {ρ : Nat → Int} {s t : Nat} (hB : ab_okB B ρ) (hF : ab_okF B.length F ρ) (hs : s < B.length) (ht : t < B.length) : ρ s - ρ t ≤ ab_ub B F s t := by
  unfold ab_ub
  cases h : s.beq t with
  | true => have := Nat.eq_of_beq_eq_true h; subst this; show ρ s - ρ s ≤ 0; omega
  | false =>
    refine ab_fold_ok F _ hF ?_
    have h1 := hB s hs
    have h2 := hB t ht
    omega
theorem ab_lo_set {B : ab_BD} {i j : Nat} {v : Int × Int} : ab_lo (B.set i v) j = if i = j ∧ i < B.length then v.1 else ab_lo B j := by
  unfold ab_lo
  by_cases h : i = j
  · subst h
    by_cases h2 : i < B.length
    · rw [List.getD_eq_getElem?_getD, List.getElem?_set_self h2, if_pos ⟨rfl, h2⟩]; rfl
    · rw [if_neg (fun q => h2 q.2), List.set_eq_of_length_le (Nat.not_lt.mp h2)]
  · rw [if_neg (fun q => h q.1), List.getD_eq_getElem?_getD, List.getElem?_set_ne h, List.getD_eq_getElem?_getD]
theorem ab_hi_set {B : ab_BD} {i j : Nat} {v : Int × Int} : ab_hi (B.set i v) j = if i = j ∧ i < B.length then v.2 else ab_hi B j := by
  unfold ab_hi
  by_cases h : i = j
  · subst h
    by_cases h2 : i < B.length
    · rw [List.getD_eq_getElem?_getD, List.getElem?_set_self h2, if_pos ⟨rfl, h2⟩]; rfl
    · rw [if_neg (fun q => h2 q.2), List.set_eq_of_length_le (Nat.not_lt.mp h2)]
  · rw [if_neg (fun q => h q.1), List.getD_eq_getElem?_getD, List.getElem?_set_ne h, List.getD_eq_getElem?_getD]
theorem ab_okB_set {B : ab_BD} {ρ : Nat → Int} (hB : ab_okB B ρ) (s : Nat) {v : Int × Int} (h : s < B.length → v.1 ≤ ρ s ∧ ρ s ≤ v.2) : ab_okB (B.set s v) ρ := by
  intro i hi
  rw [List.length_set] at hi
  rw [ab_lo_set, ab_hi_set]
  by_cases hc : s = i ∧ s < B.length
  · rw [if_pos hc, if_pos hc, ← hc.1]; exact h hc.2
  · rw [if_neg hc, if_neg hc]; exact hB i hi
/-- take it as given that rho s - rho t is at most k; none: that can't be -/
def ab_asm (B : ab_BD) (F : ab_FT) (s t : Nat) (k : Int) : Option (ab_BD × ab_FT) :=
  cond (ab_le (ab_ub B F s t) k) (some (B, F))
    (cond (ab_le (-k) (ab_ub B F t s))
      (some ((B.set s (ab_lo B s, ab_min (ab_hi B s) (ab_hi B t + k))).set t (ab_max (ab_lo B t) (ab_lo B s - k), ab_hi B t), cond (s.beq 0 || t.beq 0) F ((s, t, k) :: F)))
      none)
theorem ab_asm_ok {B : ab_BD} {F : ab_FT} {ρ : Nat → Int} {s t : Nat} {k : Int} (hB : ab_okB B ρ) (hF : ab_okF B.length F ρ) (hs : s < B.length) (ht : t < B.length) (h : ρ s - ρ t ≤ k) :
    ∃ B' F', ab_asm B F s t k = some (B', F') ∧ B'.length = B.length ∧ ab_okB B' ρ ∧ ab_okF B.length F' ρ := by
  unfold ab_asm
  cases h1 : ab_le (ab_ub B F s t) k with
  | true => exact ⟨B, F, rfl, rfl, hB, hF⟩
  | false =>
    cases h2 : ab_le (-k) (ab_ub B F t s) with
    | false =>
      have h3 := ab_le_false.mp h2
      have h4 := ab_ub_ok hB hF ht hs
      omega
    | true =>
      have hne : s ≠ t := by
        intro q
        subst q
        have : ab_ub B F s s = 0 := by unfold ab_ub; rw [show s.beq s = true from Nat.beq_refl s]; rfl
        rw [this] at h1
        have := ab_le_false.mp h1
        omega
      refine ⟨_, _, rfl, by rw [List.length_set, List.length_set], ?_, ?_⟩
      · have b1 := hB s hs
        have b2 := hB t ht
        have c1 : ab_lo B s ≤ ρ s ∧ ρ s ≤ ab_min (ab_hi B s) (ab_hi B t + k) := ⟨b1.1, ab_le_min b1.2 (by omega)⟩
        have c2 : ab_max (ab_lo B t) (ab_lo B s - k) ≤ ρ t ∧ ρ t ≤ ab_hi B t := ⟨ab_max_le b2.1 (by omega), b2.2⟩
        exact ab_okB_set (ab_okB_set hB s (fun _ => c1)) t (fun _ => c2)
      · cases h5 : (s.beq 0 || t.beq 0) with
        | true => exact hF
        | false =>
          intro f hf
          rcases List.mem_cons.mp hf with rfl | hf
          · exact ⟨hs, ht, h⟩
          · exact hF f hf
theorem ab_okB_app {B : ab_BD} {ρ : Nat → Int} {v l h : Int} (hB : ab_okB B ρ) (h1 : l ≤ v) (h2 : v ≤ h) : ab_okB (B ++ [(l, h)]) (fun i => if i = B.length then v else ρ i) := by
  intro i hi
  rw [List.length_append, List.length_singleton] at hi
  unfold ab_lo ab_hi
  by_cases hc : i = B.length
  · subst hc
    rw [List.getD_eq_getElem?_getD, List.getElem?_concat_length]
    show l ≤ (if B.length = B.length then v else ρ B.length) ∧ (if B.length = B.length then v else ρ B.length) ≤ h
    rw [if_pos rfl]
    exact ⟨h1, h2⟩
  · have hlt : i < B.length := by omega
    have h3 := hB i hlt
    unfold ab_lo ab_hi at h3
    rw [List.getD_eq_getElem?_getD] at h3 ⊢
    rw [List.getElem?_append_left hlt]
    show _ ≤ (if i = B.length then v else ρ i) ∧ (if i = B.length then v else ρ i) ≤ _
    rw [if_neg hc]
    exact h3
theorem ab_okF_app {n n' : Nat} {F : ab_FT} {ρ ρ' : Nat → Int} (hF : ab_okF n F ρ) (hn : n ≤ n') (hρ : ∀ i, i < n → ρ' i = ρ i) : ab_okF n' F ρ' := by
  intro f hf
  obtain ⟨a, b, c⟩ := hF f hf
  exact ⟨Nat.lt_of_lt_of_le a hn, Nat.lt_of_lt_of_le b hn, by rw [hρ _ a, hρ _ b]; exact c⟩
/-- a number c over the symbol s lies among those of 32 bits -/
def ab_in (B : ab_BD) (s : Nat) (c : Int) : Bool := ab_le (-2147483648) (ab_lo B s + c) && ab_le (ab_hi B s + c) 2147483647
theorem ab_in_ok {B : ab_BD} {ρ : Nat → Int} {s : Nat} {c : Int} (hB : ab_okB B ρ) (hs : s < B.length) (h : ab_in B s c = true) : (Int32.ofInt (ρ s + c)).toInt = ρ s + c := by
  unfold ab_in at h
  rw [Bool.and_eq_true, ab_le_iff, ab_le_iff] at h
  have := hB s hs
  exact Int32.toInt_ofInt_of_le (by omega) (by omega)
def ab_inL (B : ab_BD) (s : Nat) (c : Int) : Bool := ab_le (-9223372036854775808) (ab_lo B s + c) && ab_le (ab_hi B s + c) 9223372036854775807
theorem ab_inL_ok {B : ab_BD} {ρ : Nat → Int} {s : Nat} {c : Int} (hB : ab_okB B ρ) (hs : s < B.length) (h : ab_inL B s c = true) : (Int64.ofInt (ρ s + c)).toInt = ρ s + c := by
  unfold ab_inL at h
  rw [Bool.and_eq_true, ab_le_iff, ab_le_iff] at h
  have := hB s hs
  exact Int64.toInt_ofInt_of_le (by omega) (by omega)
theorem ab_r32 (x : Int32) : -2147483648 ≤ x.toInt ∧ x.toInt ≤ 2147483647 := by
  have h1 := x.le_toInt
  have h2 := x.toInt_lt
  omega
theorem ab_r64 (x : Int64) : -9223372036854775808 ≤ x.toInt ∧ x.toInt ≤ 9223372036854775807 := by
  have h1 := x.le_toInt
  have h2 := x.toInt_lt
  omega
