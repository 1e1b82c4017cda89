/-! measures: three numbers, each a sum of symbols less a sum of symbols -/
abbrev ab_ME : Type := Int × List Nat × List Nat
def ab_sm (ρ : Nat → Int) : List Nat → Int
  | [] => 0
  | s :: l => ρ s + ab_sm ρ l
def ab_mev (ρ : Nat → Int) (e : ab_ME) : Int := e.1 + ab_sm ρ e.2.1 - ab_sm ρ e.2.2
def ab_so (θ : ab_TH) : List Nat → Int
  | [] => 0
  | s :: l => (ab_sn θ (s, 0)).2 + ab_so θ l
def ab_msb (θ : ab_TH) (e : ab_ME) : ab_ME := (e.1 + ab_so θ e.2.1 - ab_so θ e.2.2, e.2.1.map (fun s => (ab_sn θ (s, 0)).1), e.2.2.map (fun s => (ab_sn θ (s, 0)).1))
theorem ab_so_ok {θ : ab_TH} {ρ : Nat → Int} {n : Nat} (hθ : ∀ q ∈ θ, q.1 < n) : ∀ (l : List Nat), (∀ s ∈ l, s < θ.length) → ab_sm (ab_thv θ ρ) l = ab_so θ l + ab_sm ρ (l.map (fun s => (ab_sn θ (s, 0)).1)) := by
  intro l
  induction l with
  | nil => intro _; rfl
  | cons s l ih =>
    intro h
    have h1 := (ab_sn_ok (ρ := ρ) (q := (s, 0)) hθ (h s List.mem_cons_self)).2
    have h2 := ih (fun t ht => h t (List.mem_cons_of_mem _ ht))
    replace h1 : ρ (ab_sn θ (s, 0)).1 + (ab_sn θ (s, 0)).2 = ab_thv θ ρ s + 0 := h1
    show ab_thv θ ρ s + ab_sm (ab_thv θ ρ) l = (ab_sn θ (s, 0)).2 + ab_so θ l + (ρ (ab_sn θ (s, 0)).1 + ab_sm ρ (l.map (fun s => (ab_sn θ (s, 0)).1)))
    omega
/-- all its symbols are among the n -/
def ab_mok (n : Nat) (e : ab_ME) : Bool := e.2.1.all (fun s => (s + 1).ble n) && e.2.2.all (fun s => (s + 1).ble n)
theorem ab_mok_ok {n : Nat} {e : ab_ME} (h : ab_mok n e = true) : (∀ s ∈ e.2.1, s < n) ∧ (∀ s ∈ e.2.2, s < n) := by
  unfold ab_mok at h
  rw [Bool.and_eq_true] at h
  exact ⟨fun s hs => Nat.le_of_ble_eq_true (List.all_eq_true.mp h.1 s hs), fun s hs => Nat.le_of_ble_eq_true (List.all_eq_true.mp h.2 s hs)⟩
theorem ab_msb_ok {θ : ab_TH} {ρ : Nat → Int} {n : Nat} {e : ab_ME} (hθ : ∀ q ∈ θ, q.1 < n) (h : ab_mok θ.length e = true) : ab_mev (ab_thv θ ρ) e = ab_mev ρ (ab_msb θ e) ∧ (∀ s ∈ (ab_msb θ e).2.1, s < n) ∧ (∀ s ∈ (ab_msb θ e).2.2, s < n) := by
  obtain ⟨h1, h2⟩ := ab_mok_ok h
  have e1 := ab_so_ok (ρ := ρ) hθ e.2.1 h1
  have e2 := ab_so_ok (ρ := ρ) hθ e.2.2 h2
  refine ⟨?_, ?_, ?_⟩
  · show e.1 + ab_sm (ab_thv θ ρ) e.2.1 - ab_sm (ab_thv θ ρ) e.2.2 = (e.1 + ab_so θ e.2.1 - ab_so θ e.2.2) + ab_sm ρ (e.2.1.map (fun s => (ab_sn θ (s, 0)).1)) - ab_sm ρ (e.2.2.map (fun s => (ab_sn θ (s, 0)).1))
    omega
  · intro s hs
    obtain ⟨t, ht, rfl⟩ := List.mem_map.mp hs
    exact (ab_sn_ok (ρ := ρ) (q := (t, 0)) hθ (h1 t ht)).1
  · intro s hs
    obtain ⟨t, ht, rfl⟩ := List.mem_map.mp hs
    exact (ab_sn_ok (ρ := ρ) (q := (t, 0)) hθ (h2 t ht)).1
def ab_rm (s : Nat) : List Nat → Option (List Nat)
  | [] => none
  | t :: l => cond (s.beq t) (some l) (match ab_rm s l with | some r => some (t :: r) | none => none)
theorem ab_rm_ok {ρ : Nat → Int} {s : Nat} : ∀ {l r : List Nat}, ab_rm s l = some r → ab_sm ρ l = ρ s + ab_sm ρ r ∧ ∀ x ∈ r, x ∈ l := by
  intro l
  induction l with
  | nil => intro r h; cases h
  | cons t l ih =>
    intro r h
    unfold ab_rm at h
    cases hc : s.beq t with
    | true =>
      rw [hc] at h
      have := Nat.eq_of_beq_eq_true hc
      subst this
      cases h
      exact ⟨rfl, fun x hx => List.mem_cons_of_mem _ hx⟩
    | false =>
      rw [hc] at h
      replace h : (match ab_rm s l with | some r => some (t :: r) | none => none) = some r := h
      split at h
      · rename_i r9 hr9
        cases h
        obtain ⟨g1, g2⟩ := ih hr9
        refine ⟨by show ρ t + ab_sm ρ l = ρ s + (ρ t + ab_sm ρ r9); omega, fun x hx => ?_⟩
        rcases List.mem_cons.mp hx with rfl | hx
        · exact List.mem_cons_self
        · exact List.mem_cons_of_mem _ (g2 x hx)
      · cases h
/-- the greatest that a sum less a sum can be -/
def ab_nl (B : ab_BD) : List Nat → Int
  | [] => 0
  | n :: N => ab_nl B N - ab_lo B n
def ab_pr (B : ab_BD) (F : ab_FT) : List Nat → List Nat → Int
  | [], N => ab_nl B N
  | p :: P, N => match ab_rm p N with
    | some N' => ab_pr B F P N'
    | none => match N with
      | [] => ab_hi B p + ab_pr B F P []
      | n :: N' => ab_ub B F p n + ab_pr B F P N'
theorem ab_pr_ok {B : ab_BD} {F : ab_FT} {ρ : Nat → Int} (hB : ab_okB B ρ) (hF : ab_okF B.length F ρ) : ∀ (P N : List Nat), (∀ s ∈ P, s < B.length) → (∀ s ∈ N, s < B.length) → ab_sm ρ P - ab_sm ρ N ≤ ab_pr B F P N := by
  intro P
  induction P with
  | nil =>
    intro N
    induction N with
    | nil => intro _ _; exact Int.le_refl 0
    | cons n N ih =>
      intro h1 h2
      have g := ih h1 (fun s hs => h2 s (List.mem_cons_of_mem _ hs))
      have b := (hB n (h2 n List.mem_cons_self)).1
      show 0 - (ρ n + ab_sm ρ N) ≤ ab_nl B N - ab_lo B n
      replace g : 0 - ab_sm ρ N ≤ ab_nl B N := g
      omega
  | cons p P ih =>
    intro N h1 h2
    have hP : ∀ s ∈ P, s < B.length := fun s hs => h1 s (List.mem_cons_of_mem _ hs)
    have hp := h1 p List.mem_cons_self
    unfold ab_pr
    split
    · rename_i N9 hN9
      obtain ⟨g1, g2⟩ := ab_rm_ok (ρ := ρ) hN9
      have g3 := ih N9 hP (fun s hs => h2 s (g2 s hs))
      rw [g1]
      show ρ p + ab_sm ρ P - _ ≤ _
      omega
    · split
      · have g3 := ih [] hP (fun s hs => by cases hs)
        have b := (hB p hp).2
        show ρ p + ab_sm ρ P - 0 ≤ _
        replace g3 : ab_sm ρ P - 0 ≤ _ := g3
        omega
      · rename_i n9 N9 _
        have g3 := ih N9 hP (fun s hs => h2 s (List.mem_cons_of_mem _ hs))
        have b := ab_ub_ok hB hF hp (h2 n9 List.mem_cons_self)
        show ρ p + ab_sm ρ P - (ρ n9 + ab_sm ρ N9) ≤ _
        omega
def ab_dif (B : ab_BD) (F : ab_FT) (a b : ab_ME) : Int := a.1 - b.1 + ab_pr B F (a.2.1 ++ b.2.2) (a.2.2 ++ b.2.1)
theorem ab_sm_app {ρ : Nat → Int} : ∀ (a b : List Nat), ab_sm ρ (a ++ b) = ab_sm ρ a + ab_sm ρ b := by
  intro a
  induction a with
  | nil => intro b; show ab_sm ρ b = 0 + ab_sm ρ b; omega
  | cons s a ih => intro b; show ρ s + ab_sm ρ (a ++ b) = ρ s + ab_sm ρ a + ab_sm ρ b; rw [ih]; omega
theorem ab_dif_ok {B : ab_BD} {F : ab_FT} {ρ : Nat → Int} {a b : ab_ME} (hB : ab_okB B ρ) (hF : ab_okF B.length F ρ) (h1 : ∀ s ∈ a.2.1, s < B.length) (h2 : ∀ s ∈ a.2.2, s < B.length) (h3 : ∀ s ∈ b.2.1, s < B.length) (h4 : ∀ s ∈ b.2.2, s < B.length) : ab_mev ρ a - ab_mev ρ b ≤ ab_dif B F a b := by
  have g := ab_pr_ok hB hF (a.2.1 ++ b.2.2) (a.2.2 ++ b.2.1) (fun s hs => by rcases List.mem_append.mp hs with h | h; exact h1 s h; exact h4 s h) (fun s hs => by rcases List.mem_append.mp hs with h | h; exact h2 s h; exact h3 s h)
  rw [ab_sm_app, ab_sm_app] at g
  unfold ab_mev ab_dif
  omega
def ab_low (B : ab_BD) (F : ab_FT) (a : ab_ME) : Int := -(ab_dif B F (0, [], []) a)
abbrev ab_M3 : Type := ab_ME × ab_ME × ab_ME
def ab_nv (ρ : Nat → Int) (e : ab_ME) : Nat := (ab_mev ρ e).toNat
/-- a falls below b: strictly, or at least not above it -/
def ab_fa (B : ab_BD) (F : ab_FT) (a b : ab_ME) : Bool := ab_le (ab_dif B F a b) (-1) && ab_le 0 (ab_low B F a)
def ab_nr (B : ab_BD) (F : ab_FT) (a b : ab_ME) : Bool := ab_le (ab_dif B F a b) 0
def ab_fall (B : ab_BD) (F : ab_FT) (a b : ab_M3) : Bool := ab_fa B F a.1 b.1 || (ab_nr B F a.1 b.1 && (ab_fa B F a.2.1 b.2.1 || (ab_nr B F a.2.1 b.2.1 && ab_fa B F a.2.2 b.2.2)))
def ab_lt3 (x y : Nat × Nat × Nat) : Prop := x.1 < y.1 ∨ (x.1 ≤ y.1 ∧ (x.2.1 < y.2.1 ∨ (x.2.1 ≤ y.2.1 ∧ x.2.2 < y.2.2)))
def ab_n3 (ρ : Nat → Int) (a : ab_M3) : Nat × Nat × Nat := (ab_nv ρ a.1, ab_nv ρ a.2.1, ab_nv ρ a.2.2)
def ab_sy3 (n : Nat) (e : ab_ME) : Prop := (∀ s ∈ e.2.1, s < n) ∧ (∀ s ∈ e.2.2, s < n)
theorem ab_fall_ok {B : ab_BD} {F : ab_FT} {ρ : Nat → Int} {a b : ab_M3} (hB : ab_okB B ρ) (hF : ab_okF B.length F ρ) (ha : ab_sy3 B.length a.1 ∧ ab_sy3 B.length a.2.1 ∧ ab_sy3 B.length a.2.2) (hb : ab_sy3 B.length b.1 ∧ ab_sy3 B.length b.2.1 ∧ ab_sy3 B.length b.2.2) (h : ab_fall B F a b = true) : ab_lt3 (ab_n3 ρ a) (ab_n3 ρ b) := by
  have fa : ∀ x y : ab_ME, ab_sy3 B.length x → ab_sy3 B.length y → ab_fa B F x y = true → ab_nv ρ x < ab_nv ρ y := by
    intro x y hx hy h
    unfold ab_fa ab_low at h
    rw [Bool.and_eq_true, ab_le_iff, ab_le_iff] at h
    have g1 := ab_dif_ok (a := x) (b := y) hB hF hx.1 hx.2 hy.1 hy.2
    have g2 := ab_dif_ok (a := (0, [], [])) (b := x) hB hF (fun s hs => by cases hs) (fun s hs => by cases hs) hx.1 hx.2
    have g3 : ab_mev ρ (0, [], []) = 0 := rfl
    unfold ab_nv
    omega
  have nr : ∀ x y : ab_ME, ab_sy3 B.length x → ab_sy3 B.length y → ab_nr B F x y = true → ab_nv ρ x ≤ ab_nv ρ y := by
    intro x y hx hy h
    unfold ab_nr at h
    rw [ab_le_iff] at h
    have g1 := ab_dif_ok (a := x) (b := y) hB hF hx.1 hx.2 hy.1 hy.2
    unfold ab_nv
    omega
  unfold ab_fall at h
  rw [Bool.or_eq_true, Bool.and_eq_true, Bool.or_eq_true, Bool.and_eq_true] at h
  rcases h with h | ⟨h1, h | ⟨h2, h3⟩⟩
  · exact Or.inl (fa _ _ ha.1 hb.1 h)
  · exact Or.inr ⟨nr _ _ ha.1 hb.1 h1, Or.inl (fa _ _ ha.2.1 hb.2.1 h)⟩
  · exact Or.inr ⟨nr _ _ ha.1 hb.1 h1, Or.inr ⟨nr _ _ ha.2.1 hb.2.1 h2, fa _ _ ha.2.2 hb.2.2 h3⟩⟩
theorem ab_lt3_ind {P : Nat × Nat × Nat → Prop} (h : ∀ x, (∀ y, ab_lt3 y x → P y) → P x) : ∀ x, P x := by
  have key : ∀ a b c : Nat, P (a, b, c) := by
    intro a
    induction a using Nat.strongRecOn with
    | ind a iha =>
      intro b
      induction b using Nat.strongRecOn with
      | ind b ihb =>
        intro c
        induction c using Nat.strongRecOn with
        | ind c ihc =>
          refine h _ (fun y hy => ?_)
          obtain ⟨y1, y2, y3⟩ := y
          rcases hy with hy | ⟨h1, hy | ⟨h2, hy⟩⟩
          · exact iha y1 hy y2 y3
          · rcases Nat.lt_or_ge y1 a with g | g
            · exact iha y1 g y2 y3
            · have : y1 = a := Nat.le_antisymm h1 g
              subst this
              exact ihb y2 hy y3
          · rcases Nat.lt_or_ge y1 a with g | g
            · exact iha y1 g y2 y3
            · have : y1 = a := Nat.le_antisymm h1 g
              subst this
              rcases Nat.lt_or_ge y2 b with g2 | g2
              · exact ihb y2 g2 y3
              · have : y2 = b := Nat.le_antisymm h2 g2
                subst this
                exact ihc y3 hy
  exact fun x => key x.1 x.2.1 x.2.2
