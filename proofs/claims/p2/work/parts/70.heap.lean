/-! reads and writes of the world's numbers -/
def ab_dk : ab_DL → Nat → Nat → Option (Nat × Int)
  | [], _, _ => none
  | d :: l, k, j => cond (d.1.1.beq k && d.1.2.beq j) (some d.2) (ab_dk l k j)
theorem ab_dk_mem : ∀ {l : ab_DL} {k j : Nat} {q : Nat × Int}, ab_dk l k j = some q → ((k, j), q) ∈ l := by
  intro l
  induction l with
  | nil => intro k j q h; cases h
  | cons d l ih =>
    intro k j q h
    unfold ab_dk at h
    cases hc : (d.1.1.beq k && d.1.2.beq j) with
    | true =>
      rw [hc] at h
      rw [Bool.and_eq_true] at hc
      have h1 := Nat.eq_of_beq_eq_true hc.1
      have h2 := Nat.eq_of_beq_eq_true hc.2
      have h3 : d.2 = q := Option.some.inj h
      rw [← h1, ← h2, ← h3]
      exact List.mem_cons_self
    | false => rw [hc] at h; exact List.mem_cons_of_mem _ (ih h)
def ab_get (T : ab_RG) (k a b : Nat) (B : ab_BD) (Dl : ab_DL) : Option ((Nat × Int) × ab_BD × ab_DL) :=
  cond (a.beq b)
    (match ab_dk Dl k a with
      | some q => some (q, B, Dl)
      | none => match ab_rdT T k a a with
        | some r => some ((B.length, 0), B ++ [(r.1, r.2)], ((k, a), (B.length, 0)) :: Dl)
        | none => none)
    (match ab_rdT T k a b with
      | some r => some ((B.length, 0), B ++ [(r.1, r.2)], Dl)
      | none => none)
theorem ab_get_ok {T : ab_RG} {C : ab_CT} {σ0 σ : ab_SG} {B B' : ab_BD} {F : ab_FT} {Dl Dl' : ab_DL} {M : ab_ML} {ρ : Nat → Int} {k a b j : Nat} {q : Nat × Int}
    (hK : ab_K T C σ0 B F Dl M ρ σ) (h : ab_get T k a b B Dl = some (q, B', Dl')) (h1 : a ≤ j) (h2 : j ≤ b) :
    ∃ ρ', ab_K T C σ0 B' F Dl' M ρ' σ ∧ B.length ≤ B'.length ∧ (∀ i, i < B.length → ρ' i = ρ i) ∧ q.1 < B'.length ∧ ρ' q.1 + q.2 = σ k j := by
  have fr : ∀ r : Int × Int, r.1 ≤ σ k j → σ k j ≤ r.2 → ∃ ρ', ab_K T C σ0 (B ++ [(r.1, r.2)]) F Dl M ρ' σ ∧ B.length ≤ (B ++ [(r.1, r.2)]).length ∧ (∀ i, i < B.length → ρ' i = ρ i) ∧ B.length < (B ++ [(r.1, r.2)]).length ∧ ρ' B.length + 0 = σ k j := by
    intro r g1 g2
    have hl : (B ++ [(r.1, r.2)]).length = B.length + 1 := by rw [List.length_append, List.length_singleton]
    refine ⟨fun i => if i = B.length then σ k j else ρ i, ab_K_fresh hK g1 g2 [] (fun f hf => by cases hf), by omega, fun i hi => if_neg (by omega), by omega, ?_⟩
    show (if B.length = B.length then σ k j else ρ B.length) + 0 = σ k j
    rw [if_pos rfl, Int.add_zero]
  unfold ab_get at h
  cases hab : a.beq b with
  | true =>
    rw [hab] at h
    have := Nat.eq_of_beq_eq_true hab
    subst this
    have : j = a := by omega
    subst this
    replace h : (match ab_dk Dl k j with | some q => some (q, B, Dl) | none => match ab_rdT T k j j with | some r => some ((B.length, (0 : Int)), B ++ [(r.1, r.2)], ((k, j), (B.length, (0 : Int))) :: Dl) | none => none) = some (q, B', Dl') := h
    split at h
    · rename_i q9 hq9
      cases h
      have := hK.2.2.2.2.1 _ (ab_dk_mem hq9)
      exact ⟨ρ, hK, Nat.le_refl _, fun _ _ => rfl, this.1, this.2.symm⟩
    · split at h
      · rename_i r9 hr9
        cases h
        have g := ab_rdT_ok hK.2.2.2.2.2.1 hr9 (Nat.le_refl j) (Nat.le_refl j)
        obtain ⟨ρ', a1, a2, a3, a4, a5⟩ := fr r9 g.1 g.2
        refine ⟨ρ', ⟨a1.1, a1.2.1, a1.2.2.1, a1.2.2.2.1, ?_, a1.2.2.2.2.2⟩, a2, a3, a4, a5⟩
        intro d hd
        rcases List.mem_cons.mp hd with rfl | hd
        · exact ⟨a4, a5.symm⟩
        · exact a1.2.2.2.2.1 d hd
      · cases h
  | false =>
    rw [hab] at h
    replace h : (match ab_rdT T k a b with | some r => some ((B.length, (0 : Int)), B ++ [(r.1, r.2)], Dl) | none => none) = some (q, B', Dl') := h
    split at h
    · rename_i r9 hr9
      cases h
      have g := ab_rdT_ok hK.2.2.2.2.2.1 hr9 h1 h2
      exact fr r9 g.1 g.2
    · cases h
/-- a clause's row is known to hold -/
def ab_atk (B : ab_BD) (Dl : ab_DL) (k : Nat) (a : Nat × Int × Int) : Bool := match ab_dk Dl k a.1 with
  | some q => ab_le a.2.1 (ab_lo B q.1 + q.2) && ab_le (ab_hi B q.1 + q.2) a.2.2
  | none => false
def ab_cw (C : ab_CT) (B : ab_BD) (Dl : ab_DL) (k a b : Nat) : Bool := match C[k]? with
  | some row => row.all (fun q => q.all (fun x => (x.1 + 1).ble a || (b + 1).ble x.1) || q.any (ab_atk B Dl k))
  | none => true
def ab_drm (Dl : ab_DL) (k a b : Nat) : ab_DL := Dl.filter (fun d => !(d.1.1.beq k && a.ble d.1.2 && d.1.2.ble b))
/-- a write of the number of (s, c) at one of the places from a to b -/
def ab_set (T : ab_RG) (C : ab_CT) (k a b : Nat) (s : Nat) (c : Int) (B : ab_BD) (Dl : ab_DL) (M : ab_ML) : Option (ab_DL × ab_ML) :=
  cond (ab_wrT T k a b (ab_lo B s + c) (ab_hi B s + c))
    (cond (a.beq b)
      (cond (ab_cw C B (((k, a), (s, c)) :: ab_drm Dl k a a) k a a) (some (((k, a), (s, c)) :: ab_drm Dl k a a, (k, a) :: M)) none)
      (cond (ab_cw C B (ab_drm Dl k a b) k a b) (some (ab_drm Dl k a b, (k, 1000000) :: M)) none))
    none
theorem ab_set_ok {T : ab_RG} {C : ab_CT} {σ0 σ : ab_SG} {B : ab_BD} {F : ab_FT} {Dl Dl' : ab_DL} {M M' : ab_ML} {ρ : Nat → Int} {k a b j s : Nat} {c : Int}
    (hK : ab_K T C σ0 B F Dl M ρ σ) (h : ab_set T C k a b s c B Dl M = some (Dl', M')) (hs : s < B.length) (h1 : a ≤ j) (h2 : j ≤ b) :
    ab_K T C σ0 B F Dl' M' ρ (ab_ups σ k j (ρ s + c)) := by
  obtain ⟨k1, k2, k3, k4, k5, k6, k7, k8⟩ := hK
  have hb := k1 s hs
  unfold ab_set at h
  cases hw : ab_wrT T k a b (ab_lo B s + c) (ab_hi B s + c) with
  | false => rw [hw] at h; cases h
  | true =>
    rw [hw] at h
    have hR : ab_okR T (ab_ups σ k j (ρ s + c)) := ab_wrT_ok k6 hw h1 h2 (by omega) (by omega)
    have drm : ∀ d ∈ ab_drm Dl k a b, d.2.1 < B.length ∧ ab_ups σ k j (ρ s + c) d.1.1 d.1.2 = ρ d.2.1 + d.2.2 := by
      intro d hd
      obtain ⟨g1, g2⟩ := List.mem_filter.mp hd
      obtain ⟨g3, g4⟩ := k5 d g1
      refine ⟨g3, ?_⟩
      rw [ab_ups_ne ?_]
      · exact g4
      · rintro ⟨q1, q2⟩
        rw [q1, q2, show k.beq k = true from Nat.beq_refl k, show a.ble j = true from Nat.ble_eq_true_of_le h1, show j.ble b = true from Nat.ble_eq_true_of_le h2] at g2
        cases g2
    have cl : ∀ D9 : ab_DL, (∀ d ∈ D9, d.2.1 < B.length ∧ ab_ups σ k j (ρ s + c) d.1.1 d.1.2 = ρ d.2.1 + d.2.2) → ab_cw C B D9 k a b = true → ab_okC C (ab_ups σ k j (ρ s + c)) := by
      intro D9 hD9 hc k' row hrow q hq
      by_cases hkk : k' = k
      · subst hkk
        unfold ab_cw at hc
        rw [hrow] at hc
        have hc2 := List.all_eq_true.mp hc q hq
        rw [Bool.or_eq_true] at hc2
        rcases hc2 with hc2 | hc2
        · obtain ⟨x, hx, hx2⟩ := k7 k' row hrow q hq
          have hx3 := List.all_eq_true.mp hc2 x hx
          rw [Bool.or_eq_true] at hx3
          refine ⟨x, hx, ?_⟩
          rw [ab_ups_ne ?_]
          · exact hx2
          · rintro ⟨-, q2⟩
            rcases hx3 with hx3 | hx3
            · have := Nat.le_of_ble_eq_true hx3; omega
            · have := Nat.le_of_ble_eq_true hx3; omega
        · obtain ⟨x, hx, hx2⟩ := List.any_eq_true.mp hc2
          unfold ab_atk at hx2
          cases hd : ab_dk D9 k' x.1 with
          | none => rw [hd] at hx2; cases hx2
          | some q9 =>
            rw [hd] at hx2
            replace hx2 : (ab_le x.2.1 (ab_lo B q9.1 + q9.2) && ab_le (ab_hi B q9.1 + q9.2) x.2.2) = true := hx2
            rw [Bool.and_eq_true, ab_le_iff, ab_le_iff] at hx2
            obtain ⟨g1, g2⟩ := hD9 _ (ab_dk_mem hd)
            have g3 := k1 _ g1
            replace g2 : ab_ups σ k' j (ρ s + c) k' x.1 = ρ q9.1 + q9.2 := g2
            replace g3 : ab_lo B q9.1 ≤ ρ q9.1 ∧ ρ q9.1 ≤ ab_hi B q9.1 := g3
            exact ⟨x, hx, by rw [g2]; omega, by rw [g2]; omega⟩
      · obtain ⟨x, hx, hx2⟩ := k7 k' row hrow q hq
        exact ⟨x, hx, by rw [ab_ups_ne (fun q => hkk q.1)]; exact hx2⟩
    have okM : ∀ M9 : ab_ML, (∀ q ∈ M, q ∈ M9) → (∃ q ∈ M9, q.1 = k ∧ (q.2 = j ∨ q.2 = 1000000)) → ab_okM M9 σ0 (ab_ups σ k j (ρ s + c)) := by
      intro M9 hsub hin x y hxy
      rw [ab_ups_ne ?_]
      · exact k8 x y (fun q hq => hxy q (hsub q hq))
      · rintro ⟨q1, q2⟩
        obtain ⟨q, hq, g1, g2⟩ := hin
        refine hxy q hq ⟨g1.trans q1.symm, ?_⟩
        rcases g2 with g2 | g2
        · exact Or.inl (g2.trans q2.symm)
        · exact Or.inr g2
    cases hab : a.beq b with
    | true =>
      rw [hab] at h
      have := Nat.eq_of_beq_eq_true hab
      subst this
      have hja : j = a := by omega
      subst hja
      replace h : cond (ab_cw C B (((k, j), (s, c)) :: ab_drm Dl k j j) k j j) (some (((k, j), (s, c)) :: ab_drm Dl k j j, (k, j) :: M)) none = some (Dl', M') := h
      cases hc : ab_cw C B (((k, j), (s, c)) :: ab_drm Dl k j j) k j j with
      | false => rw [hc] at h; cases h
      | true =>
        rw [hc] at h
        cases h
        have hD9 : ∀ d ∈ ((k, j), (s, c)) :: ab_drm Dl k j j, d.2.1 < B.length ∧ ab_ups σ k j (ρ s + c) d.1.1 d.1.2 = ρ d.2.1 + d.2.2 := by
          intro d hd
          rcases List.mem_cons.mp hd with rfl | hd
          · exact ⟨hs, ab_ups_eq⟩
          · exact drm d hd
        exact ⟨k1, k2, k3, k4, hD9, hR, cl _ hD9 hc, okM _ (fun q hq => List.mem_cons_of_mem _ hq) ⟨(k, j), List.mem_cons_self, rfl, Or.inl rfl⟩⟩
    | false =>
      rw [hab] at h
      replace h : cond (ab_cw C B (ab_drm Dl k a b) k a b) (some (ab_drm Dl k a b, (k, 1000000) :: M)) none = some (Dl', M') := h
      cases hc : ab_cw C B (ab_drm Dl k a b) k a b with
      | false => rw [hc] at h; cases h
      | true =>
        rw [hc] at h
        cases h
        exact ⟨k1, k2, k3, k4, drm, hR, cl _ drm hc, okM _ (fun q hq => List.mem_cons_of_mem _ hq) ⟨(k, 1000000), List.mem_cons_self, rfl, Or.inr rfl⟩⟩
