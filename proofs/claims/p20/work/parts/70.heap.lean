/-! reads and writes of the world's numbers -/
def ab_dk : ab_DL → Nat → Nat → Option (Nat × Int)
  | [], _, _ => none
  | d :: l, k, j => cond (d.1.1.beq k && d.1.2.beq j) (some d.2) (ab_dk l k j)
theorem ab_dk_mem : ∀ {l : ab_DL} {k j : Nat} {q : Nat × Int}, ab_dk l k j = some q → ((k, j), q) ∈ l := by
  intro l
  induction l with
  | nil => intro k j q h; cases h
  | cons d l ih =>
    intro k j q h
    unfold ab_dk at h
    cases hc : (d.1.1.beq k && d.1.2.beq j) with
    | true =>
      rw [hc] at h
      rw [Bool.and_eq_true] at hc
      have h1 := Nat.eq_of_beq_eq_true hc.1
      have h2 := Nat.eq_of_beq_eq_true hc.2
      have h3 : d.2 = q := Option.some.inj h
      rw [← h1, ← h2, ← h3]
      exact List.mem_cons_self
    | false => rw [hc] at h; exact List.mem_cons_of_mem _ (ih h)
/-- a read of one of the places from a to b; ix: the place's name by a symbol, or 0 -/
def ab_get (T : ab_RG) (k a b ix : Nat) (B : ab_BD) (Dl : ab_DL) : Option ((Nat × Int) × ab_BD × ab_DL) :=
  cond (a.beq b && a.ble 1999999)
    (match ab_dk Dl k a with
      | some q => some (q, B, Dl)
      | none => match ab_rdT T k a a with
        | some r => some ((B.length, 0), B ++ [(r.1, r.2)], ((k, a), (B.length, 0)) :: Dl)
        | none => none)
    (match cond ((2000000 : Nat).ble ix) (ab_dk Dl k ix) none with
      | some q => some (q, B, Dl)
      | none => match ab_rdT T k a b with
        | some r => some ((B.length, 0), B ++ [(r.1, r.2)], cond ((2000000 : Nat).ble ix) (((k, ix), (B.length, 0)) :: Dl) Dl)
        | none => none)
theorem ab_get_ok {T : ab_RG} {C : ab_CT} {σ0 σ : ab_SG} {B B' : ab_BD} {F : ab_FT} {Dl Dl' : ab_DL} {M : ab_ML} {ρ : Nat → Int} {k a b ix j : Nat} {q : Nat × Int}
    (hK : ab_K T C σ0 B F Dl M ρ σ) (h : ab_get T k a b ix B Dl = some (q, B', Dl')) (h1 : a ≤ j) (h2 : j ≤ b) (hix : (2000000 : Nat).ble ix = true → ab_kn B.length ix ∧ ab_kv ρ ix = j) :
    ∃ ρ', ab_K T C σ0 B' F Dl' M ρ' σ ∧ B.length ≤ B'.length ∧ (∀ i, i < B.length → ρ' i = ρ i) ∧ q.1 < B'.length ∧ ρ' q.1 + q.2 = σ k j := by
  have fr : ∀ r : Int × Int, r.1 ≤ σ k j → σ k j ≤ r.2 → ∃ ρ', ab_K T C σ0 (B ++ [(r.1, r.2)]) F Dl M ρ' σ ∧ B.length ≤ (B ++ [(r.1, r.2)]).length ∧ (∀ i, i < B.length → ρ' i = ρ i) ∧ B.length < (B ++ [(r.1, r.2)]).length ∧ ρ' B.length + 0 = σ k j := by
    intro r g1 g2
    have hl : (B ++ [(r.1, r.2)]).length = B.length + 1 := by rw [List.length_append, List.length_singleton]
    refine ⟨fun i => if i = B.length then σ k j else ρ i, ab_K_fresh hK g1 g2 [] (fun f hf => by cases hf), by omega, fun i hi => if_neg (by omega), by omega, ?_⟩
    show (if B.length = B.length then σ k j else ρ B.length) + 0 = σ k j
    rw [if_pos rfl, Int.add_zero]
  unfold ab_get at h
  cases hab : (a.beq b && a.ble 1999999) with
  | true =>
    rw [hab] at h
    rw [Bool.and_eq_true] at hab
    have := Nat.eq_of_beq_eq_true hab.1
    subst this
    have : j = a := by omega
    subst this
    replace h : (match ab_dk Dl k j with | some q => some (q, B, Dl) | none => match ab_rdT T k j j with | some r => some ((B.length, (0 : Int)), B ++ [(r.1, r.2)], ((k, j), (B.length, (0 : Int))) :: Dl) | none => none) = some (q, B', Dl') := h
    split at h
    · rename_i q9 hq9
      cases h
      have := hK.2.2.2.2.1 _ (ab_dk_mem hq9)
      refine ⟨ρ, hK, Nat.le_refl _, fun _ _ => rfl, this.1, ?_⟩
      have e := this.2.2
      replace e : σ k (ab_kv ρ j) = ρ q.1 + q.2 := e
      rw [ab_kv_pl hab.2] at e
      exact e.symm
    · split at h
      · rename_i r9 hr9
        cases h
        have g := ab_rdT_ok hK.2.2.2.2.2.1 hr9 (Nat.le_refl j) (Nat.le_refl j)
        obtain ⟨ρ', a1, a2, a3, a4, a5⟩ := fr r9 g.1 g.2
        refine ⟨ρ', ⟨a1.1, a1.2.1, a1.2.2.1, a1.2.2.2.1, ?_, a1.2.2.2.2.2⟩, a2, a3, a4, a5⟩
        intro d hd
        rcases List.mem_cons.mp hd with rfl | hd
        · exact ⟨a4, Or.inl hab.2, by rw [ab_kv_pl hab.2]; exact a5.symm⟩
        · exact a1.2.2.2.2.1 d hd
      · cases h
  | false =>
    rw [hab] at h
    replace h : (match cond ((2000000 : Nat).ble ix) (ab_dk Dl k ix) none with
      | some q => some (q, B, Dl)
      | none => match ab_rdT T k a b with
        | some r => some ((B.length, (0 : Int)), B ++ [(r.1, r.2)], cond ((2000000 : Nat).ble ix) (((k, ix), (B.length, (0 : Int))) :: Dl) Dl)
        | none => none) = some (q, B', Dl') := h
    split at h
    · rename_i q9 hq9
      cases h
      cases hc : (2000000 : Nat).ble ix with
      | false => rw [hc] at hq9; cases hq9
      | true =>
        rw [hc] at hq9
        replace hq9 : ab_dk Dl k ix = some q := hq9
        have := hK.2.2.2.2.1 _ (ab_dk_mem hq9)
        refine ⟨ρ, hK, Nat.le_refl _, fun _ _ => rfl, this.1, ?_⟩
        have e := this.2.2
        replace e : σ k (ab_kv ρ ix) = ρ q.1 + q.2 := e
        rw [(hix hc).2] at e
        exact e.symm
    · split at h
      · rename_i r9 hr9
        cases h
        have g := ab_rdT_ok hK.2.2.2.2.2.1 hr9 h1 h2
        cases hc : (2000000 : Nat).ble ix with
        | false => exact fr r9 g.1 g.2
        | true =>
          obtain ⟨ρ', a1, a2, a3, a4, a5⟩ := fr r9 g.1 g.2
          refine ⟨ρ', ⟨a1.1, a1.2.1, a1.2.2.1, a1.2.2.2.1, ?_, a1.2.2.2.2.2⟩, a2, a3, a4, a5⟩
          intro d hd
          rcases List.mem_cons.mp hd with rfl | hd
          · have g9 := hix hc
            exact ⟨a4, ab_kn_mono g9.1 a2, by show σ k (ab_kv ρ' ix) = _; rw [ab_kv_ext g9.1 a3, g9.2]; exact a5.symm⟩
          · exact a1.2.2.2.2.1 d hd
      · cases h
/-- a place's number, if it is known -/
def ab_pd (Dl : ab_DL) (p : Nat × Nat) : Option (Nat × Int) := cond (p.1.beq 1000) (some (0, 0)) (cond (p.2.ble 1999999) (ab_dk Dl p.1 p.2) none)
theorem ab_pd_ok {n : Nat} {Dl : ab_DL} {ρ : Nat → Int} {σ : ab_SG} {p : Nat × Nat} {q : Nat × Int} (h0 : ρ 0 = 0) (hn : 0 < n) (hD : ab_okD n Dl ρ σ) (h : ab_pd Dl p = some q) : q.1 < n ∧ ab_pv σ p = ρ q.1 + q.2 := by
  unfold ab_pd at h
  unfold ab_pv
  cases hc : p.1.beq 1000 with
  | true =>
    rw [hc] at h
    cases h
    exact ⟨hn, by show (0 : Int) = ρ 0 + 0; omega⟩
  | false =>
    rw [hc] at h
    cases hp : p.2.ble 1999999 with
    | false => rw [hp] at h; cases h
    | true =>
      rw [hp] at h
      replace h : ab_dk Dl p.1 p.2 = some q := h
      have := hD _ (ab_dk_mem h)
      refine ⟨this.1, ?_⟩
      have e := this.2.2
      replace e : σ p.1 (ab_kv ρ p.2) = ρ q.1 + q.2 := e
      rw [ab_kv_pl hp] at e
      exact e
/-- an atom is known to hold -/
def ab_atk (B : ab_BD) (F : ab_FT) (Dl : ab_DL) (a : ab_AT) : Bool := match ab_pd Dl a.1, ab_pd Dl a.2.1 with
  | some s, some t => ab_le (ab_ub B F s.1 t.1 + s.2 - t.2) a.2.2
  | _, _ => false
theorem ab_atk_ok {B : ab_BD} {F : ab_FT} {Dl : ab_DL} {ρ : Nat → Int} {σ : ab_SG} {a : ab_AT} (hB : ab_okB B ρ) (hF : ab_okF B.length F ρ) (h0 : ρ 0 = 0) (hn : 0 < B.length) (hD : ab_okD B.length Dl ρ σ) (h : ab_atk B F Dl a = true) : ab_okA σ a := by
  unfold ab_atk at h
  split at h
  · rename_i s9 t9 hs9 ht9
    have h := ab_le_iff.mp h
    obtain ⟨a1, a2⟩ := ab_pd_ok h0 hn hD hs9
    obtain ⟨b1, b2⟩ := ab_pd_ok h0 hn hD ht9
    have u := ab_ub_ok hB hF a1 b1
    unfold ab_okA
    rw [a2, b2]
    omega
  · cases h
/-- a place is one of those written -/
def ab_tc (k a b : Nat) (p : Nat × Nat) : Bool := p.1.beq k && a.ble p.2 && p.2.ble b
/-- an atom that held still holds -/
def ab_au (k a b : Nat) (sh : Option Int) (x : ab_AT) : Bool := match ab_tc k a b x.1, ab_tc k a b x.2.1 with
  | false, false => true
  | true, false => (match sh with | some d => ab_le d 0 | none => false)
  | false, true => (match sh with | some d => ab_le 0 d | none => false)
  | true, true => (match sh with | some _ => true | none => false)
/-- an atom is known not to hold -/
def ab_an (B : ab_BD) (F : ab_FT) (Dl : ab_DL) (a : ab_AT) : Bool := match ab_pd Dl a.1, ab_pd Dl a.2.1 with
  | some s, some t => ab_le (ab_ub B F t.1 s.1 + t.2 - s.2) (-a.2.2 - 1)
  | _, _ => false
theorem ab_an_ok {B : ab_BD} {F : ab_FT} {Dl : ab_DL} {ρ : Nat → Int} {σ : ab_SG} {a : ab_AT} (hB : ab_okB B ρ) (hF : ab_okF B.length F ρ) (h0 : ρ 0 = 0) (hn : 0 < B.length) (hD : ab_okD B.length Dl ρ σ) (h : ab_an B F Dl a = true) : ¬ ab_okA σ a := by
  unfold ab_an at h
  split at h
  · rename_i s9 t9 hs9 ht9
    have h := ab_le_iff.mp h
    obtain ⟨a1, a2⟩ := ab_pd_ok h0 hn hD hs9
    obtain ⟨b1, b2⟩ := ab_pd_ok h0 hn hD ht9
    have u := ab_ub_ok hB hF b1 a1
    unfold ab_okA
    rw [a2, b2]
    omega
  · cases h
def ab_cw (C : ab_CT) (B : ab_BD) (F : ab_FT) (D0 Dl : ab_DL) (k a b : Nat) (sh : Option Int) : Bool := match C[k]? with
  | some row => row.all (fun z => (b + 1).ble z.1 || z.2.1.ble a || z.2.2.all (fun q => q.all (fun x => ab_au k a b sh x || ab_an B F D0 x) || q.any (ab_atk B F Dl)))
  | none => true
def ab_drm (Dl : ab_DL) (k a b : Nat) : ab_DL := Dl.filter (fun d => !(d.1.1.beq k && ((a.ble d.1.2 && d.1.2.ble b) || !(d.1.2.ble 1999999))))
/-- by how much a known place changes -/
def ab_shf (Dl : ab_DL) (k a s : Nat) (c : Int) : Option Int := cond (a.ble 1999999) (match ab_dk Dl k a with | some q => cond (q.1.beq s) (some (c - q.2)) none | none => none) none
/-- a write of the number of (s, c) at one of the places from a to b -/
def ab_set (T : ab_RG) (C : ab_CT) (k a b : Nat) (s : Nat) (c : Int) (B : ab_BD) (F : ab_FT) (Dl : ab_DL) (M : ab_ML) : Option (ab_DL × ab_ML) :=
  cond (ab_wrT T k a b (ab_lo B s + c) (ab_hi B s + c) && b.ble 999999 && !(k.beq 1000))
    (cond (a.beq b)
      (cond (ab_cw C B F Dl (((k, a), (s, c)) :: ab_drm Dl k a a) k a a (ab_shf Dl k a s c)) (some (((k, a), (s, c)) :: ab_drm Dl k a a, (k, a) :: M)) none)
      (cond (ab_cw C B F Dl (ab_drm Dl k a b) k a b none) (some (ab_drm Dl k a b, (k, 1000000) :: M)) none))
    none
theorem ab_tc_no {k a b j : Nat} {p : Nat × Nat} (h : ab_tc k a b p = false) (h1 : a ≤ j) (h2 : j ≤ b) : ¬ (p.1 = k ∧ p.2 = j) := by
  rintro ⟨q1, q2⟩
  unfold ab_tc at h
  rw [q1, q2, show k.beq k = true from Nat.beq_refl k, show a.ble j = true from Nat.ble_eq_true_of_le h1, show j.ble b = true from Nat.ble_eq_true_of_le h2] at h
  cases h
theorem ab_pv_no {σ : ab_SG} {k j : Nat} {x : Int} {p : Nat × Nat} (h : ¬ (p.1 = k ∧ p.2 = j)) : ab_pv (ab_ups σ k j x) p = ab_pv σ p := by
  unfold ab_pv
  rw [ab_ups_ne h]
theorem ab_pv_yes {σ : ab_SG} {k j : Nat} {x : Int} {p : Nat × Nat} (h : ab_tc k j j p = true) (hk : k ≠ 1000) : ab_pv (ab_ups σ k j x) p = x ∧ ab_pv σ p = σ k j := by
  unfold ab_tc at h
  rw [Bool.and_eq_true, Bool.and_eq_true] at h
  have e1 := Nat.eq_of_beq_eq_true h.1.1
  have e2 := Nat.le_of_ble_eq_true h.1.2
  have e3 := Nat.le_of_ble_eq_true h.2
  have e4 : p.2 = j := by omega
  have hc : p.1.beq 1000 = false := by
    rw [← Bool.not_eq_true]
    intro q
    exact hk (e1.symm.trans (Nat.eq_of_beq_eq_true q))
  unfold ab_pv
  rw [hc, e1, e4]
  exact ⟨ab_ups_eq, rfl⟩
theorem ab_au_ok {σ : ab_SG} {k a b j : Nat} {x : Int} {sh : Option Int} {q : ab_AT} (hk : k ≠ 1000) (h1 : a ≤ j) (h2 : j ≤ b) (hsh : ∀ d, sh = some d → a = b ∧ x = σ k j + d) (h : ab_au k a b sh q = true) (ho : ab_okA σ q) : ab_okA (ab_ups σ k j x) q := by
  unfold ab_okA at ho ⊢
  unfold ab_au at h
  split at h
  · rename_i e1 e2
    rw [ab_pv_no (ab_tc_no e1 h1 h2), ab_pv_no (ab_tc_no e2 h1 h2)]
    exact ho
  · rename_i e1 e2
    split at h
    · rename_i d9
      obtain ⟨r1, r2⟩ := hsh d9 rfl
      subst r1
      have : j = a := by omega
      subst this
      have g := ab_le_iff.mp h
      obtain ⟨u1, u2⟩ := ab_pv_yes (σ := σ) (x := x) e1 hk
      rw [u1, ab_pv_no (ab_tc_no e2 h1 h2)]
      rw [u2] at ho
      omega
    · cases h
  · rename_i e1 e2
    split at h
    · rename_i d9
      obtain ⟨r1, r2⟩ := hsh d9 rfl
      subst r1
      have : j = a := by omega
      subst this
      have g := ab_le_iff.mp h
      obtain ⟨u1, u2⟩ := ab_pv_yes (σ := σ) (x := x) e2 hk
      rw [u1, ab_pv_no (ab_tc_no e1 h1 h2)]
      rw [u2] at ho
      omega
    · cases h
  · rename_i e1 e2
    split at h
    · rename_i d9
      obtain ⟨r1, r2⟩ := hsh d9 rfl
      subst r1
      have : j = a := by omega
      subst this
      obtain ⟨u1, u2⟩ := ab_pv_yes (σ := σ) (x := x) e1 hk
      obtain ⟨w1, w2⟩ := ab_pv_yes (σ := σ) (x := x) e2 hk
      rw [u1, w1]
      rw [u2, w2] at ho
      omega
    · cases h
theorem ab_set_ok {T : ab_RG} {C : ab_CT} {σ0 σ : ab_SG} {B : ab_BD} {F : ab_FT} {Dl Dl' : ab_DL} {M M' : ab_ML} {ρ : Nat → Int} {k a b j s : Nat} {c : Int}
    (hK : ab_K T C σ0 B F Dl M ρ σ) (h : ab_set T C k a b s c B F Dl M = some (Dl', M')) (hs : s < B.length) (h1 : a ≤ j) (h2 : j ≤ b) :
    ab_K T C σ0 B F Dl' M' ρ (ab_ups σ k j (ρ s + c)) := by
  obtain ⟨k1, k2, k3, k4, k5, k6, k7, k8⟩ := hK
  have hb := k1 s hs
  unfold ab_set at h
  cases hw : (ab_wrT T k a b (ab_lo B s + c) (ab_hi B s + c) && b.ble 999999 && !(k.beq 1000)) with
  | false => rw [hw] at h; cases h
  | true =>
    rw [hw] at h
    rw [Bool.and_eq_true, Bool.and_eq_true, Bool.not_eq_true'] at hw
    have hb9 := Nat.le_of_ble_eq_true hw.1.2
    have hk : k ≠ 1000 := by
      intro q
      have h9 := hw.2
      rw [q] at h9
      cases h9
    have hR : ab_okR T (ab_ups σ k j (ρ s + c)) := ab_wrT_ok k6 hw.1.1 h1 h2 (by omega) (by omega)
    have drm : ∀ d ∈ ab_drm Dl k a b, d.2.1 < B.length ∧ ab_kn B.length d.1.2 ∧ ab_ups σ k j (ρ s + c) d.1.1 (ab_kv ρ d.1.2) = ρ d.2.1 + d.2.2 := by
      intro d hd
      obtain ⟨g1, g2⟩ := List.mem_filter.mp hd
      obtain ⟨g3, g5, g4⟩ := k5 d g1
      refine ⟨g3, g5, ?_⟩
      rw [ab_ups_ne ?_]
      · exact g4
      · rintro ⟨q1, q2⟩
        rw [q1, show k.beq k = true from Nat.beq_refl k, Bool.true_and, Bool.not_or, Bool.and_eq_true, Bool.not_not] at g2
        rw [ab_kv_pl g2.2] at q2
        rw [q2, show a.ble j = true from Nat.ble_eq_true_of_le h1, show j.ble b = true from Nat.ble_eq_true_of_le h2] at g2
        exact absurd g2.1 (by decide)
    have cl : ∀ (D9 : ab_DL) (sh : Option Int), (∀ d ∈ D9, d.2.1 < B.length ∧ ab_kn B.length d.1.2 ∧ ab_ups σ k j (ρ s + c) d.1.1 (ab_kv ρ d.1.2) = ρ d.2.1 + d.2.2) → (∀ d, sh = some d → a = b ∧ ρ s + c = σ k j + d) → ab_cw C B F Dl D9 k a b sh = true → ab_okC C (ab_ups σ k j (ρ s + c)) := by
      intro D9 sh hD9 hsh hc
      refine ⟨k7.1, fun k' row hrow z hz q hq => ?_⟩
      obtain ⟨x, hx, hx2⟩ := k7.2 k' row hrow z hz q hq
      by_cases hin : ab_inC C (k, j) q
      · obtain ⟨r, hr, z9, hz9, z1, z2, hqr⟩ := hin
        unfold ab_cw at hc
        replace hr : C[k]? = some r := hr
        rw [hr] at hc
        have hc1 := List.all_eq_true.mp hc z9 hz9
        rw [Bool.or_eq_true, Bool.or_eq_true] at hc1
        replace z1 : z9.1 ≤ j := z1
        replace z2 : j < z9.2.1 := z2
        have hc1 := hc1.resolve_left (fun g => by
          rcases g with g | g
          · have := Nat.le_of_ble_eq_true g; omega
          · have := Nat.le_of_ble_eq_true g; omega)
        have hc2 := List.all_eq_true.mp hc1 q hqr
        rw [Bool.or_eq_true] at hc2
        rcases hc2 with hc2 | hc2
        · have hc3 := List.all_eq_true.mp hc2 x hx
          rw [Bool.or_eq_true] at hc3
          rcases hc3 with hc3 | hc3
          · exact ⟨x, hx, ab_au_ok hk h1 h2 hsh hc3 hx2⟩
          · exact absurd hx2 (ab_an_ok k1 k2 k3 k4 k5 hc3)
        · obtain ⟨y, hy, hy2⟩ := List.any_eq_true.mp hc2
          exact ⟨y, hy, ab_atk_ok k1 k2 k3 k4 hD9 hy2⟩
      · refine ⟨x, hx, ?_⟩
        obtain ⟨w1, w2⟩ := k7.1 k' row hrow z hz q hq x hx
        have n1 : ¬ (x.1.1 = k ∧ x.1.2 = j) := by
          rintro ⟨e1, e2⟩
          rcases w1 with w1 | w1
          · exact hk (e1.symm.trans w1)
          · rw [show x.1 = (k, j) from Prod.ext e1 e2] at w1; exact hin w1
        have n2 : ¬ (x.2.1.1 = k ∧ x.2.1.2 = j) := by
          rintro ⟨e1, e2⟩
          rcases w2 with w2 | w2
          · exact hk (e1.symm.trans w2)
          · rw [show x.2.1 = (k, j) from Prod.ext e1 e2] at w2; exact hin w2
        unfold ab_okA at hx2 ⊢
        rw [ab_pv_no n1, ab_pv_no n2]
        exact hx2
    have okM : ∀ M9 : ab_ML, (∀ q ∈ M, q ∈ M9) → (∃ q ∈ M9, q.1 = k ∧ (q.2 = j ∨ q.2 = 1000000)) → ab_okM M9 σ0 (ab_ups σ k j (ρ s + c)) := by
      intro M9 hsub hin x y hxy
      rw [ab_ups_ne ?_]
      · exact k8 x y (fun q hq => hxy q (hsub q hq))
      · rintro ⟨q1, q2⟩
        obtain ⟨q, hq, g1, g2⟩ := hin
        refine hxy q hq ⟨g1.trans q1.symm, ?_⟩
        rcases g2 with g2 | g2
        · exact Or.inl (g2.trans q2.symm)
        · exact Or.inr g2
    cases hab : a.beq b with
    | true =>
      rw [hab] at h
      have := Nat.eq_of_beq_eq_true hab
      subst this
      have hja : j = a := by omega
      subst hja
      replace h : cond (ab_cw C B F Dl (((k, j), (s, c)) :: ab_drm Dl k j j) k j j (ab_shf Dl k j s c)) (some (((k, j), (s, c)) :: ab_drm Dl k j j, (k, j) :: M)) none = some (Dl', M') := h
      cases hc : ab_cw C B F Dl (((k, j), (s, c)) :: ab_drm Dl k j j) k j j (ab_shf Dl k j s c) with
      | false => rw [hc] at h; cases h
      | true =>
        rw [hc] at h
        cases h
        have hpl : j.ble 1999999 = true := Nat.ble_eq_true_of_le (by omega)
        have hD9 : ∀ d ∈ ((k, j), (s, c)) :: ab_drm Dl k j j, d.2.1 < B.length ∧ ab_kn B.length d.1.2 ∧ ab_ups σ k j (ρ s + c) d.1.1 (ab_kv ρ d.1.2) = ρ d.2.1 + d.2.2 := by
          intro d hd
          rcases List.mem_cons.mp hd with rfl | hd
          · exact ⟨hs, Or.inl hpl, by show ab_ups σ k j (ρ s + c) k (ab_kv ρ j) = _; rw [ab_kv_pl hpl]; exact ab_ups_eq⟩
          · exact drm d hd
        refine ⟨k1, k2, k3, k4, hD9, hR, cl _ _ hD9 (fun d hd => ⟨rfl, ?_⟩) hc, okM _ (fun q hq => List.mem_cons_of_mem _ hq) ⟨(k, j), List.mem_cons_self, rfl, Or.inl rfl⟩⟩
        unfold ab_shf at hd
        rw [hpl] at hd
        replace hd : (match ab_dk Dl k j with | some q => cond (q.1.beq s) (some (c - q.2)) none | none => none) = some d := hd
        split at hd
        · rename_i q9 hq9
          cases hcs : q9.1.beq s with
          | false => rw [hcs] at hd; cases hd
          | true =>
            rw [hcs] at hd
            cases hd
            have e := (k5 _ (ab_dk_mem hq9)).2.2
            replace e : σ k (ab_kv ρ j) = ρ q9.1 + q9.2 := e
            rw [ab_kv_pl hpl, Nat.eq_of_beq_eq_true hcs] at e
            rw [e]
            omega
        · cases hd
    | false =>
      rw [hab] at h
      replace h : cond (ab_cw C B F Dl (ab_drm Dl k a b) k a b none) (some (ab_drm Dl k a b, (k, 1000000) :: M)) none = some (Dl', M') := h
      cases hc : ab_cw C B F Dl (ab_drm Dl k a b) k a b none with
      | false => rw [hc] at h; cases h
      | true =>
        rw [hc] at h
        cases h
        exact ⟨k1, k2, k3, k4, drm, hR, cl _ _ drm (fun d hd => by cases hd) hc, okM _ (fun q hq => List.mem_cons_of_mem _ hq) ⟨(k, 1000000), List.mem_cons_self, rfl, Or.inr rfl⟩⟩
