/-! a pattern held against what is known: th gives each symbol of the pattern a symbol and a number -/
abbrev ab_TH : Type := List (Nat × Int)
def ab_ieq (a b : Int) : Bool := ab_le a b && ab_le b a
theorem ab_ieq_ok {a b : Int} (h : ab_ieq a b = true) : a = b := by
  unfold ab_ieq at h
  rw [Bool.and_eq_true, ab_le_iff, ab_le_iff] at h
  omega
def ab_thv (θ : ab_TH) (ρ : Nat → Int) (s : Nat) : Int := match θ[s]? with
  | some q => ρ q.1 + q.2
  | none => 0
def ab_eqv (θ : ab_TH) (p a : ab_AV) : Bool := p.1.beq a.1 && (match p.1 with
  | 2 => p.2.1.beq a.2.1
  | 3 => true
  | 0 => (match θ[p.2.1]? with | some q => q.1.beq a.2.1 && ab_ieq (q.2 + p.2.2) a.2.2 | none => false)
  | 1 => (match θ[p.2.1]? with | some q => q.1.beq a.2.1 && ab_ieq (q.2 + p.2.2) a.2.2 | none => false)
  | 4 => (match θ[p.2.1]? with | some q => q.1.beq a.2.1 && ab_ieq (q.2 + p.2.2) a.2.2 | none => false)
  | _ => p.2.1.beq a.2.1)
theorem ab_thn {θ : ab_TH} {ρ : Nat → Int} {s u : Nat} {c d : Int} (h : (match θ[s]? with | some q => q.1.beq u && ab_ieq (q.2 + c) d | none => false) = true) : s < θ.length ∧ ab_thv θ ρ s + c = ρ u + d := by
  unfold ab_thv
  split at h
  · rename_i q9 hq9
    rw [Bool.and_eq_true] at h
    have h1 := ab_beq h.1
    have h2 := ab_ieq_ok h.2
    exact ⟨(List.getElem?_eq_some_iff.mp hq9).1, by show ρ q9.1 + q9.2 + c = _; rw [h1]; omega⟩
  · cases h
theorem ab_eqv_ok {θ : ab_TH} {ρ : Nat → Int} {ad wr cr : Nat → Nat} {p a : ab_AV} (h : ab_eqv θ p a = true) : ab_V ad wr cr (ab_thv θ ρ) p = ab_V ad wr cr ρ a ∧ ab_sy θ.length p := by
  obtain ⟨t, s, c⟩ := p
  obtain ⟨t', u, d⟩ := a
  unfold ab_eqv at h
  rw [Bool.and_eq_true] at h
  have h1 : t = t' := ab_beq h.1
  subst h1
  have h2 := h.2
  match t, h2 with
  | 0, h2 =>
    obtain ⟨g1, g2⟩ := ab_thn (ρ := ρ) h2
    exact ⟨by show Value.int _ = Value.int _; rw [g2], g1⟩
  | 1, h2 =>
    obtain ⟨g1, g2⟩ := ab_thn (ρ := ρ) h2
    exact ⟨by show Value.long _ = Value.long _; rw [g2], g1⟩
  | 2, h2 =>
    have h3 : s = u := ab_beq h2
    subst h3
    exact ⟨rfl, trivial⟩
  | 3, _ => exact ⟨rfl, trivial⟩
  | 4, h2 =>
    obtain ⟨g1, g2⟩ := ab_thn (ρ := ρ) h2
    exact ⟨by show ab_wv _ _ = ab_wv _ _; rw [g2], g1⟩
  | n + 5, h2 =>
    have h3 : s = u := ab_beq h2
    subst h3
    exact ⟨rfl, trivial⟩
def ab_eqs (θ : ab_TH) : List ab_AV → List ab_AV → Bool
  | [], [] => true
  | p :: P, a :: S => ab_eqv θ p a && ab_eqs θ P S
  | _, _ => false
theorem ab_eqs_ok {θ : ab_TH} {ρ : Nat → Int} {ad wr cr : Nat → Nat} : ∀ {P S : List ab_AV}, ab_eqs θ P S = true → P.map (ab_V ad wr cr (ab_thv θ ρ)) = S.map (ab_V ad wr cr ρ) ∧ ∀ a ∈ P, ab_sy θ.length a := by
  intro P
  induction P with
  | nil =>
    intro S h
    cases S with
    | nil => exact ⟨rfl, fun a ha => by cases ha⟩
    | cons a S => cases h
  | cons p P ih =>
    intro S h
    cases S with
    | nil => cases h
    | cons a S =>
      unfold ab_eqs at h
      rw [Bool.and_eq_true] at h
      obtain ⟨g1, g2⟩ := ab_eqv_ok (ρ := ρ) (ad := ad) (wr := wr) (cr := cr) h.1
      obtain ⟨g3, g4⟩ := ih h.2
      refine ⟨by rw [List.map_cons, List.map_cons, g1, g3], fun b hb => ?_⟩
      rcases List.mem_cons.mp hb with rfl | hb
      · exact g2
      · exact g4 b hb
def ab_vb (B : ab_BD) : ab_TH → ab_BD → Bool
  | [], [] => true
  | q :: θ, b :: PB => ab_le b.1 (ab_lo B q.1 + q.2) && ab_le (ab_hi B q.1 + q.2) b.2 && ab_vb B θ PB
  | _, _ => false
theorem ab_vb_ok {B : ab_BD} {ρ : Nat → Int} (hB : ab_okB B ρ) : ∀ (θ : ab_TH) (PB : ab_BD), (∀ q ∈ θ, q.1 < B.length) → ab_vb B θ PB = true → ab_okB PB (ab_thv θ ρ) ∧ θ.length = PB.length := by
  intro θ
  induction θ with
  | nil =>
    intro PB _ h
    cases PB with
    | nil => exact ⟨fun i hi => absurd hi (Nat.not_lt_zero _), rfl⟩
    | cons b PB => cases h
  | cons q θ ih =>
    intro PB hq h
    cases PB with
    | nil => cases h
    | cons b PB =>
      unfold ab_vb at h
      rw [Bool.and_eq_true, Bool.and_eq_true, ab_le_iff, ab_le_iff] at h
      obtain ⟨g1, g2⟩ := ih PB (fun r hr => hq r (List.mem_cons_of_mem _ hr)) h.2
      have g3 := hB q.1 (hq q List.mem_cons_self)
      refine ⟨?_, by rw [List.length_cons, List.length_cons, g2]⟩
      intro i hi
      cases i with
      | zero =>
        have e : ab_thv (q :: θ) ρ 0 = ρ q.1 + q.2 := rfl
        rw [e]
        show b.1 ≤ _ ∧ _ ≤ b.2
        omega
      | succ i =>
        rw [List.length_cons] at hi
        exact g1 i (by omega)
/-- a place's name, taken over by th -/
def ab_mk (θ : ab_TH) (j : Nat) : Option Nat := cond (j.ble 1999999) (some j) (match θ[(j - 2000000) / 1000]? with
  | some q => cond (ab_le 0 (q.2 + (((j - 2000000) % 1000 : Nat) : Int)) && ab_le (q.2 + (((j - 2000000) % 1000 : Nat) : Int)) 999) (some (2000000 + 1000 * q.1 + (q.2 + (((j - 2000000) % 1000 : Nat) : Int)).toNat)) none
  | none => none)
theorem ab_mk_ok {θ : ab_TH} {ρ : Nat → Int} {n j j' : Nat} (hθ : ∀ q ∈ θ, q.1 < n) (h : ab_mk θ j = some j') : ab_kn θ.length j ∧ ab_kn n j' ∧ ab_kv ρ j' = ab_kv (ab_thv θ ρ) j := by
  unfold ab_mk at h
  cases hc : j.ble 1999999 with
  | true =>
    rw [hc] at h
    cases h
    exact ⟨Or.inl hc, Or.inl hc, by rw [ab_kv_pl hc, ab_kv_pl hc]⟩
  | false =>
    rw [hc] at h
    replace h : (match θ[(j - 2000000) / 1000]? with
      | some q => cond (ab_le 0 (q.2 + (((j - 2000000) % 1000 : Nat) : Int)) && ab_le (q.2 + (((j - 2000000) % 1000 : Nat) : Int)) 999) (some (2000000 + 1000 * q.1 + (q.2 + (((j - 2000000) % 1000 : Nat) : Int)).toNat)) none
      | none => none) = some j' := h
    split at h
    · rename_i q9 hq9
      obtain ⟨g, h2⟩ := ab_cs h
      rw [Bool.and_eq_true, ab_le_iff, ab_le_iff] at g
      have hl := (List.getElem?_eq_some_iff.mp hq9).1
      have hm := hθ q9 (List.mem_of_getElem? hq9)
      have ev : ab_thv θ ρ ((j - 2000000) / 1000) = ρ q9.1 + q9.2 := by unfold ab_thv; rw [hq9]
      generalize hz : q9.2 + (((j - 2000000) % 1000 : Nat) : Int) = z at g h2
      have e1 : (j' - 2000000) / 1000 = q9.1 := by omega
      have e2 : (j' - 2000000) % 1000 = z.toNat := by omega
      have e3 : j'.ble 1999999 = false := by rw [← Bool.not_eq_true]; intro q; have := Nat.le_of_ble_eq_true q; omega
      refine ⟨Or.inr hl, Or.inr (by rw [e1]; exact hm), ?_⟩
      unfold ab_kv
      rw [hc, e3, e1, e2]
      show (ρ q9.1 + ((z.toNat : Nat) : Int)).toNat = (ab_thv θ ρ ((j - 2000000) / 1000) + (((j - 2000000) % 1000 : Nat) : Int)).toNat
      rw [ev, Int.toNat_of_nonneg g.1, ← hz, Int.add_assoc]
    · cases h
def ab_vf (θ : ab_TH) (PL : ab_LS) (PS : List ab_AV) (PB : ab_BD) (PF : ab_FT) (PD : ab_DL) (PM : ab_ML) (L : ab_LS) (S : List ab_AV) (B : ab_BD) (F : ab_FT) (Dl : ab_DL) (M : ab_ML) : Bool :=
  θ.all (fun q => (q.1 + 1).ble B.length) && (match θ with | q :: _ => q.1.beq 0 && ab_ieq q.2 0 | [] => false) && ab_vb B θ PB &&
  PL.all (fun q => match ab_lk L q.1 with | some a => ab_eqv θ q.2 a | none => false) && ab_eqs θ PS S &&
  PF.all (fun f => match θ[f.1]?, θ[f.2.1]? with | some a, some b => ab_le (ab_ub B F a.1 b.1 + a.2 - b.2) f.2.2 | _, _ => false) &&
  PD.all (fun d => match ab_mk θ d.1.2 with | some j => (match ab_dk Dl d.1.1 j with | some q => (match θ[d.2.1]? with | some t => t.1.beq q.1 && ab_ieq (t.2 + d.2.2) q.2 | none => false) | none => false) | none => false) &&
  M.all (fun x => PM.any (fun y => y.1.beq x.1 && (y.2.beq x.2 || y.2.beq 1000000)))
theorem ab_okM_mono {M PM : ab_ML} {σ0 σ : ab_SG} (h : ab_okM M σ0 σ) (hm : M.all (fun x => PM.any (fun y => y.1.beq x.1 && (y.2.beq x.2 || y.2.beq 1000000))) = true) : ab_okM PM σ0 σ := by
  intro a b hab
  refine h a b (fun q hq hq2 => ?_)
  obtain ⟨y, hy, hy2⟩ := List.any_eq_true.mp (List.all_eq_true.mp hm q hq)
  rw [Bool.and_eq_true, Bool.or_eq_true] at hy2
  have e1 := ab_beq hy2.1
  refine hab y hy ⟨e1.trans hq2.1, ?_⟩
  rcases hy2.2 with g | g
  · have e2 := ab_beq g
    rcases hq2.2 with g2 | g2
    · exact Or.inl (e2.trans g2)
    · exact Or.inr (e2.trans g2)
  · exact Or.inr (ab_beq g)
theorem ab_vf_ok {θ : ab_TH} {PL : ab_LS} {PS : List ab_AV} {PB : ab_BD} {PF : ab_FT} {PD : ab_DL} {PM : ab_ML} {L : ab_LS} {S : List ab_AV} {B : ab_BD} {F : ab_FT} {Dl : ab_DL} {M : ab_ML} {T : ab_RG} {C : ab_CT} {σ0 σ : ab_SG} {ρ : Nat → Int} {ad wr cr : Nat → Nat} {nL : Nat} {ls : Array Slot} {st : List Value}
    (h : ab_vf θ PL PS PB PF PD PM L S B F Dl M = true) (hK : ab_K T C σ0 B F Dl M ρ σ) (hL : ab_okL ad wr cr B.length nL ρ L ls) (hS : ab_okS ad wr cr B.length ρ S st) :
    ab_K T C σ0 PB PF PD PM (ab_thv θ ρ) σ ∧ ab_okL ad wr cr PB.length nL (ab_thv θ ρ) PL ls ∧ ab_okS ad wr cr PB.length (ab_thv θ ρ) PS st := by
  unfold ab_vf at h
  rw [Bool.and_eq_true, Bool.and_eq_true, Bool.and_eq_true, Bool.and_eq_true, Bool.and_eq_true, Bool.and_eq_true, Bool.and_eq_true] at h
  obtain ⟨⟨⟨⟨⟨⟨⟨h1, h2⟩, h3⟩, h4⟩, h5⟩, h6⟩, h7⟩, h8⟩ := h
  obtain ⟨k1, k2, k3, k4, k5, k6, k7, k8⟩ := hK
  have hθ : ∀ q ∈ θ, q.1 < B.length := fun q hq => Nat.le_of_ble_eq_true (List.all_eq_true.mp h1 q hq)
  obtain ⟨v1, v2⟩ := ab_vb_ok k1 θ PB hθ h3
  have hz : ab_thv θ ρ 0 = 0 ∧ 0 < θ.length := by
    cases θ with
    | nil => cases h2
    | cons q θ =>
      replace h2 : (q.1.beq 0 && ab_ieq q.2 0) = true := h2
      rw [Bool.and_eq_true] at h2
      have e1 := ab_beq h2.1
      have e2 := ab_ieq_ok h2.2
      exact ⟨by show ρ q.1 + q.2 = 0; rw [e1, e2, k3]; rfl, by rw [List.length_cons]; omega⟩
  refine ⟨⟨v1, ?_, hz.1, by rw [← v2]; exact hz.2, ?_, k6, k7, ab_okM_mono k8 h8⟩, ?_, ?_⟩
  · intro f hf
    have g := List.all_eq_true.mp h6 f hf
    split at g
    · rename_i a9 b9 ha9 hb9
      have g2 := ab_le_iff.mp g
      have i1 := (List.getElem?_eq_some_iff.mp ha9).1
      have i2 := (List.getElem?_eq_some_iff.mp hb9).1
      have u := ab_ub_ok k1 k2 (hθ a9 (List.mem_of_getElem? ha9)) (hθ b9 (List.mem_of_getElem? hb9))
      refine ⟨by omega, by omega, ?_⟩
      have e1 : ab_thv θ ρ f.1 = ρ a9.1 + a9.2 := by unfold ab_thv; rw [ha9]
      have e2 : ab_thv θ ρ f.2.1 = ρ b9.1 + b9.2 := by unfold ab_thv; rw [hb9]
      rw [e1, e2]
      omega
    · cases g
  · intro d hd
    have g := List.all_eq_true.mp h7 d hd
    split at g
    · rename_i j9 hj9
      split at g
      · rename_i q9 hq9
        obtain ⟨g1, g2⟩ := ab_thn (ρ := ρ) g
        have g3 := k5 _ (ab_dk_mem hq9)
        obtain ⟨m1, -, m3⟩ := ab_mk_ok (ρ := ρ) hθ hj9
        exact ⟨by omega, by rw [← v2]; exact m1, by rw [g2, ← m3]; exact g3.2.2⟩
      · cases g
    · cases g
  · refine ⟨⟨hL.1.1, hL.1.2.1, ?_⟩, ?_⟩
    · intro q hq
      obtain ⟨x, hx, rfl⟩ := List.mem_map.mp hq
      have g := List.all_eq_true.mp h4 x hx
      split at g
      · rename_i a9 ha9
        obtain ⟨g1, -⟩ := ab_eqv_ok (ρ := ρ) (ad := ad) (wr := wr) (cr := cr) g
        show ls[x.1]? = some (.val (ab_V ad wr cr (ab_thv θ ρ) x.2))
        rw [g1]
        exact (ab_okL_at hL ha9).1
      · cases g
    · intro x hx
      have g := List.all_eq_true.mp h4 x hx
      split at g
      · rename_i a9 ha9
        rw [← v2]
        exact (ab_eqv_ok (ρ := ρ) (ad := ad) (wr := wr) (cr := cr) g).2
      · cases g
  · obtain ⟨g1, g2⟩ := ab_eqs_ok (ρ := ρ) (ad := ad) (wr := wr) (cr := cr) h5
    exact ⟨hS.1.trans g1.symm, by rw [← v2]; exact g2⟩
/-- th, guessed -/
def ab_mt (θ : List (Option (Nat × Int))) (p a : ab_AV) : List (Option (Nat × Int)) := match p.1 with
  | 2 => θ
  | 3 => θ
  | 5 => θ
  | _ => match θ[p.2.1]? with
    | some none => θ.set p.2.1 (some (a.2.1, a.2.2 - p.2.2))
    | _ => θ
def ab_mtS : List (Option (Nat × Int)) → List ab_AV → List ab_AV → List (Option (Nat × Int))
  | θ, p :: P, a :: S => ab_mtS (ab_mt θ p a) P S
  | θ, _, _ => θ
def ab_mtL (L : ab_LS) (θ : List (Option (Nat × Int))) (PL : ab_LS) : List (Option (Nat × Int)) := PL.foldl (fun θ q => match ab_lk L q.1 with | some a => ab_mt θ q.2 a | none => θ) θ
def ab_mko (θ : List (Option (Nat × Int))) (j : Nat) : Option Nat := cond (j.ble 1999999) (some j) (match θ[(j - 2000000) / 1000]? with
  | some (some q) => cond (ab_le 0 (q.2 + (((j - 2000000) % 1000 : Nat) : Int)) && ab_le (q.2 + (((j - 2000000) % 1000 : Nat) : Int)) 999) (some (2000000 + 1000 * q.1 + (q.2 + (((j - 2000000) % 1000 : Nat) : Int)).toNat)) none
  | _ => none)
def ab_mtD (Dl : ab_DL) (θ : List (Option (Nat × Int))) (PD : ab_DL) : List (Option (Nat × Int)) := PD.foldl (fun θ d => match ab_mko θ d.1.2 with
  | some j => (match ab_dk Dl d.1.1 j with | some q => ab_mt θ (0, d.2.1, d.2.2) (0, q.1, q.2) | none => θ)
  | none => θ) θ
def ab_fz : List (Option (Nat × Int)) → ab_BD → ab_TH
  | some q :: l, _ :: B => q :: ab_fz l B
  | none :: l, b :: B => (0, b.1) :: ab_fz l B
  | _, _ => []
def ab_rg : Nat → Nat → List (Option (Nat × Int))
  | 0, _ => []
  | n + 1, i => some (i, 0) :: ab_rg n (i + 1)
/-- th with the first n0 symbols as they are -/
def ab_gs (n0 : Nat) (PL : ab_LS) (PS : List ab_AV) (PB : ab_BD) (PD : ab_DL) (L : ab_LS) (S : List ab_AV) (Dl : ab_DL) : ab_TH :=
  ab_fz (ab_mtD Dl (ab_mtS (ab_mtL L (ab_rg n0 0 ++ List.replicate (PB.length - n0) none) PL) PS S) PD) PB
/-- each place of a pattern is read -/
def ab_mat (T : ab_RG) : ab_DL → ab_BD → ab_DL → Option (ab_BD × ab_DL)
  | [], B, Dl => some (B, Dl)
  | d :: PD, B, Dl => cond (d.1.2.ble 1999999) (match ab_get T d.1.1 d.1.2 d.1.2 0 B Dl with
    | some (_, B', Dl') => ab_mat T PD B' Dl'
    | none => none) (ab_mat T PD B Dl)
theorem ab_mat_ok {T : ab_RG} {C : ab_CT} {σ0 σ : ab_SG} {F : ab_FT} {M : ab_ML} : ∀ (PD : ab_DL) {B B' : ab_BD} {Dl Dl' : ab_DL} {ρ : Nat → Int}, ab_K T C σ0 B F Dl M ρ σ → ab_mat T PD B Dl = some (B', Dl') →
    ∃ ρ', ab_K T C σ0 B' F Dl' M ρ' σ ∧ B.length ≤ B'.length ∧ (∀ i, i < B.length → ρ' i = ρ i) := by
  intro PD
  induction PD with
  | nil => intro B B' Dl Dl' ρ hK h; cases h; exact ⟨ρ, hK, Nat.le_refl _, fun _ _ => rfl⟩
  | cons d PD ih =>
    intro B B' Dl Dl' ρ hK h
    unfold ab_mat at h
    cases hc : d.1.2.ble 1999999 with
    | false => rw [hc] at h; exact ih hK h
    | true =>
      rw [hc] at h
      replace h : (match ab_get T d.1.1 d.1.2 d.1.2 0 B Dl with
        | some (_, B', Dl') => ab_mat T PD B' Dl'
        | none => none) = some (B', Dl') := h
      split at h
      · rename_i q9 B9 Dl9 hg9
        obtain ⟨ρ1, a1, a2, a3, -, -⟩ := ab_get_ok hK hg9 (Nat.le_refl _) (Nat.le_refl _) (fun q => by cases q)
        obtain ⟨ρ2, b1, b2, b3⟩ := ih a1 h
        exact ⟨ρ2, b1, Nat.le_trans a2 b2, fun i hi => (b3 i (Nat.lt_of_lt_of_le hi a2)).trans (a3 i hi)⟩
      · cases h
