section
/-! a pattern held against what is known: th gives each symbol of the pattern a symbol and a number -/
abbrev ab_TH : Type := List (Nat × Int)
def ab_ieq (a b : Int) : Bool := ab_le a b && ab_le b a
theorem ab_ieq_ok {a b : Int} (h : ab_ieq a b = true) : a = b := by
  unfold ab_ieq at h
  rw [Bool.and_eq_true, ab_le_iff, ab_le_iff] at h
  omega
def ab_thv (θ : ab_TH) (ρ : Nat → Int) (s : Nat) : Int := match θ[s]? with
  | some q => ρ q.1 + q.2
  | none => 0
def ab_eqv (θ : ab_TH) (p a : ab_AV) : Bool := p.1.beq a.1 && (match p.1 with
  | 2 => p.2.1.beq a.2.1
  | 3 => true
  | 0 => (match θ[p.2.1]? with | some q => q.1.beq a.2.1 && ab_ieq (q.2 + p.2.2) a.2.2 | none => false)
  | 1 => (match θ[p.2.1]? with | some q => q.1.beq a.2.1 && ab_ieq (q.2 + p.2.2) a.2.2 | none => false)
  | 4 => (match θ[p.2.1]? with | some q => q.1.beq a.2.1 && ab_ieq (q.2 + p.2.2) a.2.2 | none => false)
  | _ => p.2.1.beq a.2.1)
theorem ab_thn {θ : ab_TH} {ρ : Nat → Int} {s u : Nat} {c d : Int} (h : (match θ[s]? with | some q => q.1.beq u && ab_ieq (q.2 + c) d | none => false) = true) : s < θ.length ∧ ab_thv θ ρ s + c = ρ u + d := by
  unfold ab_thv
  split at h
  · rename_i q9 hq9
    rw [Bool.and_eq_true] at h
    have h1 := ab_beq h.1
    have h2 := ab_ieq_ok h.2
    exact ⟨(List.getElem?_eq_some_iff.mp hq9).1, by show ρ q9.1 + q9.2 + c = _; rw [h1]; omega⟩
  · cases h
theorem ab_eqv_ok {θ : ab_TH} {ρ : Nat → Int} {ad wr cr : Nat → Nat} {p a : ab_AV} (h : ab_eqv θ p a = true) : ab_V ad wr cr (ab_thv θ ρ) p = ab_V ad wr cr ρ a ∧ ab_sy θ.length p := by
  obtain ⟨t, s, c⟩ := p
  obtain ⟨t', u, d⟩ := a
  unfold ab_eqv at h
  rw [Bool.and_eq_true] at h
  have h1 : t = t' := ab_beq h.1
  subst h1
  have h2 := h.2
  match t, h2 with
  | 0, h2 =>
    obtain ⟨g1, g2⟩ := ab_thn (ρ := ρ) h2
    exact ⟨by show Value.int _ = Value.int _; rw [g2], g1⟩
  | 1, h2 =>
    obtain ⟨g1, g2⟩ := ab_thn (ρ := ρ) h2
    exact ⟨by show Value.long _ = Value.long _; rw [g2], g1⟩
  | 2, h2 =>
    have h3 : s = u := ab_beq h2
    subst h3
    exact ⟨rfl, trivial⟩
  | 3, _ => exact ⟨rfl, trivial⟩
  | 4, h2 =>
    obtain ⟨g1, g2⟩ := ab_thn (ρ := ρ) h2
    exact ⟨by show ab_wv _ _ = ab_wv _ _; rw [g2], g1⟩
  | n + 5, h2 =>
    have h3 : s = u := ab_beq h2
    subst h3
    exact ⟨rfl, trivial⟩
def ab_eqs (θ : ab_TH) : List ab_AV → List ab_AV → Bool
  | [], [] => true
  | p :: P, a :: S => ab_eqv θ p a && ab_eqs θ P S
  | _, _ => false
theorem ab_eqs_ok {θ : ab_TH} {ρ : Nat → Int} {ad wr cr : Nat → Nat} : ∀ {P S : List ab_AV}, ab_eqs θ P S = true → P.map (ab_V ad wr cr (ab_thv θ ρ)) = S.map (ab_V ad wr cr ρ) ∧ ∀ a ∈ P, ab_sy θ.length a := by
  intro P
  induction P with
  | nil =>
    intro S h
    cases S with
    | nil => exact ⟨rfl, fun a ha => by cases ha⟩
    | cons a S => cases h
  | cons p P ih =>
    intro S h
    cases S with
    | nil => cases h
    | cons a S =>
      unfold ab_eqs at h
      rw [Bool.and_eq_true] at h
      obtain ⟨g1, g2⟩ := ab_eqv_ok (ρ := ρ) (ad := ad) (wr := wr) (cr := cr) h.1
      obtain ⟨g3, g4⟩ := ih h.2
      refine ⟨by rw [List.map_cons, List.map_cons, g1, g3], fun b hb => ?_⟩
      rcases List.mem_cons.mp hb with rfl | hb
      · exact g2
      · exact g4 b hb
def ab_vb (B : ab_BD) : ab_TH → ab_BD → Bool
  | [], [] => true
  | q :: θ, b :: PB => ab_le b.1 (ab_lo B q.1 + q.2) && ab_le (ab_hi B q.1 + q.2) b.2 && ab_vb B θ PB
  | _, _ => false
theorem ab_vb_ok {B : ab_BD} {ρ : Nat → Int} (hB : ab_okB B ρ) : ∀ (θ : ab_TH) (PB : ab_BD), (∀ q ∈ θ, q.1 < B.length) → ab_vb B θ PB = true → ab_okB PB (ab_thv θ ρ) ∧ θ.length = PB.length := by
  intro θ
  induction θ with
  | nil =>
    intro PB _ h
    cases PB with
    | nil => exact ⟨fun i hi => absurd hi (Nat.not_lt_zero _), rfl⟩
    | cons b PB => cases h
  | cons q θ ih =>
    intro PB hq h
    cases PB with
    | nil => cases h
    | cons b PB =>
      unfold ab_vb at h
      rw [Bool.and_eq_true, Bool.and_eq_true, ab_le_iff, ab_le_iff] at h
      obtain ⟨g1, g2⟩ := ih PB (fun r hr => hq r (List.mem_cons_of_mem _ hr)) h.2
      have g3 := hB q.1 (hq q List.mem_cons_self)
      refine ⟨?_, by rw [List.length_cons, List.length_cons, g2]⟩
      intro i hi
      cases i with
      | zero =>
        have e : ab_thv (q :: θ) ρ 0 = ρ q.1 + q.2 := rfl
        rw [e]
        show b.1 ≤ _ ∧ _ ≤ b.2
        omega
      | succ i =>
        rw [List.length_cons] at hi
        exact g1 i (by omega)
/-- a place's name, taken over by th -/
def ab_mk (θ : ab_TH) (j : Nat) : Option Nat := cond (j.ble 1999999) (some j) (match θ[(j - 2000000) / 1000]? with
  | some q => cond (ab_le 0 (q.2 + (((j - 2000000) % 1000 : Nat) : Int)) && ab_le (q.2 + (((j - 2000000) % 1000 : Nat) : Int)) 999) (some (2000000 + 1000 * q.1 + (q.2 + (((j - 2000000) % 1000 : Nat) : Int)).toNat)) none
  | none => none)
theorem ab_mk_ok {θ : ab_TH} {ρ : Nat → Int} {n j j' : Nat} (hθ : ∀ q ∈ θ, q.1 < n) (h : ab_mk θ j = some j') : ab_kn θ.length j ∧ ab_kn n j' ∧ ab_kv ρ j' = ab_kv (ab_thv θ ρ) j := by
  unfold ab_mk at h
  cases hc : j.ble 1999999 with
  | true =>
    rw [hc] at h
    cases h
    exact ⟨Or.inl hc, Or.inl hc, by rw [ab_kv_pl hc, ab_kv_pl hc]⟩
  | false =>
    rw [hc] at h
    replace h : (match θ[(j - 2000000) / 1000]? with
      | some q => cond (ab_le 0 (q.2 + (((j - 2000000) % 1000 : Nat) : Int)) && ab_le (q.2 + (((j - 2000000) % 1000 : Nat) : Int)) 999) (some (2000000 + 1000 * q.1 + (q.2 + (((j - 2000000) % 1000 : Nat) : Int)).toNat)) none
      | none => none) = some j' := h
    split at h
    · rename_i q9 hq9
      obtain ⟨g, h2⟩ := ab_cs h
      rw [Bool.and_eq_true, ab_le_iff, ab_le_iff] at g
      have hl := (List.getElem?_eq_some_iff.mp hq9).1
      have hm := hθ q9 (List.mem_of_getElem? hq9)
      have ev : ab_thv θ ρ ((j - 2000000) / 1000) = ρ q9.1 + q9.2 := by unfold ab_thv; rw [hq9]
      generalize hz : q9.2 + (((j - 2000000) % 1000 : Nat) : Int) = z at g h2
      have e1 : (j' - 2000000) / 1000 = q9.1 := by omega
      have e2 : (j' - 2000000) % 1000 = z.toNat := by omega
      have e3 : j'.ble 1999999 = false := by rw [← Bool.not_eq_true]; intro q; have := Nat.le_of_ble_eq_true q; omega
      refine ⟨Or.inr hl, Or.inr (by rw [e1]; exact hm), ?_⟩
      unfold ab_kv
      rw [hc, e3, e1, e2]
      show (ρ q9.1 + ((z.toNat : Nat) : Int)).toNat = (ab_thv θ ρ ((j - 2000000) / 1000) + (((j - 2000000) % 1000 : Nat) : Int)).toNat
      rw [ev, Int.toNat_of_nonneg g.1, ← hz, Int.add_assoc]
    · cases h
def ab_vf (θ : ab_TH) (PL : ab_LS) (PS : List ab_AV) (PB : ab_BD) (PF : ab_FT) (PD : ab_DL) (PM : ab_ML) (L : ab_LS) (S : List ab_AV) (B : ab_BD) (F : ab_FT) (Dl : ab_DL) (M : ab_ML) : Bool :=
  θ.all (fun q => (q.1 + 1).ble B.length) && (match θ with | q :: _ => q.1.beq 0 && ab_ieq q.2 0 | [] => false) && ab_vb B θ PB &&
  PL.all (fun q => match ab_lk L q.1 with | some a => ab_eqv θ q.2 a | none => false) && ab_eqs θ PS S &&
  PF.all (fun f => match θ[f.1]?, θ[f.2.1]? with | some a, some b => ab_le (ab_ub B F a.1 b.1 + a.2 - b.2) f.2.2 | _, _ => false) &&
  PD.all (fun d => match ab_mk θ d.1.2 with | some j => (match ab_dk Dl d.1.1 j with | some q => (match θ[d.2.1]? with | some t => t.1.beq q.1 && ab_ieq (t.2 + d.2.2) q.2 | none => false) | none => false) | none => false) &&
  M.all (fun x => PM.any (fun y => y.1.beq x.1 && (y.2.beq x.2 || y.2.beq 1000000)))
theorem ab_okM_mono {M PM : ab_ML} {σ0 σ : ab_SG} (h : ab_okM M σ0 σ) (hm : M.all (fun x => PM.any (fun y => y.1.beq x.1 && (y.2.beq x.2 || y.2.beq 1000000))) = true) : ab_okM PM σ0 σ := by
  intro a b hab
  refine h a b (fun q hq hq2 => ?_)
  obtain ⟨y, hy, hy2⟩ := List.any_eq_true.mp (List.all_eq_true.mp hm q hq)
  rw [Bool.and_eq_true, Bool.or_eq_true] at hy2
  have e1 := ab_beq hy2.1
  refine hab y hy ⟨e1.trans hq2.1, ?_⟩
  rcases hy2.2 with g | g
  · have e2 := ab_beq g
    rcases hq2.2 with g2 | g2
    · exact Or.inl (e2.trans g2)
    · exact Or.inr (e2.trans g2)
  · exact Or.inr (ab_beq g)
theorem ab_vf_ok {θ : ab_TH} {PL : ab_LS} {PS : List ab_AV} {PB : ab_BD} {PF : ab_FT} {PD : ab_DL} {PM : ab_ML} {L : ab_LS} {S : List ab_AV} {B : ab_BD} {F : ab_FT} {Dl : ab_DL} {M : ab_ML} {T : ab_RG} {C : ab_CT} {σ0 σ : ab_SG} {ρ : Nat → Int} {ad wr cr : Nat → Nat} {nL : Nat} {ls : Array Slot} {st : List Value}
    (h : ab_vf θ PL PS PB PF PD PM L S B F Dl M = true) (hK : ab_K T C σ0 B F Dl M ρ σ) (hL : ab_okL ad wr cr B.length nL ρ L ls) (hS : ab_okS ad wr cr B.length ρ S st) :
    ab_K T C σ0 PB PF PD PM (ab_thv θ ρ) σ ∧ ab_okL ad wr cr PB.length nL (ab_thv θ ρ) PL ls ∧ ab_okS ad wr cr PB.length (ab_thv θ ρ) PS st := by
  unfold ab_vf at h
  rw [Bool.and_eq_true, Bool.and_eq_true, Bool.and_eq_true, Bool.and_eq_true, Bool.and_eq_true, Bool.and_eq_true, Bool.and_eq_true] at h
  obtain ⟨⟨⟨⟨⟨⟨⟨h1, h2⟩, h3⟩, h4⟩, h5⟩, h6⟩, h7⟩, h8⟩ := h
  obtain ⟨k1, k2, k3, k4, k5, k6, k7, k8⟩ := hK
  have hθ : ∀ q ∈ θ, q.1 < B.length := fun q hq => Nat.le_of_ble_eq_true (List.all_eq_true.mp h1 q hq)
  obtain ⟨v1, v2⟩ := ab_vb_ok k1 θ PB hθ h3
  have hz : ab_thv θ ρ 0 = 0 ∧ 0 < θ.length := by
    cases θ with
    | nil => cases h2
    | cons q θ =>
      replace h2 : (q.1.beq 0 && ab_ieq q.2 0) = true := h2
      rw [Bool.and_eq_true] at h2
      have e1 := ab_beq h2.1
      have e2 := ab_ieq_ok h2.2
      exact ⟨by show ρ q.1 + q.2 = 0; rw [e1, e2, k3]; rfl, by rw [List.length_cons]; omega⟩
  refine ⟨⟨v1, ?_, hz.1, by rw [← v2]; exact hz.2, ?_, k6, k7, ab_okM_mono k8 h8⟩, ?_, ?_⟩
  · intro f hf
    have g := List.all_eq_true.mp h6 f hf
    split at g
    · rename_i a9 b9 ha9 hb9
      have g2 := ab_le_iff.mp g
      have i1 := (List.getElem?_eq_some_iff.mp ha9).1
      have i2 := (List.getElem?_eq_some_iff.mp hb9).1
      have u := ab_ub_ok k1 k2 (hθ a9 (List.mem_of_getElem? ha9)) (hθ b9 (List.mem_of_getElem? hb9))
      refine ⟨by omega, by omega, ?_⟩
      have e1 : ab_thv θ ρ f.1 = ρ a9.1 + a9.2 := by unfold ab_thv; rw [ha9]
      have e2 : ab_thv θ ρ f.2.1 = ρ b9.1 + b9.2 := by unfold ab_thv; rw [hb9]
      rw [e1, e2]
      omega
    · cases g
  · intro d hd
    have g := List.all_eq_true.mp h7 d hd
    split at g
    · rename_i j9 hj9
      split at g
      · rename_i q9 hq9
        obtain ⟨g1, g2⟩ := ab_thn (ρ := ρ) g
        have g3 := k5 _ (ab_dk_mem hq9)
        obtain ⟨m1, -, m3⟩ := ab_mk_ok (ρ := ρ) hθ hj9
        exact ⟨by omega, by rw [← v2]; exact m1, by rw [g2, ← m3]; exact g3.2.2⟩
      · cases g
    · cases g
  · refine ⟨⟨hL.1.1, hL.1.2.1, ?_⟩, ?_⟩
    · intro q hq
      obtain ⟨x, hx, rfl⟩ := List.mem_map.mp hq
      have g := List.all_eq_true.mp h4 x hx
      split at g
      · rename_i a9 ha9
        obtain ⟨g1, -⟩ := ab_eqv_ok (ρ := ρ) (ad := ad) (wr := wr) (cr := cr) g
        show ls[x.1]? = some (.val (ab_V ad wr cr (ab_thv θ ρ) x.2))
        rw [g1]
        exact (ab_okL_at hL ha9).1
      · cases g
    · intro x hx
      have g := List.all_eq_true.mp h4 x hx
      split at g
      · rename_i a9 ha9
        rw [← v2]
        exact (ab_eqv_ok (ρ := ρ) (ad := ad) (wr := wr) (cr := cr) g).2
      · cases g
  · obtain ⟨g1, g2⟩ := ab_eqs_ok (ρ := ρ) (ad := ad) (wr := wr) (cr := cr) h5
    exact ⟨hS.1.trans g1.symm, by rw [← v2]; exact g2⟩
/-- th, guessed -/
def ab_mt (θ : List (Option (Nat × Int))) (p a : ab_AV) : List (Option (Nat × Int)) := match p.1 with
  | 2 => θ
  | 3 => θ
  | 5 => θ
  | _ => match θ[p.2.1]? with
    | some none => θ.set p.2.1 (some (a.2.1, a.2.2 - p.2.2))
    | _ => θ
def ab_mtS : List (Option (Nat × Int)) → List ab_AV → List ab_AV → List (Option (Nat × Int))
  | θ, p :: P, a :: S => ab_mtS (ab_mt θ p a) P S
  | θ, _, _ => θ
def ab_mtL (L : ab_LS) (θ : List (Option (Nat × Int))) (PL : ab_LS) : List (Option (Nat × Int)) := PL.foldl (fun θ q => match ab_lk L q.1 with | some a => ab_mt θ q.2 a | none => θ) θ
def ab_mko (θ : List (Option (Nat × Int))) (j : Nat) : Option Nat := cond (j.ble 1999999) (some j) (match θ[(j - 2000000) / 1000]? with
  | some (some q) => cond (ab_le 0 (q.2 + (((j - 2000000) % 1000 : Nat) : Int)) && ab_le (q.2 + (((j - 2000000) % 1000 : Nat) : Int)) 999) (some (2000000 + 1000 * q.1 + (q.2 + (((j - 2000000) % 1000 : Nat) : Int)).toNat)) none
  | _ => none)
def ab_mtD (Dl : ab_DL) (θ : List (Option (Nat × Int))) (PD : ab_DL) : List (Option (Nat × Int)) := PD.foldl (fun θ d => match ab_mko θ d.1.2 with
  | some j => (match ab_dk Dl d.1.1 j with | some q => ab_mt θ (0, d.2.1, d.2.2) (0, q.1, q.2) | none => θ)
  | none => θ) θ
def ab_fz : List (Option (Nat × Int)) → ab_BD → ab_TH
  | some q :: l, _ :: B => q :: ab_fz l B
  | none :: l, b :: B => (0, b.1) :: ab_fz l B
  | _, _ => []
def ab_rg : Nat → Nat → List (Option (Nat × Int))
  | 0, _ => []
  | n + 1, i => some (i, 0) :: ab_rg n (i + 1)
/-- th with the first n0 symbols as they are -/
def ab_gs (n0 : Nat) (PL : ab_LS) (PS : List ab_AV) (PB : ab_BD) (PD : ab_DL) (L : ab_LS) (S : List ab_AV) (Dl : ab_DL) : ab_TH :=
  ab_fz (ab_mtD Dl (ab_mtS (ab_mtL L (ab_rg n0 0 ++ List.replicate (PB.length - n0) none) PL) PS S) PD) PB
/-- each place of a pattern is read -/
def ab_mat (T : ab_RG) : ab_DL → ab_BD → ab_DL → Option (ab_BD × ab_DL)
  | [], B, Dl => some (B, Dl)
  | d :: PD, B, Dl => cond (d.1.2.ble 1999999) (match ab_get T d.1.1 d.1.2 d.1.2 0 B Dl with
    | some (_, B', Dl') => ab_mat T PD B' Dl'
    | none => none) (ab_mat T PD B Dl)
theorem ab_mat_ok {T : ab_RG} {C : ab_CT} {σ0 σ : ab_SG} {F : ab_FT} {M : ab_ML} : ∀ (PD : ab_DL) {B B' : ab_BD} {Dl Dl' : ab_DL} {ρ : Nat → Int}, ab_K T C σ0 B F Dl M ρ σ → ab_mat T PD B Dl = some (B', Dl') →
    ∃ ρ', ab_K T C σ0 B' F Dl' M ρ' σ ∧ B.length ≤ B'.length ∧ (∀ i, i < B.length → ρ' i = ρ i) := by
  intro PD
  induction PD with
  | nil => intro B B' Dl Dl' ρ hK h; cases h; exact ⟨ρ, hK, Nat.le_refl _, fun _ _ => rfl⟩
  | cons d PD ih =>
    intro B B' Dl Dl' ρ hK h
    unfold ab_mat at h
    cases hc : d.1.2.ble 1999999 with
    | false => rw [hc] at h; exact ih hK h
    | true =>
      rw [hc] at h
      replace h : (match ab_get T d.1.1 d.1.2 d.1.2 0 B Dl with
        | some (_, B', Dl') => ab_mat T PD B' Dl'
        | none => none) = some (B', Dl') := h
      split at h
      · rename_i q9 B9 Dl9 hg9
        obtain ⟨ρ1, a1, a2, a3, -, -⟩ := ab_get_ok hK hg9 (Nat.le_refl _) (Nat.le_refl _) (fun q => by cases q)
        obtain ⟨ρ2, b1, b2, b3⟩ := ih a1 h
        exact ⟨ρ2, b1, Nat.le_trans a2 b2, fun i hi => (b3 i (Nat.lt_of_lt_of_le hi a2)).trans (a3 i hi)⟩
      · cases h
end
section
/-! contracts: what a method is given (its values, bounds, rows, known places) and its ends (the answer, bounds, rows, known places, places written) -/
abbrev ab_OU : Type := List ab_AV × ab_BD × ab_FT × ab_DL × ab_ML
abbrev ab_CN : Type := List ab_AV × ab_BD × ab_FT × ab_DL × List ab_OU
def ab_ps (cy : Nat → ClassId) (ad wr cr : Nat → Nat) (D : va_G) (cl : List vw_C) (sh : List ab_SP) (T : ab_RG) (C : ab_CT) (n0 : Nat) (ρ0 : Nat → Int) (σ0 : ab_SG) (o : ab_OU) (rv : Option Value) (H : Heap) : Prop :=
  ∃ (ρ' : Nat → Int) (σ' : ab_SG), (∀ i, i < n0 → ρ' i = ρ0 i) ∧ n0 ≤ o.2.1.length ∧ ab_K T C σ0 o.2.1 o.2.2.1 o.2.2.2.1 o.2.2.2.2 ρ' σ' ∧ ab_okS ad wr cr o.2.1.length ρ' o.1 rv.toList ∧ va_P D cl (ab_WD cy ad wr sh σ') H
/-- the cells that a method may change: the world's and new ones -/
def ab_A (ad : Nat → Nat) (N sz : Nat) : Nat → Prop := fun q => (∃ k, k < N ∧ q = ad k) ∨ sz ≤ q
def ab_QC (cy : Nat → ClassId) (ad wr cr : Nat → Nat) (D : va_G) (cl : List vw_C) (sh : List ab_SP) (T : ab_RG) (C : ab_CT) (n0 : Nat) (ρ0 : Nat → Int) (σ0 : ab_SG) (os : List ab_OU) (A : Nat → Prop) : Array Value → State → Outcome → State → Prop := fun _ st oc t =>
  (∃ (rv : Option Value) (o : ab_OU), oc = .returned rv ∧ o ∈ os ∧ ab_ps cy ad wr cr D cl sh T C n0 ρ0 σ0 o rv t.heap) ∧ va_F A st t
/-- links to nest mates -/
abbrev ab_NW : Type := List (String × Nat × MethodName × String)
def ab_okN (NW : ab_NW) (U : State) : Prop := ∀ q ∈ NW, va_Nw (.methodLinkNest q.1 q.2.1 q.2.2.1 q.2.2.2) U
def ab_PC (cy : Nat → ClassId) (ad wr cr : Nat → Nat) (D : va_G) (cl : List vw_C) (sh : List ab_SP) (NW : ab_NW) (kd : ab_KD) (σ : ab_SG) (av : List Value) (sz : Nat) : Array Value → State → Prop :=
  va_Pc av (fun U => U.heap.size = sz ∧ va_P D cl (ab_WD cy ad wr sh σ) U.heap ∧ va_K D cl (ab_tys cy) U ∧ ab_okN NW U ∧ ab_CB cy ad wr cr kd (ab_A ad sh.length sz) U)
theorem ab_PC_blind {cy : Nat → ClassId} {ad wr cr : Nat → Nat} {D : va_G} {cl : List vw_C} {sh : List ab_SP} {NW : ab_NW} {kd : ab_KD} {σ : ab_SG} {av : List Value} {sz : Nat} : FrameBlind (ab_PC cy ad wr cr D cl sh NW kd σ av sz) := by
  intro a U g mk h
  obtain ⟨h1, h2, h3, h4, h5, h6⟩ := h
  exact ⟨h1, h2, h3, va_K.moved (u := U) (U := U.calling g mk a) (Vm.Alike.refl U.vm) h4, fun q hq => va_Nw.same rfl (u := U) (U := U.calling g mk a) rfl (h5 q hq), ab_CB_blind h6⟩
section
variable {p : Program} {l : Launch} {e : Env} {R : Room} {s : State} {m : MethodId} {args : Array Value} {below : List Frame} {meth : Method} {c : Code} {H : Heap} {locs : List Loc} {cells slots : Nat} {Q : State → Prop} {cc : ByteArray} {pc : Nat} {ls : Array Slot} {st0 rest : List Value}
variable {ad wr cr : Nat → Nat} {cy : Nat → ClassId} {T : ab_RG} {C : ab_CT} {D : va_G} {cl : List vw_C} {sh : List ab_SP} {A0 A1 : Nat → Prop} {H0 : Heap}
theorem ab_callQ {n0 : Nat} {ρ0 : Nat → Int} {σ0 : ab_SG} {os : List ab_OU} {a : Array Value} {free : Addr → Prop} (hr : va_Run p l e R s m args below meth c H locs cells slots 0 0 (F0 m pc ls st0) rest (ab_QC cy ad wr cr D cl sh T C n0 ρ0 σ0 os A1 a) free) (hS : va_S A0 H0 H locs) (hA : ∀ q, q < H.size → A1 q → A0 q) (hf : ∀ q, free q → A0 q)
    (kk : ∀ (rv : Option Value) (o : ab_OU) (H1 : Heap) (locs1 : List Loc), o ∈ os → ab_ps cy ad wr cr D cl sh T C n0 ρ0 σ0 o rv H1 → va_S A0 H0 H1 locs1 → W p l e R s m args below meth c H1 locs1 cells slots Q (F0 m (pc + 3) ls (rv.toList ++ rest))) : W p l e R s m args below meth c H locs cells slots Q (F0 m pc ls st0) := by
  intro T9 hT X
  obtain ⟨v, st₀, t, T', L, h0, X', hL, e1, e2, ⟨⟨rv, o, hv, ho, hps⟩, hz, hk⟩, st⟩ := hr T9 hT X
  cases hv
  rw [h0] at hz hk
  obtain ⟨t2, a1, b1⟩ := kk v o T'.heap (locs ++ L) ho (by rw [e1]; exact hps)
    ⟨Nat.le_trans hS.1 (by rw [e1]; exact hz), fun q h1 h2 => by rw [e1, hk q (Nat.lt_of_lt_of_le h1 hS.1) (fun z => h2 (hA q (Nat.lt_of_lt_of_le h1 hS.1) z))]; exact hS.2.1 q h1 h2, fun q hq => by
      rcases List.mem_append.mp hq with h | h
      · exact hS.2.2 q h
      · exact hf _ (hL q h)⟩ T' rfl X'
  exact ⟨t2, st t2 a1, b1⟩
end
/-- an end's extra symbols become new ones -/
def ab_ext (n : Nat) : Nat → Nat → ab_TH
  | 0, _ => []
  | k + 1, i => (n + i, 0) :: ab_ext n k (i + 1)
theorem ab_ext_get (n : Nat) : ∀ (k i j : Nat), j < k → (ab_ext n k i)[j]? = some (n + i + j, 0) := by
  intro k
  induction k with
  | zero => intro i j h; exact absurd h (Nat.not_lt_zero _)
  | succ k ih =>
    intro i j h
    cases j with
    | zero => rfl
    | succ j =>
      show (ab_ext n k (i + 1))[j]? = _
      rw [ih (i + 1) j (by omega)]
      congr 2
      omega
theorem ab_ext_len (n : Nat) : ∀ (k i : Nat), (ab_ext n k i).length = k := by
  intro k
  induction k with
  | zero => intro i; rfl
  | succ k ih => intro i; show (ab_ext n k (i + 1)).length + 1 = k + 1; rw [ih]
/-- the bounds that an end gives to the symbols of the start -/
def ab_rf2 : ab_TH → ab_BD → ab_BD → ab_BD
  | q :: θ, b :: OB, B => ab_rf2 θ OB (B.set q.1 (ab_max (ab_lo B q.1) (b.1 - q.2), ab_min (ab_hi B q.1) (b.2 - q.2)))
  | _, _, B => B
theorem ab_rf2_ok {ρ : Nat → Int} : ∀ (θ : ab_TH) (OB B : ab_BD), ab_okB B ρ → (∀ (j : Nat) (q : Nat × Int) (b : Int × Int), θ[j]? = some q → OB[j]? = some b → b.1 ≤ ρ q.1 + q.2 ∧ ρ q.1 + q.2 ≤ b.2) → ab_okB (ab_rf2 θ OB B) ρ ∧ (ab_rf2 θ OB B).length = B.length := by
  intro θ
  induction θ with
  | nil => intro OB B h _; unfold ab_rf2; exact ⟨h, rfl⟩
  | cons q θ ih =>
    intro OB B h hj
    cases OB with
    | nil => unfold ab_rf2; exact ⟨h, rfl⟩
    | cons b OB =>
      unfold ab_rf2
      have h0 := hj 0 q b rfl rfl
      obtain ⟨g1, g2⟩ := ih OB (B.set q.1 (ab_max (ab_lo B q.1) (b.1 - q.2), ab_min (ab_hi B q.1) (b.2 - q.2))) (ab_okB_set h q.1 (fun hq => by
        have hb := h q.1 hq
        exact ⟨ab_max_le hb.1 (by omega), ab_le_min hb.2 (by omega)⟩)) (fun j q' b' h1 h2 => hj (j + 1) q' b' h1 h2)
      exact ⟨g1, by rw [g2, List.length_set]⟩
/-- some bounds leave nothing -/
def ab_no (B : ab_BD) : Bool := B.any (fun b => !(ab_le b.1 b.2))
theorem ab_no_ok {B : ab_BD} {ρ : Nat → Int} (h : ab_okB B ρ) : ab_no B = false := by
  rw [← Bool.not_eq_true]
  intro q
  obtain ⟨b, hb, hb2⟩ := List.any_eq_true.mp q
  obtain ⟨i, hi⟩ := List.getElem?_of_mem hb
  have h2 := h i (List.getElem?_eq_some_iff.mp hi).1
  unfold ab_lo ab_hi at h2
  rw [List.getD_eq_getElem?_getD, hi] at h2
  have h3 : b.1 ≤ b.2 := Int.le_trans h2.1 h2.2
  rw [ab_le_iff.mpr h3] at hb2
  cases hb2
def ab_sub (θ : ab_TH) (a : ab_AV) : ab_AV := match a.1 with
  | 2 => a
  | 3 => a
  | 0 => (match θ[a.2.1]? with | some q => (0, q.1, q.2 + a.2.2) | none => a)
  | 1 => (match θ[a.2.1]? with | some q => (1, q.1, q.2 + a.2.2) | none => a)
  | 4 => (match θ[a.2.1]? with | some q => (4, q.1, q.2 + a.2.2) | none => a)
  | _ => a
theorem ab_sub_ok {θ : ab_TH} {ρ : Nat → Int} {ad wr cr : Nat → Nat} {n : Nat} {a : ab_AV} (hθ : ∀ q ∈ θ, q.1 < n) (h : ab_sy θ.length a) : ab_V ad wr cr ρ (ab_sub θ a) = ab_V ad wr cr (ab_thv θ ρ) a ∧ ab_sy n (ab_sub θ a) := by
  obtain ⟨t, s, c⟩ := a
  have key : ∀ (hs : s < θ.length), ∃ q, θ[s]? = some q ∧ q.1 < n ∧ ab_thv θ ρ s = ρ q.1 + q.2 := by
    intro hs
    refine ⟨θ[s], List.getElem?_eq_getElem hs, hθ _ (List.getElem_mem hs), ?_⟩
    unfold ab_thv
    rw [List.getElem?_eq_getElem hs]
  match t, h with
  | 0, h =>
    obtain ⟨q, g1, g2, g3⟩ := key h
    have e1 : ab_sub θ (0, s, c) = (0, q.1, q.2 + c) := by unfold ab_sub; rw [g1]; rfl
    rw [e1]
    exact ⟨by show Value.int _ = Value.int _; rw [g3, Int.add_assoc], g2⟩
  | 1, h =>
    obtain ⟨q, g1, g2, g3⟩ := key h
    have e1 : ab_sub θ (1, s, c) = (1, q.1, q.2 + c) := by unfold ab_sub; rw [g1]; rfl
    rw [e1]
    exact ⟨by show Value.long _ = Value.long _; rw [g3, Int.add_assoc], g2⟩
  | 2, _ => exact ⟨rfl, trivial⟩
  | 3, _ => exact ⟨rfl, trivial⟩
  | 4, h =>
    obtain ⟨q, g1, g2, g3⟩ := key h
    have e1 : ab_sub θ (4, s, c) = (4, q.1, q.2 + c) := by unfold ab_sub; rw [g1]; rfl
    rw [e1]
    exact ⟨by show ab_wv _ _ = ab_wv _ _; rw [g3, Int.add_assoc], g2⟩
  | n + 5, _ => exact ⟨rfl, trivial⟩
def ab_sn (θ : ab_TH) (q : Nat × Int) : Nat × Int := match θ[q.1]? with
  | some x => (x.1, x.2 + q.2)
  | none => q
theorem ab_sn_ok {θ : ab_TH} {ρ : Nat → Int} {n : Nat} {q : Nat × Int} (hθ : ∀ q ∈ θ, q.1 < n) (h : q.1 < θ.length) : (ab_sn θ q).1 < n ∧ ρ (ab_sn θ q).1 + (ab_sn θ q).2 = ab_thv θ ρ q.1 + q.2 := by
  unfold ab_sn ab_thv
  rw [List.getElem?_eq_getElem h]
  show (θ[q.1]).1 < n ∧ ρ (θ[q.1]).1 + ((θ[q.1]).2 + q.2) = ρ (θ[q.1]).1 + (θ[q.1]).2 + q.2
  exact ⟨hθ _ (List.getElem_mem h), (Int.add_assoc _ _ _).symm⟩
def ab_kp (M : ab_ML) (Dl : ab_DL) : ab_DL := Dl.filter (fun d => !(M.any (fun q => q.1.beq d.1.1 && (q.2.beq d.1.2 || q.2.beq 1000000 || !(d.1.2.ble 1999999)))))
/-- behind a call, at the end o: th for the callee's start, n0 its symbols -/
def ab_af (θ : ab_TH) (n0 : Nat) (o : ab_OU) (B : ab_BD) (F : ab_FT) (Dl : ab_DL) (M : ab_ML) : List ab_AV × ab_BD × ab_FT × ab_DL × ab_ML :=
  let θ' := θ ++ ab_ext B.length (o.2.1.length - n0) 0
  (o.1.map (ab_sub θ'), ab_rf2 θ (o.2.1.take n0) (B ++ o.2.1.drop n0), o.2.2.1.map (fun f => ((ab_sn θ' (f.1, 0)).1, (ab_sn θ' (f.2.1, 0)).1, f.2.2 - (ab_sn θ' (f.1, 0)).2 + (ab_sn θ' (f.2.1, 0)).2)) ++ F, o.2.2.2.1.filterMap (fun d => match ab_mk θ' d.1.2 with | some j => some ((d.1.1, j), ab_sn θ' d.2) | none => none) ++ ab_kp o.2.2.2.2 Dl, o.2.2.2.2 ++ M)
theorem ab_af_ok {T : ab_RG} {C : ab_CT} {σ0 σ σ' : ab_SG} {B : ab_BD} {F : ab_FT} {Dl : ab_DL} {M : ab_ML} {ρ ρ' : Nat → Int} {θ : ab_TH} {n0 : Nat} {o : ab_OU} {ad wr cr : Nat → Nat} {rl : List Value}
    (hK : ab_K T C σ0 B F Dl M ρ σ) (hθ : ∀ q ∈ θ, q.1 < B.length) (hn : θ.length = n0) (hag : ∀ i, i < n0 → ρ' i = ab_thv θ ρ i) (hle : n0 ≤ o.2.1.length) (hO : ab_K T C σ o.2.1 o.2.2.1 o.2.2.2.1 o.2.2.2.2 ρ' σ') (hr : ab_okS ad wr cr o.2.1.length ρ' o.1 rl) :
    ∃ ρ2 : Nat → Int, ab_K T C σ0 (ab_af θ n0 o B F Dl M).2.1 (ab_af θ n0 o B F Dl M).2.2.1 (ab_af θ n0 o B F Dl M).2.2.2.1 (ab_af θ n0 o B F Dl M).2.2.2.2 ρ2 σ' ∧ B.length ≤ (ab_af θ n0 o B F Dl M).2.1.length ∧ (∀ i, i < B.length → ρ2 i = ρ i) ∧ ab_okS ad wr cr (ab_af θ n0 o B F Dl M).2.1.length ρ2 (ab_af θ n0 o B F Dl M).1 rl := by
  obtain ⟨a1, b1, f1, d1, m1⟩ := o
  obtain ⟨k1, k2, k3, k4, k5, k6, k7, k8⟩ := hK
  obtain ⟨o1, o2, o3, o4, o5, o6, o7, o8⟩ := hO
  dsimp only at hle o1 o2 o4 o5 o8 hr
  let ρ2 : Nat → Int := fun i => if i < B.length then ρ i else ρ' (n0 + (i - B.length))
  have hρ2 : ∀ i, i < B.length → ρ2 i = ρ i := fun i hi => if_pos hi
  have hlen0 : (B ++ b1.drop n0).length = B.length + (b1.length - n0) := by rw [List.length_append, List.length_drop]
  have hB0 : ab_okB (B ++ b1.drop n0) ρ2 := by
    intro i hi
    rw [hlen0] at hi
    unfold ab_lo ab_hi
    rw [List.getD_eq_getElem?_getD]
    by_cases hlt : i < B.length
    · rw [List.getElem?_append_left hlt, hρ2 i hlt]
      have := k1 i hlt
      unfold ab_lo ab_hi at this
      rw [List.getD_eq_getElem?_getD] at this
      exact this
    · rw [List.getElem?_append_right (Nat.not_lt.mp hlt), List.getElem?_drop]
      have e : ρ2 i = ρ' (n0 + (i - B.length)) := if_neg hlt
      rw [e]
      have := o1 (n0 + (i - B.length)) (by omega)
      unfold ab_lo ab_hi at this
      rw [List.getD_eq_getElem?_getD] at this
      exact this
  have hθ2 : ∀ i, i < n0 → ρ' i = ab_thv θ ρ2 i := by
    intro i hi
    rw [hag i hi]
    unfold ab_thv
    rw [List.getElem?_eq_getElem (by omega)]
    show ρ _ + _ = ρ2 _ + _
    rw [hρ2 _ (hθ _ (List.getElem_mem _))]
  obtain ⟨r1, r2⟩ := ab_rf2_ok (ρ := ρ2) θ (b1.take n0) (B ++ b1.drop n0) hB0 (by
    intro j q b hj hb
    have hj2 := (List.getElem?_eq_some_iff.mp hj).1
    rw [List.getElem?_take_of_lt (by omega)] at hb
    have h1 := o1 j (List.getElem?_eq_some_iff.mp hb).1
    rw [hθ2 j (by omega)] at h1
    unfold ab_thv ab_lo ab_hi at h1
    rw [hj, List.getD_eq_getElem?_getD, hb] at h1
    exact h1)
  let θ' := θ ++ ab_ext B.length (b1.length - n0) 0
  have hθl : θ'.length = b1.length := by
    show (θ ++ ab_ext B.length (b1.length - n0) 0).length = _
    rw [List.length_append, ab_ext_len, hn]
    omega
  have hθ'lt : ∀ q ∈ θ', q.1 < B.length + (b1.length - n0) := by
    intro q hq
    rcases List.mem_append.mp hq with hq | hq
    · have := hθ q hq; omega
    · obtain ⟨j, hj⟩ := List.getElem?_of_mem hq
      have hj2 := (List.getElem?_eq_some_iff.mp hj).1
      rw [ab_ext_len] at hj2
      rw [ab_ext_get _ _ _ _ hj2] at hj
      cases hj
      show B.length + 0 + j < _
      omega
  have hθ'v : ∀ i, i < b1.length → ab_thv θ' ρ2 i = ρ' i := by
    intro i hi
    by_cases hlt : i < n0
    · rw [hθ2 i hlt]
      unfold ab_thv
      rw [List.getElem?_append_left (by omega)]
    · unfold ab_thv
      rw [List.getElem?_append_right (by omega), ab_ext_get _ _ _ _ (by omega)]
      show ρ2 (B.length + 0 + (i - θ.length)) + 0 = ρ' i
      have e : ρ2 (B.length + 0 + (i - θ.length)) = ρ' (n0 + (B.length + 0 + (i - θ.length) - B.length)) := if_neg (by omega)
      rw [e, Int.add_zero]
      congr 1
      omega
  refine ⟨ρ2, ⟨r1, ?_, (hρ2 0 k4).trans k3, ?_, ?_, o6, o7, ?_⟩, ?_, hρ2, ?_⟩
  · show ab_okF (ab_rf2 θ (b1.take n0) (B ++ b1.drop n0)).length _ _
    rw [r2, hlen0]
    intro f hf
    rcases List.mem_append.mp hf with hf | hf
    · obtain ⟨x, hx, rfl⟩ := List.mem_map.mp hf
      obtain ⟨x1, x2, x3⟩ := o2 x hx
      obtain ⟨u1, u2⟩ := ab_sn_ok (ρ := ρ2) (q := (x.1, 0)) hθ'lt (by rw [hθl]; exact x1)
      obtain ⟨w1, w2⟩ := ab_sn_ok (ρ := ρ2) (q := (x.2.1, 0)) hθ'lt (by rw [hθl]; exact x2)
      refine ⟨u1, w1, ?_⟩
      have y1 := hθ'v x.1 x1
      have y2 := hθ'v x.2.1 x2
      replace u2 : ρ2 (ab_sn θ' (x.1, 0)).1 + (ab_sn θ' (x.1, 0)).2 = ab_thv θ' ρ2 x.1 + 0 := u2
      replace w2 : ρ2 (ab_sn θ' (x.2.1, 0)).1 + (ab_sn θ' (x.2.1, 0)).2 = ab_thv θ' ρ2 x.2.1 + 0 := w2
      show ρ2 (ab_sn θ' (x.1, 0)).1 - ρ2 (ab_sn θ' (x.2.1, 0)).1 ≤ x.2.2 - (ab_sn θ' (x.1, 0)).2 + (ab_sn θ' (x.2.1, 0)).2
      omega
    · obtain ⟨x1, x2, x3⟩ := k2 f hf
      exact ⟨by omega, by omega, by rw [hρ2 _ x1, hρ2 _ x2]; exact x3⟩
  · show 0 < (ab_rf2 θ (b1.take n0) (B ++ b1.drop n0)).length
    rw [r2, hlen0]
    omega
  · show ab_okD (ab_rf2 θ (b1.take n0) (B ++ b1.drop n0)).length _ _ _
    rw [r2, hlen0]
    intro d hd
    rcases List.mem_append.mp hd with hd | hd
    · obtain ⟨x, hx, hxd⟩ := List.mem_filterMap.mp hd
      split at hxd
      · rename_i j9 hj9
        cases hxd
        obtain ⟨x1, x3, x2⟩ := o5 x hx
        obtain ⟨u1, u2⟩ := ab_sn_ok (ρ := ρ2) (q := x.2) hθ'lt (by rw [hθl]; exact x1)
        obtain ⟨-, m2, m3⟩ := ab_mk_ok (ρ := ρ2) hθ'lt hj9
        refine ⟨u1, m2, ?_⟩
        show σ' x.1.1 (ab_kv ρ2 j9) = ρ2 (ab_sn θ' x.2).1 + (ab_sn θ' x.2).2
        rw [u2, hθ'v _ x1, m3, ab_kv_ext (ρ := ρ') x3 (fun i hi => hθ'v i hi)]
        exact x2
      · cases hxd
    · obtain ⟨g1, g2⟩ := List.mem_filter.mp hd
      obtain ⟨x1, x3, x2⟩ := k5 d g1
      refine ⟨by omega, ab_kn_mono x3 (by omega), ?_⟩
      rw [hρ2 _ x1, ← x2, ab_kv_ext x3 hρ2]
      refine o8 d.1.1 _ (fun q hq hq2 => ?_)
      have : (m1.any (fun q => q.1.beq d.1.1 && (q.2.beq d.1.2 || q.2.beq 1000000 || !(d.1.2.ble 1999999)))) = true := by
        refine List.any_eq_true.mpr ⟨q, hq, ?_⟩
        rw [Bool.and_eq_true, Bool.or_eq_true, Bool.or_eq_true, hq2.1]
        refine ⟨Nat.beq_refl _, ?_⟩
        cases hc : d.1.2.ble 1999999 with
        | false => exact Or.inr rfl
        | true =>
          rw [ab_kv_pl hc] at hq2
          rcases hq2.2 with g | g
          · rw [g]; exact Or.inl (Or.inl (Nat.beq_refl _))
          · rw [g]; exact Or.inl (Or.inr (Nat.beq_refl _))
      rw [this] at g2
      cases g2
  · intro a b hab
    rw [o8 a b (fun q hq => hab q (List.mem_append_left _ hq))]
    exact k8 a b (fun q hq => hab q (List.mem_append_right _ hq))
  · show B.length ≤ (ab_rf2 θ (b1.take n0) (B ++ b1.drop n0)).length
    rw [r2, hlen0]
    omega
  · show ab_okS ad wr cr (ab_rf2 θ (b1.take n0) (B ++ b1.drop n0)).length ρ2 (a1.map (ab_sub θ')) rl
    rw [r2, hlen0]
    have key : ∀ a ∈ a1, ab_V ad wr cr ρ2 (ab_sub θ' a) = ab_V ad wr cr ρ' a ∧ ab_sy (B.length + (b1.length - n0)) (ab_sub θ' a) := by
      intro a ha
      obtain ⟨g1, g2⟩ := ab_sub_ok (ρ := ρ2) (ad := ad) (wr := wr) (cr := cr) (a := a) hθ'lt (by rw [hθl]; exact hr.2 a ha)
      exact ⟨g1.trans (ab_V_ext (hr.2 a ha) (fun i hi => hθ'v i hi)), g2⟩
    refine ⟨?_, fun a ha => ?_⟩
    · rw [hr.1, List.map_map]
      exact List.map_congr_left (fun a ha => (key a ha).1.symm)
    · obtain ⟨x, hx, rfl⟩ := List.mem_map.mp ha
      exact (key x hx).2
end
section
/-! measures: three numbers, each a sum of symbols less a sum of symbols -/
abbrev ab_ME : Type := Int × List Nat × List Nat
def ab_sm (ρ : Nat → Int) : List Nat → Int
  | [] => 0
  | s :: l => ρ s + ab_sm ρ l
def ab_mev (ρ : Nat → Int) (e : ab_ME) : Int := e.1 + ab_sm ρ e.2.1 - ab_sm ρ e.2.2
def ab_so (θ : ab_TH) : List Nat → Int
  | [] => 0
  | s :: l => (ab_sn θ (s, 0)).2 + ab_so θ l
def ab_msb (θ : ab_TH) (e : ab_ME) : ab_ME := (e.1 + ab_so θ e.2.1 - ab_so θ e.2.2, e.2.1.map (fun s => (ab_sn θ (s, 0)).1), e.2.2.map (fun s => (ab_sn θ (s, 0)).1))
theorem ab_so_ok {θ : ab_TH} {ρ : Nat → Int} {n : Nat} (hθ : ∀ q ∈ θ, q.1 < n) : ∀ (l : List Nat), (∀ s ∈ l, s < θ.length) → ab_sm (ab_thv θ ρ) l = ab_so θ l + ab_sm ρ (l.map (fun s => (ab_sn θ (s, 0)).1)) := by
  intro l
  induction l with
  | nil => intro _; rfl
  | cons s l ih =>
    intro h
    have h1 := (ab_sn_ok (ρ := ρ) (q := (s, 0)) hθ (h s List.mem_cons_self)).2
    have h2 := ih (fun t ht => h t (List.mem_cons_of_mem _ ht))
    replace h1 : ρ (ab_sn θ (s, 0)).1 + (ab_sn θ (s, 0)).2 = ab_thv θ ρ s + 0 := h1
    show ab_thv θ ρ s + ab_sm (ab_thv θ ρ) l = (ab_sn θ (s, 0)).2 + ab_so θ l + (ρ (ab_sn θ (s, 0)).1 + ab_sm ρ (l.map (fun s => (ab_sn θ (s, 0)).1)))
    omega
/-- all its symbols are among the n -/
def ab_mok (n : Nat) (e : ab_ME) : Bool := e.2.1.all (fun s => (s + 1).ble n) && e.2.2.all (fun s => (s + 1).ble n)
theorem ab_mok_ok {n : Nat} {e : ab_ME} (h : ab_mok n e = true) : (∀ s ∈ e.2.1, s < n) ∧ (∀ s ∈ e.2.2, s < n) := by
  unfold ab_mok at h
  rw [Bool.and_eq_true] at h
  exact ⟨fun s hs => Nat.le_of_ble_eq_true (List.all_eq_true.mp h.1 s hs), fun s hs => Nat.le_of_ble_eq_true (List.all_eq_true.mp h.2 s hs)⟩
theorem ab_msb_ok {θ : ab_TH} {ρ : Nat → Int} {n : Nat} {e : ab_ME} (hθ : ∀ q ∈ θ, q.1 < n) (h : ab_mok θ.length e = true) : ab_mev (ab_thv θ ρ) e = ab_mev ρ (ab_msb θ e) ∧ (∀ s ∈ (ab_msb θ e).2.1, s < n) ∧ (∀ s ∈ (ab_msb θ e).2.2, s < n) := by
  obtain ⟨h1, h2⟩ := ab_mok_ok h
  have e1 := ab_so_ok (ρ := ρ) hθ e.2.1 h1
  have e2 := ab_so_ok (ρ := ρ) hθ e.2.2 h2
  refine ⟨?_, ?_, ?_⟩
  · show e.1 + ab_sm (ab_thv θ ρ) e.2.1 - ab_sm (ab_thv θ ρ) e.2.2 = (e.1 + ab_so θ e.2.1 - ab_so θ e.2.2) + ab_sm ρ (e.2.1.map (fun s => (ab_sn θ (s, 0)).1)) - ab_sm ρ (e.2.2.map (fun s => (ab_sn θ (s, 0)).1))
    omega
  · intro s hs
    obtain ⟨t, ht, rfl⟩ := List.mem_map.mp hs
    exact (ab_sn_ok (ρ := ρ) (q := (t, 0)) hθ (h1 t ht)).1
  · intro s hs
    obtain ⟨t, ht, rfl⟩ := List.mem_map.mp hs
    exact (ab_sn_ok (ρ := ρ) (q := (t, 0)) hθ (h2 t ht)).1
def ab_rm (s : Nat) : List Nat → Option (List Nat)
  | [] => none
  | t :: l => cond (s.beq t) (some l) (match ab_rm s l with | some r => some (t :: r) | none => none)
theorem ab_rm_ok {ρ : Nat → Int} {s : Nat} : ∀ {l r : List Nat}, ab_rm s l = some r → ab_sm ρ l = ρ s + ab_sm ρ r ∧ ∀ x ∈ r, x ∈ l := by
  intro l
  induction l with
  | nil => intro r h; cases h
  | cons t l ih =>
    intro r h
    unfold ab_rm at h
    cases hc : s.beq t with
    | true =>
      rw [hc] at h
      have := Nat.eq_of_beq_eq_true hc
      subst this
      cases h
      exact ⟨rfl, fun x hx => List.mem_cons_of_mem _ hx⟩
    | false =>
      rw [hc] at h
      replace h : (match ab_rm s l with | some r => some (t :: r) | none => none) = some r := h
      split at h
      · rename_i r9 hr9
        cases h
        obtain ⟨g1, g2⟩ := ih hr9
        refine ⟨by show ρ t + ab_sm ρ l = ρ s + (ρ t + ab_sm ρ r9); omega, fun x hx => ?_⟩
        rcases List.mem_cons.mp hx with rfl | hx
        · exact List.mem_cons_self
        · exact List.mem_cons_of_mem _ (g2 x hx)
      · cases h
/-- the greatest that a sum less a sum can be -/
def ab_nl (B : ab_BD) : List Nat → Int
  | [] => 0
  | n :: N => ab_nl B N - ab_lo B n
def ab_pr (B : ab_BD) (F : ab_FT) : List Nat → List Nat → Int
  | [], N => ab_nl B N
  | p :: P, N => match ab_rm p N with
    | some N' => ab_pr B F P N'
    | none => match N with
      | [] => ab_hi B p + ab_pr B F P []
      | n :: N' => ab_ub B F p n + ab_pr B F P N'
theorem ab_pr_ok {B : ab_BD} {F : ab_FT} {ρ : Nat → Int} (hB : ab_okB B ρ) (hF : ab_okF B.length F ρ) : ∀ (P N : List Nat), (∀ s ∈ P, s < B.length) → (∀ s ∈ N, s < B.length) → ab_sm ρ P - ab_sm ρ N ≤ ab_pr B F P N := by
  intro P
  induction P with
  | nil =>
    intro N
    induction N with
    | nil => intro _ _; exact Int.le_refl 0
    | cons n N ih =>
      intro h1 h2
      have g := ih h1 (fun s hs => h2 s (List.mem_cons_of_mem _ hs))
      have b := (hB n (h2 n List.mem_cons_self)).1
      show 0 - (ρ n + ab_sm ρ N) ≤ ab_nl B N - ab_lo B n
      replace g : 0 - ab_sm ρ N ≤ ab_nl B N := g
      omega
  | cons p P ih =>
    intro N h1 h2
    have hP : ∀ s ∈ P, s < B.length := fun s hs => h1 s (List.mem_cons_of_mem _ hs)
    have hp := h1 p List.mem_cons_self
    unfold ab_pr
    split
    · rename_i N9 hN9
      obtain ⟨g1, g2⟩ := ab_rm_ok (ρ := ρ) hN9
      have g3 := ih N9 hP (fun s hs => h2 s (g2 s hs))
      rw [g1]
      show ρ p + ab_sm ρ P - _ ≤ _
      omega
    · split
      · have g3 := ih [] hP (fun s hs => by cases hs)
        have b := (hB p hp).2
        show ρ p + ab_sm ρ P - 0 ≤ _
        replace g3 : ab_sm ρ P - 0 ≤ _ := g3
        omega
      · rename_i n9 N9 _
        have g3 := ih N9 hP (fun s hs => h2 s (List.mem_cons_of_mem _ hs))
        have b := ab_ub_ok hB hF hp (h2 n9 List.mem_cons_self)
        show ρ p + ab_sm ρ P - (ρ n9 + ab_sm ρ N9) ≤ _
        omega
def ab_dif (B : ab_BD) (F : ab_FT) (a b : ab_ME) : Int := a.1 - b.1 + ab_pr B F (a.2.1 ++ b.2.2) (a.2.2 ++ b.2.1)
theorem ab_sm_app {ρ : Nat → Int} : ∀ (a b : List Nat), ab_sm ρ (a ++ b) = ab_sm ρ a + ab_sm ρ b := by
  intro a
  induction a with
  | nil => intro b; show ab_sm ρ b = 0 + ab_sm ρ b; omega
  | cons s a ih => intro b; show ρ s + ab_sm ρ (a ++ b) = ρ s + ab_sm ρ a + ab_sm ρ b; rw [ih]; omega
theorem ab_dif_ok {B : ab_BD} {F : ab_FT} {ρ : Nat → Int} {a b : ab_ME} (hB : ab_okB B ρ) (hF : ab_okF B.length F ρ) (h1 : ∀ s ∈ a.2.1, s < B.length) (h2 : ∀ s ∈ a.2.2, s < B.length) (h3 : ∀ s ∈ b.2.1, s < B.length) (h4 : ∀ s ∈ b.2.2, s < B.length) : ab_mev ρ a - ab_mev ρ b ≤ ab_dif B F a b := by
  have g := ab_pr_ok hB hF (a.2.1 ++ b.2.2) (a.2.2 ++ b.2.1) (fun s hs => by rcases List.mem_append.mp hs with h | h; exact h1 s h; exact h4 s h) (fun s hs => by rcases List.mem_append.mp hs with h | h; exact h2 s h; exact h3 s h)
  rw [ab_sm_app, ab_sm_app] at g
  unfold ab_mev ab_dif
  omega
def ab_low (B : ab_BD) (F : ab_FT) (a : ab_ME) : Int := -(ab_dif B F (0, [], []) a)
abbrev ab_M3 : Type := ab_ME × ab_ME × ab_ME
def ab_nv (ρ : Nat → Int) (e : ab_ME) : Nat := (ab_mev ρ e).toNat
/-- a falls below b: strictly, or at least not above it -/
def ab_fa (B : ab_BD) (F : ab_FT) (a b : ab_ME) : Bool := ab_le (ab_dif B F a b) (-1) && ab_le 0 (ab_low B F a)
def ab_nr (B : ab_BD) (F : ab_FT) (a b : ab_ME) : Bool := ab_le (ab_dif B F a b) 0
def ab_fall (B : ab_BD) (F : ab_FT) (a b : ab_M3) : Bool := ab_fa B F a.1 b.1 || (ab_nr B F a.1 b.1 && (ab_fa B F a.2.1 b.2.1 || (ab_nr B F a.2.1 b.2.1 && ab_fa B F a.2.2 b.2.2)))
def ab_lt3 (x y : Nat × Nat × Nat) : Prop := x.1 < y.1 ∨ (x.1 ≤ y.1 ∧ (x.2.1 < y.2.1 ∨ (x.2.1 ≤ y.2.1 ∧ x.2.2 < y.2.2)))
def ab_n3 (ρ : Nat → Int) (a : ab_M3) : Nat × Nat × Nat := (ab_nv ρ a.1, ab_nv ρ a.2.1, ab_nv ρ a.2.2)
def ab_sy3 (n : Nat) (e : ab_ME) : Prop := (∀ s ∈ e.2.1, s < n) ∧ (∀ s ∈ e.2.2, s < n)
theorem ab_fall_ok {B : ab_BD} {F : ab_FT} {ρ : Nat → Int} {a b : ab_M3} (hB : ab_okB B ρ) (hF : ab_okF B.length F ρ) (ha : ab_sy3 B.length a.1 ∧ ab_sy3 B.length a.2.1 ∧ ab_sy3 B.length a.2.2) (hb : ab_sy3 B.length b.1 ∧ ab_sy3 B.length b.2.1 ∧ ab_sy3 B.length b.2.2) (h : ab_fall B F a b = true) : ab_lt3 (ab_n3 ρ a) (ab_n3 ρ b) := by
  have fa : ∀ x y : ab_ME, ab_sy3 B.length x → ab_sy3 B.length y → ab_fa B F x y = true → ab_nv ρ x < ab_nv ρ y := by
    intro x y hx hy h
    unfold ab_fa ab_low at h
    rw [Bool.and_eq_true, ab_le_iff, ab_le_iff] at h
    have g1 := ab_dif_ok (a := x) (b := y) hB hF hx.1 hx.2 hy.1 hy.2
    have g2 := ab_dif_ok (a := (0, [], [])) (b := x) hB hF (fun s hs => by cases hs) (fun s hs => by cases hs) hx.1 hx.2
    have g3 : ab_mev ρ (0, [], []) = 0 := rfl
    unfold ab_nv
    omega
  have nr : ∀ x y : ab_ME, ab_sy3 B.length x → ab_sy3 B.length y → ab_nr B F x y = true → ab_nv ρ x ≤ ab_nv ρ y := by
    intro x y hx hy h
    unfold ab_nr at h
    rw [ab_le_iff] at h
    have g1 := ab_dif_ok (a := x) (b := y) hB hF hx.1 hx.2 hy.1 hy.2
    unfold ab_nv
    omega
  unfold ab_fall at h
  rw [Bool.or_eq_true, Bool.and_eq_true, Bool.or_eq_true, Bool.and_eq_true] at h
  rcases h with h | ⟨h1, h | ⟨h2, h3⟩⟩
  · exact Or.inl (fa _ _ ha.1 hb.1 h)
  · exact Or.inr ⟨nr _ _ ha.1 hb.1 h1, Or.inl (fa _ _ ha.2.1 hb.2.1 h)⟩
  · exact Or.inr ⟨nr _ _ ha.1 hb.1 h1, Or.inr ⟨nr _ _ ha.2.1 hb.2.1 h2, fa _ _ ha.2.2 hb.2.2 h3⟩⟩
theorem ab_lt3_ind {P : Nat × Nat × Nat → Prop} (h : ∀ x, (∀ y, ab_lt3 y x → P y) → P x) : ∀ x, P x := by
  have key : ∀ a b c : Nat, P (a, b, c) := by
    intro a
    induction a using Nat.strongRecOn with
    | ind a iha =>
      intro b
      induction b using Nat.strongRecOn with
      | ind b ihb =>
        intro c
        induction c using Nat.strongRecOn with
        | ind c ihc =>
          refine h _ (fun y hy => ?_)
          obtain ⟨y1, y2, y3⟩ := y
          rcases hy with hy | ⟨h1, hy | ⟨h2, hy⟩⟩
          · exact iha y1 hy y2 y3
          · rcases Nat.lt_or_ge y1 a with g | g
            · exact iha y1 g y2 y3
            · have : y1 = a := Nat.le_antisymm h1 g
              subst this
              exact ihb y2 hy y3
          · rcases Nat.lt_or_ge y1 a with g | g
            · exact iha y1 g y2 y3
            · have : y1 = a := Nat.le_antisymm h1 g
              subst this
              rcases Nat.lt_or_ge y2 b with g2 | g2
              · exact ihb y2 g2 y3
              · have : y2 = b := Nat.le_antisymm h2 g2
                subst this
                exact ihc y3 hy
  exact fun x => key x.1 x.2.1 x.2.2
end
section
/-! a method gone through: one instruction, then on till a place where a node stands -/
/-- a method: its name, its bytes, locals, the type of its answer, how many it is given (its object not counted), has it an object; the answer's form: 0 int, 1 boolean, 2 long, 3 a cell, 4 none -/
abbrev ab_MR : Type := MethodName × ByteArray × Nat × Option FieldType × Nat × Bool × Nat
/-- a call's row: the pool's number, the kind (0 plain, 2 to a nest mate), which method -/
abbrev ab_PC2 : Type := List (Nat × Nat × Nat)
/-- contracts that may be used: which method, how deep, what -/
abbrev ab_KS : Type := List (Nat × Nat × ab_CN)
abbrev ab_ND : Type := Nat × ab_AS × ab_M3
def ab_pop : Nat → List ab_AV → List ab_AV → Option (List ab_AV × List ab_AV)
  | 0, S, acc => some (acc, S)
  | n + 1, a :: S, acc => ab_pop n S (a :: acc)
  | _ + 1, [], _ => none
theorem ab_pop_ok : ∀ (n : Nat) (S acc : List ab_AV) {r : List ab_AV × List ab_AV}, ab_pop n S acc = some r → acc.reverse ++ S = r.1.reverse ++ r.2 ∧ r.1.length = n + acc.length := by
  intro n
  induction n with
  | zero => intro S acc r h; cases h; exact ⟨rfl, (Nat.zero_add _).symm⟩
  | succ n ih =>
    intro S acc r h
    cases S with
    | nil => cases h
    | cons a S =>
      obtain ⟨g1, g2⟩ := ih S (a :: acc) h
      rw [List.length_cons] at g2
      refine ⟨?_, by omega⟩
      rw [← g1, List.reverse_cons, List.append_assoc]
      rfl
/-- cells among what is given are those of the contract -/
def ab_rq : List ab_AV → List ab_AV → Bool
  | [], [] => true
  | p :: P, a :: S => p.1.beq a.1 && (match p.1 with | 2 => p.2.1.beq a.2.1 | 5 => p.2.1.beq a.2.1 | _ => true) && ab_rq P S
  | _, _ => false
/-- a row between symbols that the bounds rule out -/
def ab_nf (B : ab_BD) (F : ab_FT) : Bool := F.any (fun f => !(ab_le (ab_lo B f.1 - ab_hi B f.2.1) f.2.2))
theorem ab_nf_ok {B : ab_BD} {F : ab_FT} {ρ : Nat → Int} (hB : ab_okB B ρ) (hF : ab_okF B.length F ρ) : ab_nf B F = false := by
  rw [← Bool.not_eq_true]
  intro q
  obtain ⟨f, hf, hf2⟩ := List.any_eq_true.mp q
  obtain ⟨h1, h2, h3⟩ := hF f hf
  have b1 := hB f.1 h1
  have b2 := hB f.2.1 h2
  rw [Bool.not_eq_true'] at hf2
  have := ab_le_false.mp hf2
  omega
/-- new rows that the others rule out -/
def ab_ng (B : ab_BD) (F G : ab_FT) : Bool := G.any (fun f => !(ab_le (-f.2.2) (ab_ub B F f.2.1 f.1)))
theorem ab_ng_ok {B : ab_BD} {F G : ab_FT} {ρ : Nat → Int} (hB : ab_okB B ρ) (hF : ab_okF B.length F ρ) (hG : ∀ g ∈ G, g ∈ F) : ab_ng B F G = false := by
  rw [← Bool.not_eq_true]
  intro q
  obtain ⟨f, hf, hf2⟩ := List.any_eq_true.mp q
  obtain ⟨h1, h2, h3⟩ := hF f (hG f hf)
  have u := ab_ub_ok hB hF h2 h1
  rw [Bool.not_eq_true'] at hf2
  have := ab_le_false.mp hf2
  omega
/-- the bounds, by the rows between symbols -/
def ab_tgt : ab_FT → ab_BD → ab_BD
  | [], B => B
  | f :: F, B => ab_tgt F ((B.set f.1 (ab_lo B f.1, ab_min (ab_hi B f.1) (ab_hi B f.2.1 + f.2.2))).set f.2.1 (ab_max (ab_lo B f.2.1) (ab_lo B f.1 - f.2.2), ab_hi B f.2.1))
theorem ab_tgt_ok {ρ : Nat → Int} : ∀ (F : ab_FT) (B : ab_BD), ab_okB B ρ → ab_okF B.length F ρ → (∀ f ∈ F, f.1 ≠ f.2.1) → (ab_tgt F B).length = B.length ∧ ab_okB (ab_tgt F B) ρ := by
  intro F
  induction F with
  | nil => intro B hB _ _; exact ⟨rfl, hB⟩
  | cons f F ih =>
    intro B hB hF hne
    obtain ⟨h1, h2, h3⟩ := hF f List.mem_cons_self
    have b1 := hB f.1 h1
    have b2 := hB f.2.1 h2
    have c1 : ab_lo B f.1 ≤ ρ f.1 ∧ ρ f.1 ≤ ab_min (ab_hi B f.1) (ab_hi B f.2.1 + f.2.2) := ⟨b1.1, ab_le_min b1.2 (by omega)⟩
    have c2 : ab_max (ab_lo B f.2.1) (ab_lo B f.1 - f.2.2) ≤ ρ f.2.1 ∧ ρ f.2.1 ≤ ab_hi B f.2.1 := ⟨ab_max_le b2.1 (by omega), b2.2⟩
    have hl : ((B.set f.1 (ab_lo B f.1, ab_min (ab_hi B f.1) (ab_hi B f.2.1 + f.2.2))).set f.2.1 (ab_max (ab_lo B f.2.1) (ab_lo B f.1 - f.2.2), ab_hi B f.2.1)).length = B.length := by rw [List.length_set, List.length_set]
    obtain ⟨g1, g2⟩ := ih _ (ab_okB_set (ab_okB_set hB f.1 (fun _ => c1)) f.2.1 (fun _ => c2)) (by rw [hl]; exact fun g hg => hF g (List.mem_cons_of_mem _ hg)) (fun g hg => hne g (List.mem_cons_of_mem _ hg))
    exact ⟨g1.trans hl, g2⟩
def ab_tr1 (T : ab_RG) (q : Nat × Nat × ab_CN) (lev mn : Nat) (as rest : List ab_AV) (L : ab_LS) (B : ab_BD) (F : ab_FT) (Dl : ab_DL) (M : ab_ML) : Option (List ab_AS) :=
  cond (q.1.beq mn && (q.2.1 + 1).ble lev && ab_rq q.2.2.1 as)
    (match ab_mat T q.2.2.2.2.2.1 B Dl with
      | some (B1, D1) => cond (ab_vf (ab_gs 1 [] q.2.2.1 q.2.2.2.1 q.2.2.2.2.2.1 [] as D1) [] q.2.2.1 q.2.2.2.1 q.2.2.2.2.1 q.2.2.2.2.2.1 [] [] as B1 F D1 [])
        (some (q.2.2.2.2.2.2.filterMap (fun o =>
          let r := ab_af (ab_gs 1 [] q.2.2.1 q.2.2.2.1 q.2.2.2.2.2.1 [] as D1) q.2.2.2.1.length o B1 F D1 M
          cond (ab_no r.2.1 || ab_nf r.2.1 r.2.2.1 || ab_ng r.2.1 r.2.2.1 (r.2.2.1.take o.2.2.1.length)) none (some (L, r.1 ++ rest, r.2.1, r.2.2.1, r.2.2.2.1, r.2.2.2.2))))) none
      | none => none)
    none
def ab_try (T : ab_RG) (lev mn : Nat) (as rest : List ab_AV) (L : ab_LS) (B : ab_BD) (F : ab_FT) (Dl : ab_DL) (M : ab_ML) : ab_KS → Option (List ab_AS)
  | [] => none
  | q :: KS => match ab_tr1 T q lev mn as rest L B F Dl M with
    | some l => some l
    | none => ab_try T lev mn as rest L B F Dl M KS
theorem ab_try_ok {T : ab_RG} {lev mn : Nat} {as rest : List ab_AV} {L : ab_LS} {B : ab_BD} {F : ab_FT} {Dl : ab_DL} {M : ab_ML} : ∀ {KS : ab_KS} {l : List ab_AS}, ab_try T lev mn as rest L B F Dl M KS = some l → ∃ q ∈ KS, ab_tr1 T q lev mn as rest L B F Dl M = some l := by
  intro KS
  induction KS with
  | nil => intro l h; cases h
  | cons q KS ih =>
    intro l h
    unfold ab_try at h
    split at h
    · rename_i l9 hl9
      cases h
      exact ⟨q, List.mem_cons_self, hl9⟩
    · obtain ⟨q9, g1, g2⟩ := ih h
      exact ⟨q9, List.mem_cons_of_mem _ g1, g2⟩
/-- a call: the instruction's form (0 with an object, 1 without), the pool's number -/
def ab_iv (i : Instr) : Option (Bool × Nat) := match i with
  | .invokevirtual x => some (true, x)
  | .invokestatic x => some (false, x)
  | _ => none
def ab_cl (T : ab_RG) (MT : List ab_MR) (PM : ab_PC2) (KS : ab_KS) (lev : Nat) (i : Instr) (len : Nat) (X : ab_AS) : Option (List ab_AS) := match ab_iv i with
  | some (ob, x) => match PM.find? (fun q => q.1.beq x) with
    | some q => match MT[q.2.2]? with
      | some mr => match ab_pop (mr.2.2.2.2.1 + cond ob 1 0) X.2.1 [] with
        | some (as, rest) => cond (len.beq 3 && (mr.2.2.2.2.2.1 == ob) && (ab_cat rest).ble 8 && mr.2.2.1.ble 21)
          (ab_try T lev q.2.2 as rest X.1 X.2.2.1 X.2.2.2.1 X.2.2.2.2.1 X.2.2.2.2.2 KS) none
        | none => none
      | none => none
    | none => none
  | none => none
/-- the first n0 symbols are as at the start -/
def ab_rid : Nat → Nat → ab_TH → Bool
  | 0, _, _ => true
  | n + 1, i, q :: θ => q.1.beq i && ab_ieq q.2 0 && ab_rid n (i + 1) θ
  | _ + 1, _, [] => false
theorem ab_rid_ok {ρ : Nat → Int} : ∀ (n i : Nat) (θ : ab_TH), ab_rid n i θ = true → n ≤ θ.length ∧ ∀ j, j < n → ab_thv θ ρ j = ρ (i + j) := by
  intro n
  induction n with
  | zero => intro i θ _; exact ⟨Nat.zero_le _, fun j hj => absurd hj (Nat.not_lt_zero _)⟩
  | succ n ih =>
    intro i θ h
    cases θ with
    | nil => cases h
    | cons q θ =>
      unfold ab_rid at h
      rw [Bool.and_eq_true, Bool.and_eq_true] at h
      have h1 := ab_beq h.1.1
      have h2 := ab_ieq_ok h.1.2
      obtain ⟨g1, g2⟩ := ih (i + 1) θ h.2
      refine ⟨by rw [List.length_cons]; omega, fun j hj => ?_⟩
      cases j with
      | zero => show ρ q.1 + q.2 = ρ (i + 0); rw [h1, h2, Int.add_zero]; rfl
      | succ j =>
        have e : ab_thv (q :: θ) ρ (j + 1) = ab_thv θ ρ j := rfl
        rw [e, g2 j (by omega)]
        congr 1
        omega
/-- an end that this return meets -/
def ab_en (T : ab_RG) (n0 : Nat) (X : ab_AS) (o : ab_OU) : Bool := match ab_mat T o.2.2.2.1 X.2.2.1 X.2.2.2.2.1 with
  | some (B1, D1) =>
    let θ := ab_gs n0 [] o.1 o.2.1 o.2.2.2.1 [] X.2.1 D1
    ab_vf θ [] o.1 o.2.1 o.2.2.1 o.2.2.2.1 o.2.2.2.2 [] X.2.1 B1 X.2.2.2.1 D1 X.2.2.2.2.2 && ab_rid n0 0 θ
  | none => false
def ab_rk (rk : Nat) (B : ab_BD) (i : Instr) (S : List ab_AV) : Bool := match i, S with
  | .ireturn, [(0, s, c)] => rk.beq 0 || (rk.beq 1 && ab_fit B 3 s c)
  | .lreturn, [(1, _, _)] => rk.beq 2
  | .areturn, [a] => rk.beq 3 && (2 : Nat).ble a.1
  | .return_, [] => rk.beq 4
  | _, _ => false
def ab_rt (T : ab_RG) (n0 : Nat) (os : List ab_OU) (rk : Nat) (i : Instr) (len : Nat) (X : ab_AS) : Bool :=
  len.beq 1 && ab_rk rk X.2.2.1 i X.2.1 && os.any (ab_en T n0 X)
/-- the law's own script: cell 999 of those that never change, its length the symbol 1 -/
def ab_sx (sc : Nat) (i : Instr) (len : Nat) (S : List ab_AV) (B : ab_BD) (F : ab_FT) (Dl : ab_DL) (M : ab_ML) : Option (List ab_AV × ab_BD × ab_DL) := match i with
  | .iaload => match S with
    | (0, s, c) :: (5, k, _) :: S => cond (len.beq 1 && sc.beq 1 && k.beq 999 && ab_le 0 (ab_lo B s + c) && ab_in B s c && ab_le (ab_ub B F s 1 + c) (-1))
      (match cond (ab_le 0 c && ab_le c 999 && M.all (fun q => !(q.1.beq 140))) (some (2000000 + 1000 * s + c.toNat)) none with
        | some j => (match ab_dk Dl 140 j with
          | some q => some ((0, q.1, q.2) :: S, B, Dl)
          | none => some ((0, B.length, 0) :: S, B ++ [(-2147483648, 2147483647)], ((140, j), (B.length, 0)) :: Dl))
        | none => some ((0, B.length, 0) :: S, B ++ [(-2147483648, 2147483647)], Dl)) none
    | _ => none
  | .arraylength => match S with
    | (5, k, _) :: S => cond (len.beq 1 && sc.beq 1 && k.beq 999) (some ((0, 1, 0) :: S, B, Dl)) none
    | _ => none
  | _ => none
/-- a method's instructions, decoded: parts of sixteen bytes, in each (place, instruction, length, which rows read it) -/
abbrev ab_DT : Type := List (List (Nat × Instr × Nat × Nat))
def ab_dl : List (Nat × Instr × Nat × Nat) → Nat → Option (Instr × Nat × Nat)
  | [], _ => none
  | e :: l, pc => cond (e.1.beq pc) (some e.2) (ab_dl l pc)
def ab_dec (dt : ab_DT) (pc : Nat) : Option (Instr × Nat × Nat) := match dt[pc / 16]? with
  | some l => ab_dl l pc
  | none => none
def ab_dte (cc : ByteArray) (e : Nat × Instr × Nat × Nat) : Bool := match decode cc e.1 with
  | .ok q => decide (q.1 = e.2.1) && q.2.beq e.2.2.1
  | .error _ => false
def ab_dtok (cc : ByteArray) (dt : ab_DT) : Bool := dt.all (fun l => l.all (ab_dte cc))
theorem ab_dl_ok {cc : ByteArray} : ∀ {l : List (Nat × Instr × Nat × Nat)} {pc : Nat} {q : Instr × Nat × Nat}, l.all (ab_dte cc) = true → ab_dl l pc = some q → decode cc pc = .ok (q.1, q.2.1) := by
  intro l
  induction l with
  | nil => intro pc q _ h; cases h
  | cons e l ih =>
    intro pc q hl h
    rw [List.all_cons, Bool.and_eq_true] at hl
    unfold ab_dl at h
    cases hc : e.1.beq pc with
    | true =>
      rw [hc] at h
      cases h
      have h1 := Nat.eq_of_beq_eq_true hc
      have h2 := hl.1
      unfold ab_dte at h2
      rw [h1] at h2
      split at h2
      · rename_i q9 hq9
        rw [Bool.and_eq_true, decide_eq_true_eq] at h2
        rw [hq9, ← h2.1, ← ab_beq h2.2]
      · cases h2
    | false => rw [hc] at h; exact ih hl.2 h
theorem ab_dec_ok {cc : ByteArray} {dt : ab_DT} {pc : Nat} {q : Instr × Nat × Nat} (hd : ab_dtok cc dt = true) (h : ab_dec dt pc = some q) : decode cc pc = .ok (q.1, q.2.1) := by
  unfold ab_dec at h
  split at h
  · rename_i l hl
    exact ab_dl_ok (List.all_eq_true.mp hd l (List.mem_of_getElem? hl)) h
  · cases h
/-- one instruction; sc: 1 where the law's own script may be read -/
def ab_st (cl : List vw_C) (T : ab_RG) (C : ab_CT) (sh : List ab_SP) (MT : List ab_MR) (KI KJ : List (Nat × Int)) (PF : ab_PT) (kd : ab_KD) (PS : ab_PS) (PM : ab_PC2) (KS : ab_KS) (lev sc : Nat) (dt : ab_DT) (nL n0 : Nat) (os : List ab_OU) (rk : Nat) (sp : List Nat) (pc : Nat) (X : ab_AS) : Option (List (Nat × ab_AS)) :=
  match ab_dec dt pc with
  | some (i, len, h) => match h with
    | 0 => (match ab_pu KI KJ nL i len X.1 X.2.1 X.2.2.1 X.2.2.2.1 with
      | some r => some [(pc + len, (r.1, r.2.1, r.2.2.1, r.2.2.2, X.2.2.2.2))]
      | none => none)
    | 1 => (match ab_hp cl T C sh PF i len X.2.1 X.2.2.1 X.2.2.2.1 X.2.2.2.2.1 X.2.2.2.2.2 with
      | some r => some [(pc + len, (X.1, r.1, r.2.1, X.2.2.2.1, r.2.2.1, r.2.2.2))]
      | none => (match ab_ks kd PS i len X.2.1 X.2.2.1 with
        | some r => some [(pc + len, (X.1, r.1, r.2, X.2.2.2))]
        | none => (match ab_sx sc i len X.2.1 X.2.2.1 X.2.2.2.1 X.2.2.2.2.1 X.2.2.2.2.2 with
          | some r => some [(pc + len, (X.1, r.1, r.2.1, X.2.2.2.1, r.2.2, X.2.2.2.2.2))]
          | none => none)))
    | 2 => (match ab_br (sp.any (fun x => x.beq pc)) pc i len (match ab_dec dt (pc + 1) with | some q => some (q.1, q.2.1) | none => none) X.2.1 X.2.2.1 X.2.2.2.1 with
      | some l => some (l.map (fun q => (q.1, (X.1, q.2.1, q.2.2.1, q.2.2.2, X.2.2.2.2))))
      | none => none)
    | 3 => (match ab_cl T MT PM KS lev i len X with
      | some l => some (l.map (fun x => (pc + 3, x)))
      | none => (match ab_mo (sp.any (fun x => x.beq pc)) PS lev pc i len X.2.1 X.2.2.1 X.2.2.2.1 with
        | some l => some (l.map (fun q => (q.1, (X.1, q.2.1, q.2.2.1, q.2.2.2, X.2.2.2.2))))
        | none => none))
    | 4 => (match ab_ks kd PS i len X.2.1 X.2.2.1 with
      | some r => some [(pc + len, (X.1, r.1, r.2, X.2.2.2))]
      | none => none)
    | 5 => (match ab_mo (sp.any (fun x => x.beq pc)) PS lev pc i len X.2.1 X.2.2.1 X.2.2.2.1 with
      | some l => some (l.map (fun q => (q.1, (X.1, q.2.1, q.2.2.1, q.2.2.2, X.2.2.2.2))))
      | none => none)
    | _ => cond (ab_rt T n0 os rk i len X) (some []) none
  | none => none
/-- a node is met -/
def ab_hit0 (T : ab_RG) (n0 : Nat) (X : ab_AS) (nd : ab_ND) : Option (ab_BD × ab_TH) := match ab_mat T nd.2.1.2.2.2.2.1 X.2.2.1 X.2.2.2.2.1 with
  | some (B1, D1) =>
    cond (ab_vf (ab_gs n0 nd.2.1.1 nd.2.1.2.1 nd.2.1.2.2.1 nd.2.1.2.2.2.2.1 X.1 X.2.1 D1) nd.2.1.1 nd.2.1.2.1 nd.2.1.2.2.1 nd.2.1.2.2.2.1 nd.2.1.2.2.2.2.1 nd.2.1.2.2.2.2.2 X.1 X.2.1 B1 X.2.2.2.1 D1 X.2.2.2.2.2 && ab_rid n0 0 (ab_gs n0 nd.2.1.1 nd.2.1.2.1 nd.2.1.2.2.1 nd.2.1.2.2.2.2.1 X.1 X.2.1 D1))
      (some (B1, ab_gs n0 nd.2.1.1 nd.2.1.2.1 nd.2.1.2.2.1 nd.2.1.2.2.2.2.1 X.1 X.2.1 D1)) none
  | none => none
/-- .. its measure lower -/
def ab_hit (T : ab_RG) (n0 : Nat) (mu : ab_M3) (X : ab_AS) (nd : ab_ND) : Bool := match ab_hit0 T n0 X nd with
  | some (B1, θ) => (ab_mok θ.length nd.2.2.1 && ab_mok θ.length nd.2.2.2.1 && ab_mok θ.length nd.2.2.2.2) && ab_fall B1 X.2.2.2.1 (ab_msb θ nd.2.2.1, ab_msb θ nd.2.2.2.1, ab_msb θ nd.2.2.2.2) mu
  | none => false
/-- .. as a way out -/
def ab_hitE (T : ab_RG) (n0 : Nat) (X : ab_AS) (nd : ab_ND) : Bool := match ab_hit0 T n0 X nd with
  | some _ => true
  | none => false
/-- a symbol taken for a number -/
def ab_c1 (s : Nat) (v : Int) (a : ab_AV) : ab_AV := match a.1 with
  | 2 => a
  | 3 => a
  | 0 => cond (a.2.1.beq s) (0, 0, v + a.2.2) a
  | 1 => cond (a.2.1.beq s) (1, 0, v + a.2.2) a
  | 4 => cond (a.2.1.beq s) (4, 0, v + a.2.2) a
  | _ => a
def ab_cX (s : Nat) (v : Int) (X : ab_AS) : ab_AS := (X.1.map (fun q => (q.1, ab_c1 s v q.2)), X.2.1.map (ab_c1 s v), X.2.2.1.set s (v, v), X.2.2.2.1, X.2.2.2.2.1.map (fun d => cond (d.2.1.beq s) (d.1, (0, v + d.2.2)) d), X.2.2.2.2.2)
def ab_vs (s : Nat) (X : ab_AS) : Nat → Int → List ab_AS
  | 0, _ => []
  | n + 1, v => ab_cX s v X :: ab_vs s X n (v + 1)
/-- the numbers of a symbol, one by one -/
def ab_spl (s : Nat) (X : ab_AS) : List ab_AS := cond (s.beq 0 || !((s + 1).ble X.2.2.1.length)) [X] (ab_vs s X (ab_hi X.2.2.1 s - ab_lo X.2.2.1 s + 1).toNat (ab_lo X.2.2.1 s))
/-- the numbers of the world that no cell shows -/
def ab_GC : Nat := 130
/-- what is done at a place of the code ahead of its instruction: 0 a local's numbers one by one, 1 a place's, 2 a clause used, 3 a hidden place set, 4 a hidden place raised -/
abbrev ab_HT : Type := Nat × Nat × Nat × Int
/-- an atom taken as given -/
def ab_ua (X : ab_AS) (B : ab_BD) (Dl : ab_DL) (a : ab_AT) : List ab_AS := match ab_pd Dl a.1, ab_pd Dl a.2.1 with
  | some s, some t => (match ab_asm B X.2.2.2.1 s.1 t.1 (a.2.2 - s.2 + t.2) with
    | some r => [(X.1, X.2.1, r.1, r.2, Dl, X.2.2.2.2.2)]
    | none => [])
  | _, _ => [(X.1, X.2.1, B, X.2.2.2.1, Dl, X.2.2.2.2.2)]
/-- the places that a clause speaks of -/
def ab_qp (q : List ab_AT) : ab_DL := (q.flatMap (fun a => [a.1, a.2.1])).filterMap (fun p => cond (p.1.beq 1000) none (some (p, (0, 0))))
/-- rows behind one another, from the symbol a on -/
def ab_chn (a : Nat) (F : ab_FT) : ab_FT := (F.filter (fun f => f.1.beq a && !(f.2.1.beq a))).flatMap (fun f => (F.filter (fun g => g.1.beq f.2.1 && !(g.2.1.beq a))).map (fun g => (a, g.2.1, f.2.2 + g.2.2)))
theorem ab_chn_ok {a n : Nat} {F : ab_FT} {ρ : Nat → Int} (hF : ab_okF n F ρ) : ab_okF n (ab_chn a F ++ F) ρ := by
  intro f hf
  rcases List.mem_append.mp hf with hf | hf
  · obtain ⟨x, hx, hx2⟩ := List.mem_flatMap.mp hf
    obtain ⟨y, hy, rfl⟩ := List.mem_map.mp hx2
    obtain ⟨x1, x2⟩ := List.mem_filter.mp hx
    obtain ⟨y1, y2⟩ := List.mem_filter.mp hy
    rw [Bool.and_eq_true] at x2 y2
    have e1 := Nat.eq_of_beq_eq_true x2.1
    have e2 := Nat.eq_of_beq_eq_true y2.1
    obtain ⟨a1, a2, a3⟩ := hF x x1
    obtain ⟨b1, b2, b3⟩ := hF y y1
    refine ⟨by show a < n; omega, b2, ?_⟩
    show ρ a - ρ y.2.1 ≤ x.2.2 + y.2.2
    rw [e1] at a3
    rw [e2] at b3
    omega
  · exact hF f hf
/-- the numbers of a symbol in parts of c -/
def ab_ivs (s : Nat) (X : ab_AS) (c : Int) : Nat → Int → List ab_AS
  | 0, _ => []
  | n + 1, v => (X.1, X.2.1, X.2.2.1.set s (ab_max (ab_lo X.2.2.1 s) v, ab_min (ab_hi X.2.2.1 s) (v + c - 1)), X.2.2.2) :: ab_ivs s X c n (v + c)
theorem ab_ivs_in {s : Nat} {X : ab_AS} {c : Int} (hc : 1 ≤ c) : ∀ (n : Nat) (v x : Int), v ≤ x → x < v + n * c → ∃ w : Int, w ≤ x ∧ x ≤ w + c - 1 ∧ (X.1, X.2.1, X.2.2.1.set s (ab_max (ab_lo X.2.2.1 s) w, ab_min (ab_hi X.2.2.1 s) (w + c - 1)), X.2.2.2) ∈ ab_ivs s X c n v := by
  intro n
  induction n with
  | zero => intro v x h1 h2; exact absurd h2 (by simp; omega)
  | succ n ih =>
    intro v x h1 h2
    by_cases h : x ≤ v + c - 1
    · exact ⟨v, h1, h, List.mem_cons_self⟩
    · obtain ⟨w, a1, a2, a3⟩ := ih (v + c) x (by omega) (by
        have e : ((n + 1 : Nat) : Int) * c = n * c + c := by rw [Int.natCast_add, Int.add_mul]; simp
        rw [e] at h2
        omega)
      exact ⟨w, a1, a2, List.mem_cons_of_mem _ a3⟩
/-- a clause by its number: 1000 times the part's, and that in it -/
def ab_cq (row : ab_CR) (i : Nat) : Option (List ab_AT) := match row[i / 1000]? with
  | some z => z.2.2[i % 1000]?
  | none => none
theorem ab_cq_in {row : ab_CR} {i : Nat} {q : List ab_AT} (h : ab_cq row i = some q) : ∃ z ∈ row, q ∈ z.2.2 := by
  unfold ab_cq at h
  split at h
  · rename_i z hz
    exact ⟨z, List.mem_of_getElem? hz, List.mem_of_getElem? h⟩
  · cases h
/-- a clause used -/
def ab_hu (T : ab_RG) (C : ab_CT) (k i : Nat) (X : ab_AS) : Option (List ab_AS) := match C[k]? with
  | some row => (match ab_cq row i with
    | some q => (match ab_mat T (ab_qp q) X.2.2.1 X.2.2.2.2.1 with
      | some (B, Dl) => some (cond (q.any (ab_atk B X.2.2.2.1 Dl)) [(X.1, X.2.1, B, X.2.2.2.1, Dl, X.2.2.2.2.2)] (q.flatMap (ab_ua X B Dl)))
      | none => none)
    | none => none)
  | none => none
/-- the number of a local (below 1000), on the stack (below 2000), at a place of the row 93, where it is one number -/
def ab_h6 (src : Nat) (X : ab_AS) : Option Int := cond (src.ble 1999) (match cond (src.ble 999) (ab_lk X.1 src) (X.2.1[src - 1000]?) with
  | some (0, s, c) => cond (s.beq 0) (some c) none
  | _ => none) (match ab_dk X.2.2.2.2.1 93 (src - 2000) with
  | some q => cond (q.1.beq 0) (some q.2) none
  | none => none)
def ab_h10 (i : Nat) (c : Int) (X : ab_AS) : Option (List ab_AS) := match ab_lk X.1 i with
  | some (0, s, _) => cond ((s + 1).ble X.2.2.1.length && ab_le 1 c) (some (ab_ivs s X c ((ab_hi X.2.2.1 s - ab_lo X.2.2.1 s).toNat / c.toNat + 1) (ab_lo X.2.2.1 s))) none
  | _ => none
def ab_h1 (T : ab_RG) (C : ab_CT) (sh : List ab_SP) (h : ab_HT) (X : ab_AS) : Option (List ab_AS) := match h with
  | (0, i, _, _) => (match ab_lk X.1 i with
    | some (0, s, _) => some (ab_spl s X)
    | some (1, s, _) => some (ab_spl s X)
    | _ => none)
  | (1, k, j, _) => (match ab_get T k j j 0 X.2.2.1 X.2.2.2.2.1 with
    | some (q, B, Dl) => some (ab_spl q.1 (X.1, X.2.1, B, X.2.2.2.1, Dl, X.2.2.2.2.2))
    | none => none)
  | (2, k, i, _) => ab_hu T C k i X
  | (3, j, _, c) => cond (sh.length.ble 130) (match ab_set T C ab_GC j j 0 c X.2.2.1 X.2.2.2.1 X.2.2.2.2.1 X.2.2.2.2.2 with
    | some (Dl, M) => some [(X.1, X.2.1, X.2.2.1, X.2.2.2.1, Dl, M)]
    | none => none) none
  | (4, j, _, c) => cond (sh.length.ble 130) (match ab_get T ab_GC j j 0 X.2.2.1 X.2.2.2.2.1 with
    | some (q, B, Dl) => (match ab_set T C ab_GC j j q.1 (q.2 + c) B X.2.2.2.1 Dl X.2.2.2.2.2 with
      | some (Dl2, M) => some [(X.1, X.2.1, B, X.2.2.2.1, Dl2, M)]
      | none => none)
    | none => none) none
  | (5, _, _, _) => cond (X.2.2.2.1.all (fun f => !(f.1.beq f.2.1))) (some (cond (ab_no (ab_tgt X.2.2.2.1 X.2.2.1)) [] [(X.1, X.2.1, ab_tgt X.2.2.2.1 X.2.2.1, X.2.2.2.1, X.2.2.2.2)])) none
  | (6, k, src, c) => (match ab_h6 src X with
    | some v => ab_hu T C k (c + v).toNat X
    | none => some [X])
  | (7, i, _, _) => (match X.2.1[i]? with
    | some (0, s, _) => some (ab_spl s X)
    | some (1, s, _) => some (ab_spl s X)
    | _ => none)
  | (10, i, _, c) => ab_h10 i c X
  | (9, a, _, _) => some [(X.1, X.2.1, X.2.2.1, ab_chn a X.2.2.2.1 ++ X.2.2.2.1, X.2.2.2.2)]
  | _ => none
/-- one after another -/
def ab_cat2 (f : ab_AS → Option (List ab_AS)) : List ab_AS → Option (List ab_AS)
  | [] => some []
  | x :: l => match f x, ab_cat2 f l with
    | some a, some b => some (a ++ b)
    | _, _ => none
def ab_hs (T : ab_RG) (C : ab_CT) (sh : List ab_SP) : List ab_HT → ab_AS → Option (List ab_AS)
  | [], X => some [X]
  | h :: hs, X => match ab_h1 T C sh h X with
    | some l => ab_cat2 (ab_hs T C sh hs) l
    | none => none
abbrev ab_HH : Type := List (Nat × List ab_HT)
def ab_hx (T : ab_RG) (C : ab_CT) (sh : List ab_SP) (HN : ab_HH) (pc : Nat) (X : ab_AS) : Option (List ab_AS) := match HN.find? (fun h => h.1.beq pc) with
  | some h => ab_hs T C sh h.2 X
  | none => some [X]
def ab_run (cl : List vw_C) (T : ab_RG) (C : ab_CT) (sh : List ab_SP) (MT : List ab_MR) (KI KJ : List (Nat × Int)) (PF : ab_PT) (kd : ab_KD) (PS : ab_PS) (PM : ab_PC2) (KS : ab_KS) (lev sc : Nat) (dt : ab_DT) (nL n0 : Nat) (os : List ab_OU) (rk : Nat) (sp HD : List Nat) (HN : ab_HH) (EX NS : List ab_ND) (mu : ab_M3) : Nat → Nat → ab_AS → Bool
  | 0, _, _ => false
  | f + 1, pc, X => cond (HD.any (fun h => h.beq pc))
    (EX.any (fun nd => nd.1.beq pc && ab_hitE T n0 X nd) || NS.any (fun nd => nd.1.beq pc && ab_hit T n0 mu X nd) ||
    (match ab_hx T C sh HN pc X with
    | some xs => xs.all (fun X' => match ab_st cl T C sh MT KI KJ PF kd PS PM KS lev sc dt nL n0 os rk sp pc X' with
      | some l => l.all (fun q => ab_run cl T C sh MT KI KJ PF kd PS PM KS lev sc dt nL n0 os rk sp HD HN EX NS mu f q.1 q.2)
      | none => false)
    | none => false))
    (match ab_st cl T C sh MT KI KJ PF kd PS PM KS lev sc dt nL n0 os rk sp pc X with
      | some l => l.all (fun q => ab_run cl T C sh MT KI KJ PF kd PS PM KS lev sc dt nL n0 os rk sp HD HN EX NS mu f q.1 q.2)
      | none => false)
/-- a node: one instruction, then on -/
def ab_cn (cl : List vw_C) (T : ab_RG) (C : ab_CT) (sh : List ab_SP) (MT : List ab_MR) (KI KJ : List (Nat × Int)) (PF : ab_PT) (kd : ab_KD) (PS : ab_PS) (PM : ab_PC2) (KS : ab_KS) (lev sc : Nat) (dt : ab_DT) (nL n0 : Nat) (os : List ab_OU) (rk : Nat) (sp HD : List Nat) (HN : ab_HH) (EX NS : List ab_ND) (fuel : Nat) (nd : ab_ND) : Bool :=
  ab_mok nd.2.1.2.2.1.length nd.2.2.1 && ab_mok nd.2.1.2.2.1.length nd.2.2.2.1 && ab_mok nd.2.1.2.2.1.length nd.2.2.2.2 &&
  (match ab_hx T C sh HN nd.1 nd.2.1 with
  | some xs => xs.all (fun X' => match ab_st cl T C sh MT KI KJ PF kd PS PM KS lev sc dt nL n0 os rk sp nd.1 X' with
    | some l => l.all (fun q => ab_run cl T C sh MT KI KJ PF kd PS PM KS lev sc dt nL n0 os rk sp HD HN EX NS nd.2.2 fuel q.1 q.2)
    | none => false)
  | none => false)
end
