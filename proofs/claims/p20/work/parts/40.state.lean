/-! what is known of a frame: locals, stack, bounds, rows between symbols, known places of the world, places written since the start -/
abbrev ab_AV : Type := Nat × Nat × Int
abbrev ab_LS : Type := List (Nat × ab_AV)
abbrev ab_DL : Type := List ((Nat × Nat) × (Nat × Int))
abbrev ab_ML : Type := List (Nat × Nat)
abbrev ab_AS : Type := ab_LS × List ab_AV × ab_BD × ab_FT × ab_DL × ab_ML
/-- a value by its row: 0 an int, 1 a long, 2 a cell of the world, 3 null, 4 a word or null, 5 another cell -/
def ab_V (ad wr cr : Nat → Nat) (ρ : Nat → Int) (a : ab_AV) : Value := match a.1 with
  | 0 => .int (Int32.ofInt (ρ a.2.1 + a.2.2))
  | 1 => .long (Int64.ofInt (ρ a.2.1 + a.2.2))
  | 2 => .ref (ad a.2.1)
  | 3 => va_rf none
  | 4 => ab_wv wr (ρ a.2.1 + a.2.2)
  | _ => .ref (cr a.2.1)
/-- its symbol is one of the n -/
def ab_sy (n : Nat) (a : ab_AV) : Prop := match a.1 with
  | 0 => a.2.1 < n
  | 1 => a.2.1 < n
  | 4 => a.2.1 < n
  | _ => True
theorem ab_V_ext {ad wr cr : Nat → Nat} {ρ ρ' : Nat → Int} {n : Nat} {a : ab_AV} (h : ab_sy n a) (hρ : ∀ i, i < n → ρ' i = ρ i) : ab_V ad wr cr ρ' a = ab_V ad wr cr ρ a := by
  obtain ⟨t, s, c⟩ := a
  match t, h with
  | 0, h => show Value.int _ = Value.int _; rw [hρ s h]
  | 1, h => show Value.long _ = Value.long _; rw [hρ s h]
  | 2, _ => rfl
  | 3, _ => rfl
  | 4, h => show ab_wv _ _ = ab_wv _ _; rw [hρ s h]
  | n + 5, _ => rfl
theorem ab_sy_mono {n n' : Nat} {a : ab_AV} (h : ab_sy n a) (hn : n ≤ n') : ab_sy n' a := by
  obtain ⟨t, s, c⟩ := a
  match t, h with
  | 0, h => exact Nat.lt_of_lt_of_le h hn
  | 1, h => exact Nat.lt_of_lt_of_le h hn
  | 2, _ => trivial
  | 3, _ => trivial
  | 4, h => exact Nat.lt_of_lt_of_le h hn
  | n + 5, _ => trivial
theorem ab_V_cat {ad wr cr : Nat → Nat} {ρ : Nat → Int} {a : ab_AV} : ((ab_V ad wr cr ρ a).category == 2) = (a.1 == 1) := by
  obtain ⟨t, s, c⟩ := a
  match t with
  | 0 => rfl
  | 1 => rfl
  | 2 => rfl
  | 3 => rfl
  | 4 =>
    show ((ab_wv wr (ρ s + c)).category == 2) = _
    unfold ab_wv
    cases ρ s + c <;> rfl
  | n + 5 => show (1 == 2) = (n + 5 == 1); rw [show (n + 5 == 1) = false from beq_eq_false_iff_ne.mpr (by omega)]; rfl
theorem ab_V_cat1 {ad wr cr : Nat → Nat} {ρ : Nat → Int} {a : ab_AV} (h : a.1.beq 1 = false) : (ab_V ad wr cr ρ a).category = 1 := by
  obtain ⟨t, s, c⟩ := a
  match t, h with
  | 0, _ => rfl
  | 2, _ => rfl
  | 3, _ => rfl
  | 4, _ =>
    show (ab_wv wr (ρ s + c)).category = 1
    unfold ab_wv
    cases ρ s + c <;> rfl
  | n + 5, _ => rfl
/-- a list of values known by their rows -/
def ab_okS (ad wr cr : Nat → Nat) (n : Nat) (ρ : Nat → Int) (S : List ab_AV) (st : List Value) : Prop := st = S.map (ab_V ad wr cr ρ) ∧ ∀ a ∈ S, ab_sy n a
def ab_okL (ad wr cr : Nat → Nat) (n nL : Nat) (ρ : Nat → Int) (L : ab_LS) (ls : Array Slot) : Prop := lv_has ls nL (L.map (fun q => (q.1, ab_V ad wr cr ρ q.2))) ∧ ∀ q ∈ L, ab_sy n q.2
theorem ab_okS_ext {ad wr cr : Nat → Nat} {n n' : Nat} {ρ ρ' : Nat → Int} {S : List ab_AV} {st : List Value} (h : ab_okS ad wr cr n ρ S st) (hn : n ≤ n') (hρ : ∀ i, i < n → ρ' i = ρ i) : ab_okS ad wr cr n' ρ' S st := by
  refine ⟨?_, fun a ha => ab_sy_mono (h.2 a ha) hn⟩
  rw [h.1]
  exact List.map_congr_left (fun a ha => (ab_V_ext (h.2 a ha) hρ).symm)
theorem ab_okL_ext {ad wr cr : Nat → Nat} {n n' nL : Nat} {ρ ρ' : Nat → Int} {L : ab_LS} {ls : Array Slot} (h : ab_okL ad wr cr n nL ρ L ls) (hn : n ≤ n') (hρ : ∀ i, i < n → ρ' i = ρ i) : ab_okL ad wr cr n' nL ρ' L ls := by
  refine ⟨?_, fun a ha => ab_sy_mono (h.2 a ha) hn⟩
  have : L.map (fun q => (q.1, ab_V ad wr cr ρ' q.2)) = L.map (fun q => (q.1, ab_V ad wr cr ρ q.2)) := List.map_congr_left (fun a ha => by rw [ab_V_ext (h.2 a ha) hρ])
  rw [this]
  exact h.1
def ab_lk : ab_LS → Nat → Option ab_AV
  | [], _ => none
  | q :: L, i => cond (q.1.beq i) (some q.2) (ab_lk L i)
theorem ab_lk_mem : ∀ {L : ab_LS} {i : Nat} {a : ab_AV}, ab_lk L i = some a → (i, a) ∈ L := by
  intro L
  induction L with
  | nil => intro i a h; cases h
  | cons q L ih =>
    intro i a h
    unfold ab_lk at h
    cases hc : q.1.beq i with
    | true =>
      rw [hc] at h
      have h1 := Nat.eq_of_beq_eq_true hc
      have h2 : q.2 = a := Option.some.inj h
      rw [← h1, ← h2]
      exact List.mem_cons_self
    | false => rw [hc] at h; exact List.mem_cons_of_mem _ (ih h)
theorem ab_okL_at {ad wr cr : Nat → Nat} {n nL : Nat} {ρ : Nat → Int} {L : ab_LS} {ls : Array Slot} {i : Nat} {a : ab_AV} (h : ab_okL ad wr cr n nL ρ L ls) (hk : ab_lk L i = some a) : ls[i]? = some (.val (ab_V ad wr cr ρ a)) ∧ ab_sy n a := by
  have hm := ab_lk_mem hk
  exact ⟨h.1.2.2 (i, ab_V ad wr cr ρ a) (List.mem_map.mpr ⟨(i, a), hm, rfl⟩), h.2 _ hm⟩
def ab_st1 (L : ab_LS) (i : Nat) (a : ab_AV) : ab_LS := (i, a) :: L.filter (fun q => !(q.1 == i) && !(q.1 + 1 == i && q.2.1 == 1))
def ab_st2 (L : ab_LS) (i : Nat) (a : ab_AV) : ab_LS := (i, a) :: L.filter (fun q => !(q.1 == i) && (!(q.1 == i + 1) && !(q.1 + 1 == i && q.2.1 == 1)))
theorem ab_st1_map {ad wr cr : Nat → Nat} {ρ : Nat → Int} {L : ab_LS} {i : Nat} {a : ab_AV} :
    (i, ab_V ad wr cr ρ a) :: (L.map (fun q => (q.1, ab_V ad wr cr ρ q.2))).filter (fun q => !(q.1 == i) && !(q.1 + 1 == i && q.2.category == 2)) = (ab_st1 L i a).map (fun q => (q.1, ab_V ad wr cr ρ q.2)) := by
  unfold ab_st1
  rw [List.map_cons, List.filter_map]
  congr 2
  apply List.filter_congr
  intro q _
  show (!(q.1 == i) && !(q.1 + 1 == i && (ab_V ad wr cr ρ q.2).category == 2)) = _
  rw [ab_V_cat]
theorem ab_st2_map {ad wr cr : Nat → Nat} {ρ : Nat → Int} {L : ab_LS} {i : Nat} {a : ab_AV} :
    (i, ab_V ad wr cr ρ a) :: (L.map (fun q => (q.1, ab_V ad wr cr ρ q.2))).filter (fun q => !(q.1 == i) && (!(q.1 == i + 1) && !(q.1 + 1 == i && q.2.category == 2))) = (ab_st2 L i a).map (fun q => (q.1, ab_V ad wr cr ρ q.2)) := by
  unfold ab_st2
  rw [List.map_cons, List.filter_map]
  congr 2
  apply List.filter_congr
  intro q _
  show (!(q.1 == i) && (!(q.1 == i + 1) && !(q.1 + 1 == i && (ab_V ad wr cr ρ q.2).category == 2))) = _
  rw [ab_V_cat]
theorem ab_st1_sy {n : Nat} {L : ab_LS} {i : Nat} {a : ab_AV} (h : ∀ q ∈ L, ab_sy n q.2) (ha : ab_sy n a) : ∀ q ∈ ab_st1 L i a, ab_sy n q.2 := by
  intro q hq
  rcases List.mem_cons.mp hq with rfl | hq
  · exact ha
  · exact h q (List.mem_filter.mp hq).1
theorem ab_st2_sy {n : Nat} {L : ab_LS} {i : Nat} {a : ab_AV} (h : ∀ q ∈ L, ab_sy n q.2) (ha : ab_sy n a) : ∀ q ∈ ab_st2 L i a, ab_sy n q.2 := by
  intro q hq
  rcases List.mem_cons.mp hq with rfl | hq
  · exact ha
  · exact h q (List.mem_filter.mp hq).1
/-- the clauses: a row a cell that they speak of, in it parts (from, to, those that speak of a place there); each a list of atoms of which one holds: a place less another (cell 1000: nought) is at most a number -/
abbrev ab_AT : Type := (Nat × Nat) × (Nat × Nat) × Int
abbrev ab_CR : Type := List (Nat × Nat × List (List ab_AT))
abbrev ab_CT : Type := List ab_CR
def ab_pv (σ : ab_SG) (p : Nat × Nat) : Int := cond (p.1.beq 1000) 0 (σ p.1 p.2)
def ab_okA (σ : ab_SG) (a : ab_AT) : Prop := ab_pv σ a.1 - ab_pv σ a.2.1 ≤ a.2.2
def ab_inC (C : ab_CT) (p : Nat × Nat) (q : List ab_AT) : Prop := ∃ r, C[p.1]? = some r ∧ ∃ z ∈ r, z.1 ≤ p.2 ∧ p.2 < z.2.1 ∧ q ∈ z.2.2
def ab_wfC (C : ab_CT) : Prop := ∀ (k : Nat) (row : ab_CR), C[k]? = some row → ∀ z ∈ row, ∀ q ∈ z.2.2, ∀ a ∈ q, (a.1.1 = 1000 ∨ ab_inC C a.1 q) ∧ (a.2.1.1 = 1000 ∨ ab_inC C a.2.1 q)
def ab_okC (C : ab_CT) (σ : ab_SG) : Prop := ab_wfC C ∧ ∀ (k : Nat) (row : ab_CR), C[k]? = some row → ∀ z ∈ row, ∀ q ∈ z.2.2, ∃ a ∈ q, ab_okA σ a
/-- a place's name: below 2000000 the place; above, a symbol and what is added to it -/
def ab_kv (ρ : Nat → Int) (j : Nat) : Nat := cond (j.ble 1999999) j (ρ ((j - 2000000) / 1000) + (((j - 2000000) % 1000 : Nat) : Int)).toNat
def ab_kn (n j : Nat) : Prop := j.ble 1999999 = true ∨ (j - 2000000) / 1000 < n
theorem ab_kv_pl {ρ : Nat → Int} {j : Nat} (h : j.ble 1999999 = true) : ab_kv ρ j = j := by
  unfold ab_kv
  rw [h]
  rfl
theorem ab_kv_ext {ρ ρ' : Nat → Int} {n j : Nat} (h : ab_kn n j) (hρ : ∀ i, i < n → ρ' i = ρ i) : ab_kv ρ' j = ab_kv ρ j := by
  rcases h with h | h
  · rw [ab_kv_pl h, ab_kv_pl h]
  · unfold ab_kv
    rw [hρ _ h]
theorem ab_kn_mono {n n' j : Nat} (h : ab_kn n j) (hn : n ≤ n') : ab_kn n' j := h.imp id (fun g => Nat.lt_of_lt_of_le g hn)
/-- what was not written since the start -/
def ab_okM (M : ab_ML) (σ0 σ : ab_SG) : Prop := ∀ a b : Nat, (∀ q ∈ M, ¬ (q.1 = a ∧ (q.2 = b ∨ q.2 = 1000000))) → σ a b = σ0 a b
def ab_okD (n : Nat) (Dl : ab_DL) (ρ : Nat → Int) (σ : ab_SG) : Prop := ∀ d ∈ Dl, d.2.1 < n ∧ ab_kn n d.1.2 ∧ σ d.1.1 (ab_kv ρ d.1.2) = ρ d.2.1 + d.2.2
/-- the symbols, the world's numbers, what is known of both -/
def ab_K (T : ab_RG) (C : ab_CT) (σ0 : ab_SG) (B : ab_BD) (F : ab_FT) (Dl : ab_DL) (M : ab_ML) (ρ : Nat → Int) (σ : ab_SG) : Prop :=
  ab_okB B ρ ∧ ab_okF B.length F ρ ∧ ρ 0 = 0 ∧ 0 < B.length ∧ ab_okD B.length Dl ρ σ ∧ ab_okR T σ ∧ ab_okC C σ ∧ ab_okM M σ0 σ
theorem ab_K_fresh {T : ab_RG} {C : ab_CT} {σ0 : ab_SG} {B : ab_BD} {F : ab_FT} {Dl : ab_DL} {M : ab_ML} {ρ : Nat → Int} {σ : ab_SG} (h : ab_K T C σ0 B F Dl M ρ σ) {v l u : Int} (h1 : l ≤ v) (h2 : v ≤ u) (fs : List (Nat × Int)) (h3 : ∀ f ∈ fs, f.1 < B.length ∧ v - ρ f.1 ≤ f.2) :
    ab_K T C σ0 (B ++ [(l, u)]) (fs.map (fun f => (B.length, f.1, f.2)) ++ F) Dl M (fun i => if i = B.length then v else ρ i) σ := by
  obtain ⟨a1, a2, a3, a4, a5, a6, a7, a8⟩ := h
  have hl : (B ++ [(l, u)]).length = B.length + 1 := by rw [List.length_append, List.length_singleton]
  have hρ : ∀ i, i < B.length → (fun i => if i = B.length then v else ρ i) i = ρ i := fun i hi => if_neg (by omega)
  refine ⟨ab_okB_app a1 h1 h2, ?_, ?_, by rw [hl]; omega, ?_, a6, a7, a8⟩
  · rw [hl]
    intro f hf
    rcases List.mem_append.mp hf with hf | hf
    · obtain ⟨g, hg, rfl⟩ := List.mem_map.mp hf
      obtain ⟨g1, g2⟩ := h3 g hg
      refine ⟨by show B.length < _; omega, by show g.1 < _; omega, ?_⟩
      show (if B.length = B.length then v else ρ B.length) - (if g.1 = B.length then v else ρ g.1) ≤ g.2
      rw [if_pos rfl, if_neg (by omega)]
      exact g2
    · exact ab_okF_app a2 (Nat.le_succ _) hρ f hf
  · exact (hρ 0 a4).trans a3
  · rw [hl]
    intro d hd
    obtain ⟨g1, g3, g2⟩ := a5 d hd
    exact ⟨by omega, ab_kn_mono g3 (Nat.le_succ _), by rw [ab_kv_ext g3 hρ, g2, hρ _ g1]⟩
