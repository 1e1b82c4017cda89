/-! the world: its shape sh (a row a cell: an object's kind and what its fields are, or an array's type and length), its numbers sg (a cell, a place) -/
abbrev ab_SP : Type := (Nat × List (Nat × Nat)) ⊕ (Nat × Nat)
abbrev ab_SG : Type := Nat → Nat → Int
def ab_wv (wr : Nat → Nat) (x : Int) : Value := match x with
  | .ofNat i => va_rf (some (wr i))
  | .negSucc _ => va_rf none
def ab_fv (ad wr : Nat → Nat) (f : Nat × Nat) (x : Int) : Value := match f.1 with
  | 0 => .int (Int32.ofInt x)
  | 1 => .long (Int64.ofInt x)
  | 2 => .ref (ad f.2)
  | 3 => .null
  | _ => ab_wv wr x
def ab_ar (t n : Nat) (row : Nat → Int) : vp_A := match t with
  | 1 => (n, .inr (.inl (fun j => Int64.ofInt (row j))))
  | _ => (n, .inl (fun j => Int32.ofInt (row j)))
def ab_cell (cy : Nat → ClassId) (ad wr : Nat → Nat) (sp : ab_SP) (row : Nat → Int) : va_E := match sp with
  | .inl o => .inr (o.1, o.2.mapIdx (fun j f => ab_fv ad wr f (row j)))
  | .inr a => .inl (cy a.1, ab_ar a.1 a.2 row)
def ab_WD (cy : Nat → ClassId) (ad wr : Nat → Nat) (sh : List ab_SP) (σ : ab_SG) : va_W := sh.mapIdx (fun k sp => (ad k, ab_cell cy ad wr sp (σ k)))
/-- one number set -/
def ab_ups (σ : ab_SG) (k j : Nat) (x : Int) : ab_SG := fun a b => if a = k ∧ b = j then x else σ a b
theorem ab_ups_eq {σ : ab_SG} {k j : Nat} {x : Int} : ab_ups σ k j x k j = x := if_pos ⟨rfl, rfl⟩
theorem ab_ups_ne {σ : ab_SG} {k j a b : Nat} {x : Int} (h : ¬ (a = k ∧ b = j)) : ab_ups σ k j x a b = σ a b := if_neg h
theorem ab_WD_get {cy : Nat → ClassId} {ad wr : Nat → Nat} {sh : List ab_SP} {σ : ab_SG} {k : Nat} {sp : ab_SP} (h : sh[k]? = some sp) : (ab_WD cy ad wr sh σ)[k]? = some (ad k, ab_cell cy ad wr sp (σ k)) := by
  unfold ab_WD
  rw [List.getElem?_mapIdx, h]
  rfl
theorem ab_WD_at {cy : Nat → ClassId} {ad wr : Nat → Nat} {sh : List ab_SP} {σ : ab_SG} {k : Nat} {q : Nat × va_E} (h : (ab_WD cy ad wr sh σ)[k]? = some q) : ∃ sp, sh[k]? = some sp ∧ q = (ad k, ab_cell cy ad wr sp (σ k)) := by
  unfold ab_WD at h
  rw [List.getElem?_mapIdx] at h
  cases hs : sh[k]? with
  | none => rw [hs] at h; cases h
  | some sp => rw [hs] at h; exact ⟨sp, rfl, (Option.some.inj h).symm⟩
theorem ab_WD_set {cy : Nat → ClassId} {ad wr : Nat → Nat} {sh : List ab_SP} {σ σ' : ab_SG} {k : Nat} {sp : ab_SP} {e : va_E} (h : sh[k]? = some sp) (he : e = ab_cell cy ad wr sp (σ' k)) (ho : ∀ a, a ≠ k → σ' a = σ a) :
    (ab_WD cy ad wr sh σ).set k (ad k, e) = ab_WD cy ad wr sh σ' := by
  apply List.ext_getElem?
  intro i
  have hk : k < (ab_WD cy ad wr sh σ).length := by
    unfold ab_WD
    rw [List.length_mapIdx]
    exact (List.getElem?_eq_some_iff.mp h).1
  by_cases hi : k = i
  · subst hi
    rw [List.getElem?_set_self hk, ab_WD_get h, he]
  · rw [List.getElem?_set_ne hi]
    unfold ab_WD
    rw [List.getElem?_mapIdx, List.getElem?_mapIdx, ho i (fun q => hi q.symm)]
theorem ab_ups_row {σ : ab_SG} {k j a : Nat} {x : Int} (h : a ≠ k) : ab_ups σ k j x a = σ a := by
  funext b
  exact ab_ups_ne (fun q => h q.1)
/-- a field set -/
theorem ab_fs_set {ad wr : Nat → Nat} {fs : List (Nat × Nat)} {σ : ab_SG} {k j : Nat} {x : Int} {f : Nat × Nat} (h : fs[j]? = some f) :
    (fs.mapIdx (fun i f => ab_fv ad wr f (σ k i))).set j (ab_fv ad wr f x) = fs.mapIdx (fun i f => ab_fv ad wr f (ab_ups σ k j x k i)) := by
  apply List.ext_getElem?
  intro i
  have hj : j < (fs.mapIdx (fun i f => ab_fv ad wr f (σ k i))).length := by
    rw [List.length_mapIdx]
    exact (List.getElem?_eq_some_iff.mp h).1
  by_cases hi : j = i
  · subst hi
    rw [List.getElem?_set_self hj, List.getElem?_mapIdx, h, Option.map_some, ab_ups_eq]
  · rw [List.getElem?_set_ne hi, List.getElem?_mapIdx, List.getElem?_mapIdx]
    cases fs[i]? with
    | none => rfl
    | some g =>
      rw [Option.map_some, Option.map_some, ab_ups_ne (fun q => hi q.2.symm)]
theorem ab_fs_get {ad wr : Nat → Nat} {fs : List (Nat × Nat)} {row : Nat → Int} {j : Nat} {f : Nat × Nat} (h : fs[j]? = some f) : (fs.mapIdx (fun i f => ab_fv ad wr f (row i)))[j]? = some (ab_fv ad wr f (row j)) := by
  rw [List.getElem?_mapIdx, h]; rfl
theorem ab_idx {x : Int} {n : Nat} (h0 : 0 ≤ x) (h1 : x < n) (hn : n < 2 ^ 31) : vp_in (Int32.ofInt x) n ∧ (Int32.ofInt x).toNatClampNeg = x.toNat := by
  have e : (Int32.ofInt x).toInt = x := Int32.toInt_ofInt_of_le (by omega) (by omega)
  exact ⟨vp_in_iff.mpr ⟨by rw [e]; exact h0, by rw [e]; exact h1⟩, by show (Int32.ofInt x).toInt.toNat = _; rw [e]⟩
theorem ab_row32 {σ : ab_SG} {k j : Nat} {x : Int} : (fun i => Int32.ofInt (ab_ups σ k j x k i)) = upd (fun i => Int32.ofInt (σ k i)) j (Int32.ofInt x) := by
  funext i
  unfold upd
  by_cases h : i = j
  · rw [if_pos h, h, ab_ups_eq]
  · rw [if_neg h, ab_ups_ne (fun q => h q.2)]
theorem ab_row64 {σ : ab_SG} {k j : Nat} {x : Int} : (fun i => Int64.ofInt (ab_ups σ k j x k i)) = vp_updL (fun i => Int64.ofInt (σ k i)) j (Int64.ofInt x) := by
  funext i
  unfold vp_updL
  by_cases h : i = j
  · rw [if_pos h, h, ab_ups_eq]
  · rw [if_neg h, ab_ups_ne (fun q => h q.2)]
/-- the ranges: a row a cell; in it parts (from, to, rows), each row of which holds in its part: (from, to, least, greatest) -/
abbrev ab_RW : Type := List (Nat × Nat × List (Nat × Nat × Int × Int))
abbrev ab_RG : Type := List ab_RW
def ab_okR (T : ab_RG) (σ : ab_SG) : Prop := ∀ (k : Nat) (row : ab_RW), T[k]? = some row → ∀ z ∈ row, ∀ e ∈ z.2.2, ∀ j : Nat, z.1 ≤ j → j < z.2.1 → e.1 ≤ j → j < e.2.1 → e.2.2.1 ≤ σ k j ∧ σ k j ≤ e.2.2.2
/-- a read of the places from a to b: the first range that holds them all -/
def ab_rd1 : List (Nat × Nat × Int × Int) → Nat → Nat → Option (Int × Int)
  | [], _, _ => none
  | e :: l, a, b => cond (e.1.ble a && (b + 1).ble e.2.1) (some e.2.2) (ab_rd1 l a b)
theorem ab_rd1_mem : ∀ {l : List (Nat × Nat × Int × Int)} {a b : Nat} {r : Int × Int}, ab_rd1 l a b = some r → ∃ e ∈ l, e.1 ≤ a ∧ b < e.2.1 ∧ e.2.2 = r := by
  intro l
  induction l with
  | nil => intro a b r h; cases h
  | cons e l ih =>
    intro a b r h
    unfold ab_rd1 at h
    cases hc : (e.1.ble a && (b + 1).ble e.2.1) with
    | true =>
      rw [hc] at h
      rw [Bool.and_eq_true] at hc
      exact ⟨e, List.mem_cons_self, Nat.le_of_ble_eq_true hc.1, Nat.le_of_ble_eq_true hc.2, Option.some.inj h⟩
    | false =>
      rw [hc] at h
      obtain ⟨e', h1, h2⟩ := ih h
      exact ⟨e', List.mem_cons_of_mem _ h1, h2⟩
def ab_rd : ab_RW → Nat → Nat → Option (Int × Int)
  | [], _, _ => none
  | z :: l, a, b => match cond (z.1.ble a && (b + 1).ble z.2.1) (ab_rd1 z.2.2 a b) none with
    | some r => some r
    | none => ab_rd l a b
theorem ab_rd_mem : ∀ {l : ab_RW} {a b : Nat} {r : Int × Int}, ab_rd l a b = some r → ∃ z ∈ l, ∃ e ∈ z.2.2, z.1 ≤ a ∧ b < z.2.1 ∧ e.1 ≤ a ∧ b < e.2.1 ∧ e.2.2 = r := by
  intro l
  induction l with
  | nil => intro a b r h; cases h
  | cons z l ih =>
    intro a b r h
    unfold ab_rd at h
    split at h
    · rename_i r9 hr9
      cases h
      cases hc : (z.1.ble a && (b + 1).ble z.2.1) with
      | true =>
        rw [hc] at hr9
        rw [Bool.and_eq_true] at hc
        obtain ⟨e, h1, h2, h3, h4⟩ := ab_rd1_mem hr9
        exact ⟨z, List.mem_cons_self, e, h1, Nat.le_of_ble_eq_true hc.1, Nat.le_of_ble_eq_true hc.2, h2, h3, h4⟩
      | false => rw [hc] at hr9; cases hr9
    · obtain ⟨z', h1, h2⟩ := ih h
      exact ⟨z', List.mem_cons_of_mem _ h1, h2⟩
def ab_rdT (T : ab_RG) (k a b : Nat) : Option (Int × Int) := match T[k]? with
  | some row => ab_rd row a b
  | none => none
theorem ab_rdT_ok {T : ab_RG} {σ : ab_SG} {k a b j : Nat} {r : Int × Int} (h : ab_okR T σ) (hr : ab_rdT T k a b = some r) (h1 : a ≤ j) (h2 : j ≤ b) : r.1 ≤ σ k j ∧ σ k j ≤ r.2 := by
  unfold ab_rdT at hr
  cases hk : T[k]? with
  | none => rw [hk] at hr; cases hr
  | some row =>
    rw [hk] at hr
    obtain ⟨z, hz, e, he, g1, g2, g3, g4, rfl⟩ := ab_rd_mem hr
    exact h k row hk z hz e he j (by omega) (by omega) (by omega) (by omega)
/-- a write of a number from l to h at the places from a to b keeps the ranges -/
def ab_wr (row : ab_RW) (a b : Nat) (l h : Int) : Bool := row.all (fun z => (b + 1).ble z.1 || z.2.1.ble a || z.2.2.all (fun e => (b + 1).ble e.1 || e.2.1.ble a || (ab_le e.2.2.1 l && ab_le h e.2.2.2)))
def ab_wrT (T : ab_RG) (k a b : Nat) (l h : Int) : Bool := match T[k]? with
  | some row => ab_wr row a b l h
  | none => true
theorem ab_wrT_ok {T : ab_RG} {σ : ab_SG} {k a b j : Nat} {l h x : Int} (hR : ab_okR T σ) (hw : ab_wrT T k a b l h = true) (h1 : a ≤ j) (h2 : j ≤ b) (h3 : l ≤ x) (h4 : x ≤ h) : ab_okR T (ab_ups σ k j x) := by
  intro k' row hrow z hz e he j' z1 z2 g1 g2
  by_cases hc : k' = k ∧ j' = j
  · obtain ⟨rfl, rfl⟩ := hc
    rw [ab_ups_eq]
    unfold ab_wrT at hw
    rw [hrow] at hw
    have hw2 : ab_wr row a b l h = true := hw
    unfold ab_wr at hw2
    have h5 := List.all_eq_true.mp hw2 z hz
    rw [Bool.or_eq_true, Bool.or_eq_true] at h5
    rcases h5 with (h5 | h5) | h5
    · have := Nat.le_of_ble_eq_true h5; omega
    · have := Nat.le_of_ble_eq_true h5; omega
    · have h6 := List.all_eq_true.mp h5 e he
      rw [Bool.or_eq_true, Bool.or_eq_true, Bool.and_eq_true, ab_le_iff, ab_le_iff] at h6
      rcases h6 with (h6 | h6) | h6
      · have := Nat.le_of_ble_eq_true h6; omega
      · have := Nat.le_of_ble_eq_true h6; omega
      · omega
  · rw [ab_ups_ne hc]
    exact hR k' row hrow z hz e he j' z1 z2 g1 g2
