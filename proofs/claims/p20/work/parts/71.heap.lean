abbrev ab_PT : Type := List (Nat × Nat × Nat × Nat)
/-- a row of a class's field links: the pool's number, the kind of the object, the place, the type (0 int, 1 long, 2 byte, 3 boolean, 4 a word) -/
def ab_pf : ab_PT → Nat → Option (Nat × Nat × Nat)
  | [], _ => none
  | q :: l, i => cond (q.1.beq i) (some q.2) (ab_pf l i)
theorem ab_pf_mem : ∀ {l : ab_PT} {i : Nat} {a : Nat × Nat × Nat}, ab_pf l i = some a → (i, a) ∈ l := by
  intro l
  induction l with
  | nil => intro i a h; cases h
  | cons q l ih =>
    intro i a h
    unfold ab_pf at h
    cases hc : q.1.beq i with
    | true =>
      rw [hc] at h
      have h1 := Nat.eq_of_beq_eq_true hc
      have h2 : q.2 = a := Option.some.inj h
      rw [← h1, ← h2]
      exact List.mem_cons_self
    | false => rw [hc] at h; exact List.mem_cons_of_mem _ (ih h)
def ab_ft (t : Nat) : FieldType := match t with
  | 0 => .int
  | 1 => .long
  | 2 => .byte
  | 3 => .boolean
  | _ => .object "NameNotes$Word"
/-- what a field link's row says of the tables -/
def ab_fok (cl : List vw_C) (Ts : List Jvm.Cond) (own : String) (q : Nat × Nat × Nat × Nat) : Prop :=
  ∃ (C : String) (T : u_T) (N : Nat), cl[q.2.1]? = some (C, T, N) ∧ q.2.2.1 < N ∧ (∀ w ∈ u_ws C T N, w ∈ Ts) ∧ Jvm.Cond.fieldLink own q.1 (T q.2.2.1).1 (T q.2.2.1).2.1 (T q.2.2.1).2.2.1 ∈ Ts ∧
    (∃ ty0 : Nat → FieldType, ∀ k, k < N → parseFieldDescriptor (T k).2.2.1 = some (ty0 k)) ∧ (∀ a, a < N → ∀ b, b < N → a ≠ b → (T a).2.1 ≠ (T b).2.1) ∧ ((T q.2.2.1).2.2.2 = false → parseFieldDescriptor (T q.2.2.1).2.2.1 = some (ab_ft q.2.2.2))
/-- the fields that may be set behind the constructors -/
def ab_fin (cl : List vw_C) (ci k : Nat) : Bool := match cl[ci]? with
  | some q => !(q.2.1 k).2.2.2
  | none => false
abbrev ab_HS : Type := List ab_AV × ab_BD × ab_DL × ab_ML
/-- a place of a row of the world that is named by a number -/
def ab_ix (B : ab_BD) (s : Nat) (c : Int) (n : Nat) : Option (Nat × Nat) :=
  cond (ab_le 0 (ab_lo B s + c) && ab_le (ab_hi B s + c + 1) n && n.ble 2147483647) (some ((ab_lo B s + c).toNat, (ab_hi B s + c).toNat)) none
theorem ab_ix_ok {B : ab_BD} {ρ : Nat → Int} {s : Nat} {c : Int} {n a b : Nat} (hB : ab_okB B ρ) (hs : s < B.length) (h : ab_ix B s c n = some (a, b)) :
    vp_in (Int32.ofInt (ρ s + c)) n ∧ (Int32.ofInt (ρ s + c)).toNatClampNeg = (ρ s + c).toNat ∧ a ≤ (ρ s + c).toNat ∧ (ρ s + c).toNat ≤ b := by
  obtain ⟨h1, h2⟩ := ab_cs h
  rw [Bool.and_eq_true, Bool.and_eq_true, ab_le_iff, ab_le_iff] at h1
  have h3 := Nat.le_of_ble_eq_true h1.2
  have := hB s hs
  cases h2
  obtain ⟨g1, g2⟩ := ab_idx (x := ρ s + c) (n := n) (by omega) (by omega) (by omega)
  exact ⟨g1, g2, by omega, by omega⟩
/-- a value fits a field or an array of the type t -/
def ab_fit (B : ab_BD) (t s : Nat) (c : Int) : Bool := match t with
  | 2 => ab_le (-128) (ab_lo B s + c) && ab_le (ab_hi B s + c) 127
  | 3 => ab_le 0 (ab_lo B s + c) && ab_le (ab_hi B s + c) 1
  | _ => true
def ab_arr (sh : List ab_SP) (t k : Nat) : Option Nat := match sh[k]? with
  | some (.inr a) => cond (a.1.beq t) (some a.2) none
  | _ => none
/-- the name of a place of the row 94 by a symbol -/
def ab_cx (k s : Nat) (c : Int) : Nat := cond (k.beq 94 && ab_le 0 c && ab_le c 999) (2000000 + 1000 * s + c.toNat) 0
theorem ab_cx_ok {n k s : Nat} {c : Int} {ρ : Nat → Int} (hs : s < n) (h : (2000000 : Nat).ble (ab_cx k s c) = true) : ab_kn n (ab_cx k s c) ∧ ab_kv ρ (ab_cx k s c) = (ρ s + c).toNat := by
  unfold ab_cx at h ⊢
  cases hc : (k.beq 94 && ab_le 0 c && ab_le c 999) with
  | false => rw [hc] at h; exact absurd (show (2000000 : Nat).ble 0 = true from h) (by decide)
  | true =>
    rw [Bool.and_eq_true, Bool.and_eq_true, ab_le_iff, ab_le_iff] at hc
    have e1 : (2000000 + 1000 * s + c.toNat - 2000000) / 1000 = s := by omega
    have e2 : (2000000 + 1000 * s + c.toNat - 2000000) % 1000 = c.toNat := by omega
    have e3 : ((c.toNat : Nat) : Int) = c := Int.toNat_of_nonneg hc.1.2
    show ab_kn n (2000000 + 1000 * s + c.toNat) ∧ ab_kv ρ (2000000 + 1000 * s + c.toNat) = _
    refine ⟨Or.inr (by rw [e1]; exact hs), ?_⟩
    unfold ab_kv
    rw [e1, e2, e3, show (2000000 + 1000 * s + c.toNat).ble 1999999 = false from by rw [← Bool.not_eq_true]; intro q; have := Nat.le_of_ble_eq_true q; omega]
    rfl
def ab_ald (T : ab_RG) (sh : List ab_SP) (t tag len : Nat) (S : List ab_AV) (B : ab_BD) (Dl : ab_DL) (M : ab_ML) : Option ab_HS := match S with
  | (0, s, c) :: (2, k, _) :: S => match ab_arr sh t k with
    | some n => match ab_ix B s c n with
      | some (a, b) => match ab_get T k a b (ab_cx k s c) B Dl with
        | some (q, B', Dl') => cond (len.beq 1) (some ((tag, q.1, q.2) :: S, B', Dl', M)) none
        | none => none
      | none => none
    | none => none
  | _ => none
def ab_ast (T : ab_RG) (C : ab_CT) (sh : List ab_SP) (t tag len : Nat) (S : List ab_AV) (B : ab_BD) (F : ab_FT) (Dl : ab_DL) (M : ab_ML) : Option ab_HS := match S with
  | (tg, s', c') :: (0, s, c) :: (2, k, _) :: S => match ab_arr sh t k with
    | some n => match ab_ix B s c n with
      | some (a, b) => match ab_set T C k a b s' c' B F Dl M with
        | some (Dl', M') => cond (len.beq 1 && tg.beq tag && ab_fit B t s' c') (some (S, B, Dl', M')) none
        | none => none
      | none => none
    | none => none
  | _ => none
/-- null, put into a place for words -/
def ab_nw (v : ab_AV) : ab_AV := cond (v.1.beq 3) (4, 0, -1) v
theorem ab_nw_ok {ad wr cr : Nat → Nat} {ρ : Nat → Int} {n : Nat} {v : ab_AV} (h0 : ρ 0 = 0) (hn : 0 < n) (h : ab_sy n v) : ab_V ad wr cr ρ v = ab_V ad wr cr ρ (ab_nw v) ∧ ab_sy n (ab_nw v) := by
  unfold ab_nw
  cases hc : v.1.beq 3 with
  | false => exact ⟨rfl, h⟩
  | true =>
    obtain ⟨t, s, c⟩ := v
    have := ab_beq hc
    subst this
    exact ⟨by show va_rf none = ab_wv wr (ρ 0 + -1); rw [h0]; rfl, hn⟩
def ab_hp (cl : List vw_C) (T : ab_RG) (C : ab_CT) (sh : List ab_SP) (PF : ab_PT) (i : Instr) (len : Nat) (S : List ab_AV) (B : ab_BD) (F : ab_FT) (Dl : ab_DL) (M : ab_ML) : Option ab_HS := match i with
  | .getfield x => match S with
    | (2, k, _) :: S => match ab_pf PF x, sh[k]? with
      | some (ci, j, _), some (.inl (cj, fs)) => match fs[j]? with
        | some f => cond (len.beq 3 && ci.beq cj) (match f.1 with
          | 2 => some ((2, f.2, 0) :: S, B, Dl, M)
          | 3 => some ((3, 0, 0) :: S, B, Dl, M)
          | t => match ab_get T k j j 0 B Dl with
            | some (q, B', Dl') => some ((Nat.min t 4, q.1, q.2) :: S, B', Dl', M)
            | none => none) none
        | none => none
      | _, _ => none
    | _ => none
  | .putfield x => match S with
    | v :: (2, k, _) :: S => match ab_pf PF x, sh[k]? with
      | some (ci, j, ty), some (.inl (cj, fs)) => match fs[j]? with
        | some f => match ab_set T C k j j (ab_nw v).2.1 (ab_nw v).2.2 B F Dl M with
          | some (Dl', M') => cond (len.beq 3 && ci.beq cj && ab_fin cl ci j && ((f.1.beq 0 && (ab_nw v).1.beq 0 && (ty.beq 0 || ty.beq 3) && ab_fit B ty (ab_nw v).2.1 (ab_nw v).2.2) || (f.1.beq 1 && (ab_nw v).1.beq 1 && ty.beq 1) || (f.1.beq 4 && (ab_nw v).1.beq 4 && ty.beq 4))) (some (S, B, Dl', M')) none
          | none => none
        | none => none
      | _, _ => none
    | _ => none
  | .iaload => ab_ald T sh 0 0 len S B Dl M
  | .laload => ab_ald T sh 1 1 len S B Dl M
  | .baload => match ab_ald T sh 2 0 len S B Dl M with
    | some r => some r
    | none => ab_ald T sh 3 0 len S B Dl M
  | .iastore => ab_ast T C sh 0 0 len S B F Dl M
  | .lastore => ab_ast T C sh 1 1 len S B F Dl M
  | .bastore => match ab_ast T C sh 2 0 len S B F Dl M with
    | some r => some r
    | none => ab_ast T C sh 3 0 len S B F Dl M
  | .arraylength => match S with
    | (2, k, _) :: S => match sh[k]? with
      | some (.inr a) => cond (len.beq 1 && a.1.ble 3) (some ((0, 0, (a.2 : Int)) :: S, B, Dl, M)) none
      | _ => none
    | _ => none
  | _ => none
