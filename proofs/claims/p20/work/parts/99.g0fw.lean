/-! instructions over known numbers: each value by its row, a number as it is (an int stands for its rest by 2^32) -/
def fw_z : Nat → Int := fun _ => 0
def fw_c (x : Int) : Int := (Int32.ofInt x).toInt
def fw_d (x : Int) : Int := (Int64.ofInt x).toInt
theorem fw_c_id {x : Int} (h1 : -2147483648 ≤ x) (h2 : x ≤ 2147483647) : fw_c x = x := Int32.toInt_ofInt_of_le (by omega) (by omega)
theorem fw_d_id {x : Int} (h1 : -9223372036854775808 ≤ x) (h2 : x ≤ 9223372036854775807) : fw_d x = x := Int64.toInt_ofInt_of_le (by omega) (by omega)
theorem fw_c_in (x : Int) : -2147483648 ≤ fw_c x ∧ fw_c x ≤ 2147483647 := ab_r32 _
theorem fw_d_in (x : Int) : -9223372036854775808 ≤ fw_d x ∧ fw_d x ≤ 9223372036854775807 := ab_r64 _
theorem fw_c_of (x : Int) : Int32.ofInt (fw_c x) = Int32.ofInt x := Int32.ofInt_toInt _
theorem fw_d_of (x : Int) : Int64.ofInt (fw_d x) = Int64.ofInt x := Int64.ofInt_toInt _
theorem fw_c_c (x : Int) : fw_c (fw_c x) = fw_c x := by unfold fw_c; rw [Int32.ofInt_toInt]
theorem fw_d_d (x : Int) : fw_d (fw_d x) = fw_d x := by unfold fw_d; rw [Int64.ofInt_toInt]
/-- the locals by their places: known, or not -/
abbrev fw_L : Type := List (Option ab_AV)
def fw_lk : fw_L → Nat → Option ab_AV
  | [], _ => none
  | a :: _, 0 => a
  | _ :: L, i + 1 => fw_lk L i
/-- a long whose second half is written is known no more -/
def fw_kl (a : Option ab_AV) : Option ab_AV := match a with
  | some (1, _, _) => none
  | a => a
def fw_s1 : fw_L → Nat → ab_AV → fw_L
  | [], _, _ => []
  | _ :: L, 0, v => some v :: L
  | a :: L, 1, v => fw_kl a :: fw_s1 L 0 v
  | a :: L, i + 2, v => a :: fw_s1 L (i + 1) v
def fw_n : fw_L → Nat → fw_L
  | [], _ => []
  | _ :: L, 0 => none :: L
  | a :: L, i + 1 => a :: fw_n L i
def fw_s2 (L : fw_L) (i : Nat) (v : ab_AV) : fw_L := fw_n (fw_s1 L i v) (i + 1)
theorem fw_kl_ok {a : Option ab_AV} {b : ab_AV} (h : fw_kl a = some b) : a = some b ∧ b.1 ≠ 1 := by
  unfold fw_kl at h
  split at h
  · cases h
  · rename_i hn
    subst h
    refine ⟨rfl, fun q => ?_⟩
    obtain ⟨t, s, c⟩ := b
    have q : t = 1 := q
    subst q
    exact hn s c rfl
theorem fw_lk_s1 : ∀ {L : fw_L} {i j : Nat} {v b : ab_AV}, fw_lk (fw_s1 L i v) j = some b → (j = i ∧ b = v) ∨ (j ≠ i ∧ fw_lk L j = some b ∧ ¬ (j + 1 = i ∧ b.1 = 1)) := by
  intro L
  induction L with
  | nil =>
    intro i j v b h
    cases i <;> cases h
  | cons a L ih =>
    intro i j v b h
    match i, h with
    | 0, h =>
      cases j with
      | zero => cases h; exact Or.inl ⟨rfl, rfl⟩
      | succ j => exact Or.inr ⟨by omega, h, fun q => by omega⟩
    | 1, h =>
      cases j with
      | zero =>
        obtain ⟨h1, h2⟩ := fw_kl_ok h
        exact Or.inr ⟨by omega, h1, fun q => h2 q.2⟩
      | succ j =>
        rcases ih (i := 0) h with ⟨h1, h2⟩ | ⟨h1, h2, h3⟩
        · exact Or.inl ⟨by omega, h2⟩
        · exact Or.inr ⟨by omega, h2, fun q => by omega⟩
    | i + 2, h =>
      cases j with
      | zero => exact Or.inr ⟨by omega, h, fun q => by omega⟩
      | succ j =>
        rcases ih (i := i + 1) h with ⟨h1, h2⟩ | ⟨h1, h2, h3⟩
        · exact Or.inl ⟨by omega, h2⟩
        · exact Or.inr ⟨by omega, h2, fun q => h3 ⟨by omega, q.2⟩⟩
theorem fw_lk_n : ∀ {L : fw_L} {i j : Nat} {b : ab_AV}, fw_lk (fw_n L i) j = some b → j ≠ i ∧ fw_lk L j = some b := by
  intro L
  induction L with
  | nil =>
    intro i j b h
    cases h
  | cons a L ih =>
    intro i j b h
    cases i with
    | zero =>
      cases j with
      | zero => cases h
      | succ j => exact ⟨by omega, h⟩
    | succ i =>
      cases j with
      | zero => exact ⟨by omega, h⟩
      | succ j =>
        obtain ⟨h1, h2⟩ := ih h
        exact ⟨by omega, h2⟩
section
variable {ad wr cr : Nat → Nat} {nL : Nat} {L : fw_L} {ls : Array Slot} {S : List ab_AV} {st : List Value}
theorem fw_V0 {s : Nat} {c : Int} : ab_V ad wr cr fw_z (0, s, c) = .int (Int32.ofInt c) := by
  show Value.int (Int32.ofInt (0 + c)) = _
  rw [Int.zero_add]
theorem fw_V1 {s : Nat} {c : Int} : ab_V ad wr cr fw_z (1, s, c) = .long (Int64.ofInt c) := by
  show Value.long (Int64.ofInt (0 + c)) = _
  rw [Int.zero_add]
theorem fw_V4 {s : Nat} {c : Int} : ab_V ad wr cr fw_z (4, s, c) = ab_wv wr c := by
  show ab_wv wr (0 + c) = _
  rw [Int.zero_add]
def fw_okL (ad wr cr : Nat → Nat) (nL : Nat) (L : fw_L) (ls : Array Slot) : Prop := ls.size = nL ∧ lv_wf ls ∧ ∀ (j : Nat) (b : ab_AV), fw_lk L j = some b → ls[j]? = some (.val (ab_V ad wr cr fw_z b))
def fw_tl (ad wr cr : Nat → Nat) : Nat → fw_L → List (Nat × Value)
  | _, [] => []
  | i, some a :: L => (i, ab_V ad wr cr fw_z a) :: fw_tl ad wr cr (i + 1) L
  | i, none :: L => fw_tl ad wr cr (i + 1) L
theorem fw_tl_mem : ∀ (L : fw_L) (i : Nat) (q : Nat × Value), q ∈ fw_tl ad wr cr i L ↔ ∃ (j : Nat) (b : ab_AV), q.1 = i + j ∧ fw_lk L j = some b ∧ q.2 = ab_V ad wr cr fw_z b := by
  intro L
  induction L with
  | nil =>
    intro i q
    exact ⟨fun h => (by cases h), fun ⟨j, b, h1, h2, h3⟩ => (by cases h2)⟩
  | cons a L ih =>
    intro i q
    have tail : q ∈ fw_tl ad wr cr (i + 1) L ↔ ∃ (j : Nat) (b : ab_AV), q.1 = i + (j + 1) ∧ fw_lk L j = some b ∧ q.2 = ab_V ad wr cr fw_z b := by
      rw [ih]
      refine ⟨fun ⟨j, b, h1, h2, h3⟩ => ⟨j, b, by omega, h2, h3⟩, fun ⟨j, b, h1, h2, h3⟩ => ⟨j, b, by omega, h2, h3⟩⟩
    cases a with
    | none =>
      show q ∈ fw_tl ad wr cr (i + 1) L ↔ _
      rw [tail]
      refine ⟨fun ⟨j, b, h1, h2, h3⟩ => ⟨j + 1, b, h1, h2, h3⟩, fun ⟨j, b, h1, h2, h3⟩ => ?_⟩
      cases j with
      | zero => cases h2
      | succ j => exact ⟨j, b, h1, h2, h3⟩
    | some a =>
      show q ∈ (i, ab_V ad wr cr fw_z a) :: fw_tl ad wr cr (i + 1) L ↔ _
      rw [List.mem_cons, tail]
      refine ⟨fun h => ?_, fun ⟨j, b, h1, h2, h3⟩ => ?_⟩
      · rcases h with rfl | ⟨j, b, h1, h2, h3⟩
        · exact ⟨0, a, rfl, rfl, rfl⟩
        · exact ⟨j + 1, b, h1, h2, h3⟩
      · cases j with
        | zero =>
          have h2 : some a = some b := h2
          cases h2
          exact Or.inl (Prod.ext h1 h3)
        | succ j => exact Or.inr ⟨j, b, h1, h2, h3⟩
theorem fw_okL_has (h : fw_okL ad wr cr nL L ls) : lv_has ls nL (fw_tl ad wr cr 0 L) := by
  refine ⟨h.1, h.2.1, fun q hq => ?_⟩
  obtain ⟨j, b, h1, h2, h3⟩ := (fw_tl_mem L 0 q).mp hq
  rw [h3, h1, Nat.zero_add]
  exact h.2.2 j b h2
theorem fw_has_s1 {ls' : Array Slot} {i : Nat} {a : ab_AV} (h : lv_has ls' nL ((i, ab_V ad wr cr fw_z a) :: (fw_tl ad wr cr 0 L).filter (fun q => !(q.1 == i) && !(q.1 + 1 == i && q.2.category == 2)))) : fw_okL ad wr cr nL (fw_s1 L i a) ls' := by
  refine ⟨h.1, h.2.1, fun j b hb => ?_⟩
  rcases fw_lk_s1 hb with ⟨rfl, rfl⟩ | ⟨h1, h2, h3⟩
  · exact h.2.2 (j, ab_V ad wr cr fw_z b) List.mem_cons_self
  · refine h.2.2 (j, ab_V ad wr cr fw_z b) (List.mem_cons_of_mem _ (List.mem_filter.mpr ⟨(fw_tl_mem L 0 _).mpr ⟨j, b, (Nat.zero_add j).symm, h2, rfl⟩, ?_⟩))
    rw [ab_V_cat, Bool.and_eq_true, Bool.not_eq_true', Bool.not_eq_true', beq_eq_false_iff_ne, Bool.and_eq_false_iff, beq_eq_false_iff_ne, beq_eq_false_iff_ne]
    refine ⟨h1, ?_⟩
    by_cases q : j + 1 = i
    · exact Or.inr (fun z => h3 ⟨q, z⟩)
    · exact Or.inl q
theorem fw_has_s2 {ls' : Array Slot} {i : Nat} {a : ab_AV} (h : lv_has ls' nL ((i, ab_V ad wr cr fw_z a) :: (fw_tl ad wr cr 0 L).filter (fun q => !(q.1 == i) && (!(q.1 == i + 1) && !(q.1 + 1 == i && q.2.category == 2))))) : fw_okL ad wr cr nL (fw_s2 L i a) ls' := by
  refine ⟨h.1, h.2.1, fun j b hb => ?_⟩
  obtain ⟨hb0, hb⟩ := fw_lk_n hb
  rcases fw_lk_s1 hb with ⟨rfl, rfl⟩ | ⟨h1, h2, h3⟩
  · exact h.2.2 (j, ab_V ad wr cr fw_z b) List.mem_cons_self
  · refine h.2.2 (j, ab_V ad wr cr fw_z b) (List.mem_cons_of_mem _ (List.mem_filter.mpr ⟨(fw_tl_mem L 0 _).mpr ⟨j, b, (Nat.zero_add j).symm, h2, rfl⟩, ?_⟩))
    rw [ab_V_cat, Bool.and_eq_true, Bool.and_eq_true, Bool.not_eq_true', Bool.not_eq_true', Bool.not_eq_true', beq_eq_false_iff_ne, beq_eq_false_iff_ne, Bool.and_eq_false_iff, beq_eq_false_iff_ne, beq_eq_false_iff_ne]
    refine ⟨h1, hb0, ?_⟩
    by_cases q : j + 1 = i
    · exact Or.inr (fun z => h3 ⟨q, z⟩)
    · exact Or.inl q
/-- the locals at a method's entry -/
def fw_ex : List ab_AV → fw_L
  | [] => []
  | a :: as => match a.1 with
    | 1 => some a :: none :: fw_ex as
    | _ => some a :: fw_ex as
def fw_pd : Nat → fw_L → fw_L
  | 0, _ => []
  | n + 1, [] => none :: fw_pd n []
  | n + 1, a :: L => a :: fw_pd n L
def fw_en (n : Nat) (as : List ab_AV) : fw_L := fw_pd n (fw_ex as)
theorem fw_pd_ok : ∀ (n : Nat) (L : fw_L) (j : Nat) (b : ab_AV), fw_lk (fw_pd n L) j = some b → fw_lk L j = some b := by
  intro n
  induction n with
  | zero => intro L j b h; cases h
  | succ n ih =>
    intro L j b h
    cases L with
    | nil =>
      cases j with
      | zero => cases h
      | succ j => exact absurd (ih [] j b h) (fun q => by cases q)
    | cons a L =>
      cases j with
      | zero => exact h
      | succ j => exact ih L j b h
theorem fw_ex_ok : ∀ (as : List ab_AV) (i j : Nat) (b : ab_AV), fw_lk (fw_ex as) j = some b → (i + j, ab_V ad wr cr fw_z b) ∈ lv_args i (as.map (ab_V ad wr cr fw_z)) := by
  intro as
  induction as with
  | nil => intro i j b h; cases h
  | cons a as ih =>
    intro i j b h
    show _ ∈ (i, ab_V ad wr cr fw_z a) :: lv_args (if (ab_V ad wr cr fw_z a).category = 2 then i + 2 else i + 1) (as.map (ab_V ad wr cr fw_z))
    replace h : fw_lk (match a.1 with
      | 1 => some a :: none :: fw_ex as
      | _ => some a :: fw_ex as) j = some b := h
    cases hc : a.1.beq 1 with
    | true =>
      obtain ⟨t, s, c⟩ := a
      have := ab_beq hc
      subst this
      match j, h with
      | 0, h => cases h; exact List.mem_cons_self
      | 1, h => cases h
      | j + 2, h =>
        refine List.mem_cons_of_mem _ ?_
        have e : i + (j + 2) = i + 2 + j := by omega
        rw [e]
        exact ih (i + 2) j b h
    | false =>
      have h1 := ab_V_cat1 (ad := ad) (wr := wr) (cr := cr) (ρ := fw_z) hc
      rw [h1]
      have hne : a.1 ≠ 1 := fun q => by rw [q] at hc; cases hc
      have h2 : fw_lk (some a :: fw_ex as) j = some b := by
        split at h
        · rename_i q; exact absurd q hne
        · exact h
      cases j with
      | zero => cases h2; exact List.mem_cons_self
      | succ j =>
        refine List.mem_cons_of_mem _ ?_
        have e : i + (j + 1) = i + 1 + j := by omega
        rw [e]
        exact ih (i + 1) j b h2
theorem fw_en_ok (as : List ab_AV) (n i j : Nat) (b : ab_AV) (h : fw_lk (fw_en n as) j = some b) : (i + j, ab_V ad wr cr fw_z b) ∈ lv_args i (as.map (ab_V ad wr cr fw_z)) := fw_ex_ok as i j b (fw_pd_ok n _ j b h)
def fw_okS (ad wr cr : Nat → Nat) (S : List ab_AV) (st : List Value) : Prop := st = S.map (ab_V ad wr cr fw_z)
theorem fw_push {a : ab_AV} (h : fw_okS ad wr cr S st) : fw_okS ad wr cr (a :: S) (ab_V ad wr cr fw_z a :: st) := by
  unfold fw_okS at h ⊢
  rw [List.map_cons, ← h]
theorem fw_push0 {s : Nat} {c : Int} (h : fw_okS ad wr cr S st) : fw_okS ad wr cr ((0, s, c) :: S) (.int (Int32.ofInt c) :: st) := by
  have := fw_push (a := (0, s, c)) h
  rw [fw_V0] at this
  exact this
theorem fw_push1 {s : Nat} {c : Int} (h : fw_okS ad wr cr S st) : fw_okS ad wr cr ((1, s, c) :: S) (.long (Int64.ofInt c) :: st) := by
  have := fw_push (a := (1, s, c)) h
  rw [fw_V1] at this
  exact this
theorem fw_pushi {s : Nat} {z : Int32} {c : Int} (h : fw_okS ad wr cr S st) (hz : Int32.ofInt c = z) : fw_okS ad wr cr ((0, s, c) :: S) (.int z :: st) := hz ▸ fw_push0 h
theorem fw_pushl {s : Nat} {z : Int64} {c : Int} (h : fw_okS ad wr cr S st) (hz : Int64.ofInt c = z) : fw_okS ad wr cr ((1, s, c) :: S) (.long z :: st) := hz ▸ fw_push1 h
theorem fw_pop {a : ab_AV} (h : fw_okS ad wr cr (a :: S) st) : ∃ st', st = ab_V ad wr cr fw_z a :: st' ∧ fw_okS ad wr cr S st' := ⟨S.map (ab_V ad wr cr fw_z), by rw [show st = _ from h, List.map_cons], rfl⟩
theorem fw_pop0 {s : Nat} {c : Int} (h : fw_okS ad wr cr ((0, s, c) :: S) st) : ∃ st', st = .int (Int32.ofInt c) :: st' ∧ fw_okS ad wr cr S st' := by
  obtain ⟨st', h1, h2⟩ := fw_pop h
  rw [fw_V0] at h1
  exact ⟨st', h1, h2⟩
theorem fw_pop1 {s : Nat} {c : Int} (h : fw_okS ad wr cr ((1, s, c) :: S) st) : ∃ st', st = .long (Int64.ofInt c) :: st' ∧ fw_okS ad wr cr S st' := by
  obtain ⟨st', h1, h2⟩ := fw_pop h
  rw [fw_V1] at h1
  exact ⟨st', h1, h2⟩
theorem fw_at {i : Nat} {a : ab_AV} (h : fw_okL ad wr cr nL L ls) (hk : fw_lk L i = some a) : ls[i]? = some (.val (ab_V ad wr cr fw_z a)) := h.2.2 i a hk
end
/-- what an operation answers -/
def fw_op (o : Nat) (x y : Int) : Int := match o with
  | 0 => x + y
  | 1 => x - y
  | 2 => x * y
  | _ => (ab_sem o (Int32.ofInt x) (Int32.ofInt y)).toInt
theorem fw_op_ok (o : Nat) (x y : Int) : Int32.ofInt (fw_op o x y) = ab_sem o (Int32.ofInt x) (Int32.ofInt y) := by
  match o with
  | 0 => show Int32.ofInt (x + y) = Int32.ofInt x + Int32.ofInt y; rw [Int32.ofInt_add]
  | 1 => show Int32.ofInt (x - y) = Int32.ofInt x - Int32.ofInt y; rw [Int32.ofInt_sub]
  | 2 => show Int32.ofInt (x * y) = Int32.ofInt x * Int32.ofInt y; rw [Int32.ofInt_mul]
  | n + 3 => exact Int32.ofInt_toInt _
def fw_lop (o : Nat) (x y : Int) : Int := match o with
  | 0 => x + y
  | 1 => x - y
  | 2 => x * y
  | _ => (ab_lsem o (Int64.ofInt x) (Int64.ofInt y)).toInt
theorem fw_lop_ok (o : Nat) (x y : Int) : Int64.ofInt (fw_lop o x y) = ab_lsem o (Int64.ofInt x) (Int64.ofInt y) := by
  match o with
  | 0 => show Int64.ofInt (x + y) = Int64.ofInt x + Int64.ofInt y; rw [Int64.ofInt_add]
  | 1 => show Int64.ofInt (x - y) = Int64.ofInt x - Int64.ofInt y; rw [Int64.ofInt_sub]
  | 2 => show Int64.ofInt (x * y) = Int64.ofInt x * Int64.ofInt y; rw [Int64.ofInt_mul]
  | n + 3 => exact Int64.ofInt_toInt _
def fw_b (x : Int) : Int := ((Int8.ofInt x).toInt32).toInt
def fw_u (x y : Int) : Int := (((Int64.ofInt x).toUInt64 >>> ((Int32.ofInt y).toInt64.toUInt64 &&& Int64.toUInt64 63)).toInt64).toInt
abbrev fw_PU : Type := fw_L × List ab_AV
def fw_ld (f : ab_AV → Bool) (L : fw_L) (i : Nat) (S : List ab_AV) : Option fw_PU := match fw_lk L i with
  | some a => cond (f a) (some (L, a :: S)) none
  | none => none
/-- locals and stack alone -/
def fw_pu (KI KJ : List (Nat × Int)) (nL : Nat) (i : Instr) (len : Nat) (L : fw_L) (S : List ab_AV) : Option fw_PU := match i with
  | .iconst n => cond (len.beq 1) (some (L, (0, 0, n) :: S)) none
  | .bipush n => cond (len.beq 2 && ab_le (-128) n && ab_le n 127) (some (L, (0, 0, n) :: S)) none
  | .sipush n => cond (len.beq 3 && ab_le (-32768) n && ab_le n 32767) (some (L, (0, 0, n) :: S)) none
  | .lconst n => cond (len.beq 1) (some (L, (1, 0, ((n : Nat) : Int)) :: S)) none
  | .aconst_null => cond (len.beq 1) (some (L, (3, 0, 0) :: S)) none
  | .ldc x => cond (len.beq 2) (match ab_kc KI x with | some v => some (L, (0, 0, v) :: S) | none => none) none
  | .ldc_w x => cond (len.beq 3) (match ab_kc KI x with | some v => some (L, (0, 0, v) :: S) | none => none) none
  | .ldc2_w x => cond (len.beq 3) (match ab_kc KJ x with | some v => some (L, (1, 0, v) :: S) | none => none) none
  | .iload_n k => cond (len.beq 1) (fw_ld (fun a => a.1.beq 0) L k S) none
  | .iload k => cond (len.beq 2) (fw_ld (fun a => a.1.beq 0) L k S) none
  | .lload_n k => cond (len.beq 1) (fw_ld (fun a => a.1.beq 1) L k S) none
  | .lload k => cond (len.beq 2) (fw_ld (fun a => a.1.beq 1) L k S) none
  | .aload_n k => cond (len.beq 1) (fw_ld (fun a => (2 : Nat).ble a.1) L k S) none
  | .aload k => cond (len.beq 2) (fw_ld (fun a => (2 : Nat).ble a.1) L k S) none
  | .istore_n k => match S with
    | (0, s, c) :: S => cond (len.beq 1 && (k + 1 : Nat).ble nL) (some (fw_s1 L k (0, s, c), S)) none
    | _ => none
  | .istore k => match S with
    | (0, s, c) :: S => cond (len.beq 2 && (k + 1).ble nL) (some (fw_s1 L k (0, s, c), S)) none
    | _ => none
  | .lstore_n k => match S with
    | (1, s, c) :: S => cond (len.beq 1 && (k + 2 : Nat).ble nL) (some (fw_s2 L k (1, s, c), S)) none
    | _ => none
  | .lstore k => match S with
    | (1, s, c) :: S => cond (len.beq 2 && (k + 2).ble nL) (some (fw_s2 L k (1, s, c), S)) none
    | _ => none
  | .astore_n k => match S with
    | a :: S => cond (len.beq 1 && (k + 1 : Nat).ble nL && (2 : Nat).ble a.1) (some (fw_s1 L k a, S)) none
    | _ => none
  | .astore k => match S with
    | a :: S => cond (len.beq 2 && (k + 1).ble nL && (2 : Nat).ble a.1) (some (fw_s1 L k a, S)) none
    | _ => none
  | .dup => match S with
    | a :: S => cond (len.beq 1 && !(a.1.beq 1)) (some (L, a :: a :: S)) none
    | _ => none
  | .dup2 => match S with
    | a :: b :: S => cond (len.beq 1 && !(a.1.beq 1) && !(b.1.beq 1)) (some (L, a :: b :: a :: b :: S)) none
    | _ => none
  | .pop => match S with
    | a :: S => cond (len.beq 1 && !(a.1.beq 1)) (some (L, S)) none
    | _ => none
  | .iinc k n => match fw_lk L k with
    | some (0, s, c) => cond (len.beq 3 && (k + 1).ble nL) (some (fw_s1 L k (0, s, c + n), S)) none
    | _ => none
  | .ineg => match S with
    | (0, s, c) :: S => cond (len.beq 1) (some (L, (0, s, -c) :: S)) none
    | _ => none
  | .lneg => match S with
    | (1, s, c) :: S => cond (len.beq 1) (some (L, (1, s, -c) :: S)) none
    | _ => none
  | .lushr => match S with
    | (0, _, d) :: (1, s, c) :: S => cond (len.beq 1) (some (L, (1, s, fw_u c d) :: S)) none
    | _ => none
  | .i2l => match S with
    | (0, s, c) :: S => cond (len.beq 1) (some (L, (1, s, fw_c c) :: S)) none
    | _ => none
  | .l2i => match S with
    | (1, s, c) :: S => cond (len.beq 1) (some (L, (0, s, c) :: S)) none
    | _ => none
  | .i2b => match S with
    | (0, s, c) :: S => cond (len.beq 1) (some (L, (0, s, fw_b c) :: S)) none
    | _ => none
  | i => match ab_bo i, S with
    | some o, (0, _, d) :: (0, s, c) :: S => cond (len.beq 1 && !(o.beq 3 || o.beq 4)) (some (L, (0, s, fw_op o c d) :: S)) none
    | _, _ => match ab_bl i, S with
      | some o, (1, _, d) :: (1, s, c) :: S => cond (len.beq 1 && !(o.beq 3 || o.beq 4)) (some (L, (1, s, fw_lop o c d) :: S)) none
      | _, _ => none
/-- a divisor must not be nought -/
def fw_dv (i : Instr) (len : Nat) (S : List ab_AV) : Option (Int × List ab_AV) := match ab_bo i, S with
  | some o, (0, _, d) :: (0, s, c) :: S => cond (len.beq 1) (some (fw_c d, (0, s, fw_op o c d) :: S)) none
  | _, _ => match ab_bl i, S with
    | some o, (1, _, d) :: (1, s, c) :: S => cond (len.beq 1) (some (fw_d d, (1, s, fw_lop o c d) :: S)) none
    | _, _ => none
section
variable {p : Program} {l : Launch} {e : Env} {R : Room} {s : State} {m : MethodId} {args : Array Value} {below : List Frame} {meth : Method} {c : Code} {H : Heap} {locs : List Loc} {cells slots : Nat} {Q : State → Prop} {cc : ByteArray} {pc : Nat} {ls : Array Slot} {st : List Value}
variable {ad wr cr : Nat → Nat} {nL : Nat} {L L' : fw_L} {S S' : List ab_AV} {own : String} {KI KJ : List (Nat × Int)} {i : Instr} {len : Nat}
set_option maxHeartbeats 4000000 in
theorem fw_pu_ok (hx : p.tables.exec = Jvm.exec) (hb : c.code = cc) (hown : s.vm.findClass own = some m.cls) (hKI : ∀ q ∈ KI, (Jvm.Cond.constant own q.1 (Int32.ofInt q.2)).before args s = true) (hKJ : ∀ q ∈ KJ, (Jvm.Cond.constantLong own q.1 (Int64.ofInt q.2)).before args s = true)
    (hpu : fw_pu KI KJ nL i len L S = some (L', S')) (hdg : decode cc pc = .ok (i, len)) (hL : fw_okL ad wr cr nL L ls) (hS : fw_okS ad wr cr S st)
    (kk : ∀ (ls' : Array Slot) (st' : List Value), fw_okL ad wr cr nL L' ls' → fw_okS ad wr cr S' st' → W p l e R s m args below meth c H locs cells slots Q (F0 m (pc + len) ls' st')) :
    W p l e R s m args below meth c H locs cells slots Q (F0 m pc ls st) := by
  have K0 : ∀ st' : List Value, L' = L → fw_okS ad wr cr S' st' → W p l e R s m args below meth c H locs cells slots Q (F0 m (pc + len) ls st') := by
    intro st' e1 hS'
    subst e1
    exact kk ls st' hL hS'
  have LD : ∀ (f : ab_AV → Bool) (k : Nat), fw_ld f L k S = some (L', S') → ∃ a, ls[k]? = some (.val (ab_V ad wr cr fw_z a)) ∧ f a = true ∧ W p l e R s m args below meth c H locs cells slots Q (F0 m (pc + len) ls (ab_V ad wr cr fw_z a :: st)) := by
    intro f k h
    unfold fw_ld at h
    cases ha : fw_lk L k with
    | none => rw [ha] at h; cases h
    | some a =>
      rw [ha] at h
      obtain ⟨h1, h2⟩ := ab_cs h
      cases h2
      exact ⟨a, fw_at hL ha, h1, K0 _ rfl (fw_push hS)⟩
  have V0 : ∀ a : ab_AV, a.1.beq 0 = true → ∃ x, ab_V ad wr cr fw_z a = .int x := fun a ha => by
    obtain ⟨t, s, c⟩ := a
    have := ab_beq ha
    subst this
    exact ⟨_, rfl⟩
  have V1 : ∀ a : ab_AV, a.1.beq 1 = true → ∃ x, ab_V ad wr cr fw_z a = .long x := fun a ha => by
    obtain ⟨t, s, c⟩ := a
    have := ab_beq ha
    subst this
    exact ⟨_, rfl⟩
  unfold fw_pu at hpu
  split at hpu
  · obtain ⟨g, h⟩ := ab_cs hpu; cases h
    have := ab_beq g; subst this
    exact lv_iconst hx hb hdg rfl (K0 _ rfl (fw_push0 hS))
  · obtain ⟨g, h⟩ := ab_cs hpu; cases h
    rw [Bool.and_eq_true, Bool.and_eq_true, ab_le_iff, ab_le_iff] at g
    have := ab_beq g.1.1; subst this
    have g1 := g.1.2
    have g2 := g.2
    exact lv_bipush hx hb hdg (Int8.toInt32_ofInt (by rw [Int8.toInt_minValue]; omega) (by rw [Int8.toInt_maxValue]; omega)) (K0 _ rfl (fw_push0 hS))
  · obtain ⟨g, h⟩ := ab_cs hpu; cases h
    rw [Bool.and_eq_true, Bool.and_eq_true, ab_le_iff, ab_le_iff] at g
    have := ab_beq g.1.1; subst this
    have g1 := g.1.2
    have g2 := g.2
    exact lv_sipush hx hb hdg (Int16.toInt32_ofInt (by rw [Int16.toInt_minValue]; omega) (by rw [Int16.toInt_maxValue]; omega)) (K0 _ rfl (fw_push0 hS))
  · obtain ⟨g, h⟩ := ab_cs hpu; cases h
    have := ab_beq g; subst this
    exact lv_lconst hx hb hdg rfl (K0 _ rfl (fw_push1 hS))
  · obtain ⟨g, h⟩ := ab_cs hpu; cases h
    have := ab_beq g; subst this
    exact lv_null hx hb hdg (K0 _ rfl (fw_push (a := (3, 0, 0)) hS))
  · obtain ⟨g, h⟩ := ab_co hpu
    have := ab_beq g; subst this
    split at h
    · cases h
      exact lv_ldc hx hb hown (hKI _ (ab_kc_mem (by assumption))) hdg (K0 _ rfl (fw_push0 hS))
    · cases h
  · obtain ⟨g, h⟩ := ab_co hpu
    have := ab_beq g; subst this
    split at h
    · cases h
      exact lv_ldcw hx hb hown (hKI _ (ab_kc_mem (by assumption))) hdg (K0 _ rfl (fw_push0 hS))
    · cases h
  · obtain ⟨g, h⟩ := ab_co hpu
    have := ab_beq g; subst this
    split at h
    · cases h
      exact lv_ldc2 hx hb hown (hKJ _ (ab_kc_mem (by assumption))) hdg (K0 _ rfl (fw_push1 hS))
    · cases h
  · obtain ⟨g, h⟩ := ab_co hpu
    have := ab_beq g; subst this
    obtain ⟨a, a1, a2, a3⟩ := LD _ _ h
    obtain ⟨x, hx1⟩ := V0 a a2
    rw [hx1] at a1 a3
    exact lv_iload_n hx hb hdg rfl a1 a3
  · obtain ⟨g, h⟩ := ab_co hpu
    have := ab_beq g; subst this
    obtain ⟨a, a1, a2, a3⟩ := LD _ _ h
    obtain ⟨x, hx1⟩ := V0 a a2
    rw [hx1] at a1 a3
    exact lv_iload hx hb hdg a1 a3
  · obtain ⟨g, h⟩ := ab_co hpu
    have := ab_beq g; subst this
    obtain ⟨a, a1, a2, a3⟩ := LD _ _ h
    obtain ⟨x, hx1⟩ := V1 a a2
    rw [hx1] at a1 a3
    exact lv_lload_n hx hb hdg rfl a1 a3
  · obtain ⟨g, h⟩ := ab_co hpu
    have := ab_beq g; subst this
    obtain ⟨a, a1, a2, a3⟩ := LD _ _ h
    obtain ⟨x, hx1⟩ := V1 a a2
    rw [hx1] at a1 a3
    exact lv_lload hx hb hdg a1 a3
  · obtain ⟨g, h⟩ := ab_co hpu
    have := ab_beq g; subst this
    obtain ⟨a, a1, a2, a3⟩ := LD _ _ h
    rcases ab_ref (ad := ad) (wr := wr) (cr := cr) (ρ := fw_z) a2 with ⟨x, hx1⟩ | hx1
    · rw [hx1] at a1 a3
      exact lv_aload_n hx hb hdg rfl a1 a3
    · rw [hx1] at a1 a3
      exact lv_aload_nN hx hb hdg rfl a1 a3
  · obtain ⟨g, h⟩ := ab_co hpu
    have := ab_beq g; subst this
    obtain ⟨a, a1, a2, a3⟩ := LD _ _ h
    rcases ab_ref (ad := ad) (wr := wr) (cr := cr) (ρ := fw_z) a2 with ⟨x, hx1⟩ | hx1
    · rw [hx1] at a1 a3
      exact lv_aload hx hb hdg a1 a3
    · rw [hx1] at a1 a3
      exact lv_aloadN hx hb hdg a1 a3
  · split at hpu
    · rename_i k9 x9 s9 c9 S9
      obtain ⟨g, h⟩ := ab_cs hpu; cases h
      rw [Bool.and_eq_true] at g
      have := ab_beq g.1; subst this
      obtain ⟨st1, rfl, hS1⟩ := fw_pop hS
      exact lv_istore_n hx hb hdg rfl (fw_okL_has hL) (Nat.le_of_ble_eq_true g.2) rfl (fun ls' hl' => kk ls' st1 (fw_has_s1 hl') hS1)
    · cases hpu
  · split at hpu
    · rename_i k9 x9 s9 c9 S9
      obtain ⟨g, h⟩ := ab_cs hpu; cases h
      rw [Bool.and_eq_true] at g
      have := ab_beq g.1; subst this
      obtain ⟨st1, rfl, hS1⟩ := fw_pop hS
      exact lv_istore hx hb hdg (fw_okL_has hL) (Nat.le_of_ble_eq_true g.2) rfl (fun ls' hl' => kk ls' st1 (fw_has_s1 hl') hS1)
    · cases hpu
  · split at hpu
    · rename_i k9 x9 s9 c9 S9
      obtain ⟨g, h⟩ := ab_cs hpu; cases h
      rw [Bool.and_eq_true] at g
      have := ab_beq g.1; subst this
      obtain ⟨st1, rfl, hS1⟩ := fw_pop hS
      exact lv_lstore_n hx hb hdg rfl (fw_okL_has hL) (Nat.le_of_ble_eq_true g.2) rfl (fun ls' hl' => kk ls' st1 (fw_has_s2 hl') hS1)
    · cases hpu
  · split at hpu
    · rename_i k9 x9 s9 c9 S9
      obtain ⟨g, h⟩ := ab_cs hpu; cases h
      rw [Bool.and_eq_true] at g
      have := ab_beq g.1; subst this
      obtain ⟨st1, rfl, hS1⟩ := fw_pop hS
      exact lv_lstore hx hb hdg (fw_okL_has hL) (Nat.le_of_ble_eq_true g.2) rfl (fun ls' hl' => kk ls' st1 (fw_has_s2 hl') hS1)
    · cases hpu
  · split at hpu
    · rename_i A9 S9
      obtain ⟨g, h⟩ := ab_cs hpu; cases h
      rw [Bool.and_eq_true, Bool.and_eq_true] at g
      have := ab_beq g.1.1; subst this
      obtain ⟨st1, rfl, hS1⟩ := fw_pop hS
      have hm1 : ∀ (i : Nat) (ls' : Array Slot), lv_has ls' nL ((i, ab_V ad wr cr fw_z A9) :: (fw_tl ad wr cr 0 L).filter (fun q => !(q.1 == i) && !(q.1 + 1 == i && q.2.category == 2))) → fw_okL ad wr cr nL (fw_s1 L i A9) ls' := fun i ls' h => fw_has_s1 h
      rcases ab_ref (ad := ad) (wr := wr) (cr := cr) (ρ := fw_z) g.2 with ⟨x, hx1⟩ | hx1
      · rw [hx1] at hm1 ⊢
        exact lv_astore_n hx hb hdg rfl (fw_okL_has hL) (Nat.le_of_ble_eq_true g.1.2) rfl (fun ls' hl' => kk ls' st1 (hm1 _ ls' hl') hS1)
      · rw [hx1] at hm1 ⊢
        exact lv_astore_nN hx hb hdg rfl (fw_okL_has hL) (Nat.le_of_ble_eq_true g.1.2) rfl (fun ls' hl' => kk ls' st1 (hm1 _ ls' hl') hS1)
    · cases hpu
  · split at hpu
    · rename_i A9 S9
      obtain ⟨g, h⟩ := ab_cs hpu; cases h
      rw [Bool.and_eq_true, Bool.and_eq_true] at g
      have := ab_beq g.1.1; subst this
      obtain ⟨st1, rfl, hS1⟩ := fw_pop hS
      have hm1 : ∀ (i : Nat) (ls' : Array Slot), lv_has ls' nL ((i, ab_V ad wr cr fw_z A9) :: (fw_tl ad wr cr 0 L).filter (fun q => !(q.1 == i) && !(q.1 + 1 == i && q.2.category == 2))) → fw_okL ad wr cr nL (fw_s1 L i A9) ls' := fun i ls' h => fw_has_s1 h
      rcases ab_ref (ad := ad) (wr := wr) (cr := cr) (ρ := fw_z) g.2 with ⟨x, hx1⟩ | hx1
      · rw [hx1] at hm1 ⊢
        exact lv_astore hx hb hdg (fw_okL_has hL) (Nat.le_of_ble_eq_true g.1.2) rfl (fun ls' hl' => kk ls' st1 (hm1 _ ls' hl') hS1)
      · rw [hx1] at hm1 ⊢
        exact lv_astoreN hx hb hdg (fw_okL_has hL) (Nat.le_of_ble_eq_true g.1.2) rfl (fun ls' hl' => kk ls' st1 (hm1 _ ls' hl') hS1)
    · cases hpu
  · split at hpu
    · obtain ⟨g, h⟩ := ab_cs hpu; cases h
      rw [Bool.and_eq_true, Bool.not_eq_true'] at g
      have := ab_beq g.1; subst this
      obtain ⟨st1, rfl, hS1⟩ := fw_pop hS
      exact lv_dup hx hb hdg (ab_V_cat1 g.2) (K0 _ rfl (fw_push (fw_push hS1)))
    · cases hpu
  · split at hpu
    · obtain ⟨g, h⟩ := ab_cs hpu; cases h
      rw [Bool.and_eq_true, Bool.and_eq_true, Bool.not_eq_true', Bool.not_eq_true'] at g
      have := ab_beq g.1.1; subst this
      obtain ⟨st1, rfl, hS1⟩ := fw_pop hS
      obtain ⟨st2, rfl, hS2⟩ := fw_pop hS1
      exact lv_dup2_11 hx hb hdg (ab_V_cat1 g.1.2) (ab_V_cat1 g.2) (K0 _ rfl (fw_push (fw_push (fw_push (fw_push hS2)))))
    · cases hpu
  · split at hpu
    · obtain ⟨g, h⟩ := ab_cs hpu; cases h
      rw [Bool.and_eq_true, Bool.not_eq_true'] at g
      have := ab_beq g.1; subst this
      obtain ⟨st1, rfl, hS1⟩ := fw_pop hS
      exact lv_pop hx hb hdg (ab_V_cat1 g.2) (K0 _ rfl hS1)
    · cases hpu
  · split at hpu
    · rename_i k9 n9 x9 s9 c9 hk9
      obtain ⟨g, h⟩ := ab_cs hpu; cases h
      rw [Bool.and_eq_true] at g
      have := ab_beq g.1; subst this
      obtain ⟨j9, hj9⟩ := List.getElem?_of_mem ((fw_tl_mem (ad := ad) (wr := wr) (cr := cr) L 0 (k9, ab_V ad wr cr fw_z (0, s9, c9))).mpr ⟨k9, (0, s9, c9), (Nat.zero_add k9).symm, hk9, rfl⟩)
      refine lv_iinc hx hb hdg (fw_okL_has hL) (k := j9) (x := Int32.ofInt (fw_z s9 + c9)) (v := Int32.ofInt (fw_z s9 + (c9 + n9))) hj9 ?_ (Nat.le_of_ble_eq_true g.2) rfl (fun ls' hl' => kk ls' st (fw_has_s1 (a := (0, s9, c9 + n9)) hl') hS)
      rw [← Int32.ofInt_add, Int.add_assoc]
    · cases hpu
  · split at hpu
    · obtain ⟨g, h⟩ := ab_cs hpu; cases h
      have := ab_beq g; subst this
      obtain ⟨st1, rfl, hS1⟩ := fw_pop0 hS
      exact lv_ineg hx hb hdg (K0 _ rfl (fw_pushi hS1 (Int32.ofInt_neg _)))
    · cases hpu
  · split at hpu
    · obtain ⟨g, h⟩ := ab_cs hpu; cases h
      have := ab_beq g; subst this
      obtain ⟨st1, rfl, hS1⟩ := fw_pop1 hS
      exact lv_lneg hx hb hdg (K0 _ rfl (fw_pushl hS1 (Int64.ofInt_neg _)))
    · cases hpu
  · split at hpu
    · obtain ⟨g, h⟩ := ab_cs hpu; cases h
      have := ab_beq g; subst this
      obtain ⟨st1, rfl, hS1⟩ := fw_pop0 hS
      obtain ⟨st2, rfl, hS2⟩ := fw_pop1 hS1
      exact lv_lushr hx hb hdg rfl (K0 _ rfl (fw_pushl hS2 (Int64.ofInt_toInt _)))
    · cases hpu
  · split at hpu
    · rename_i s9 c9 S9
      obtain ⟨g, h⟩ := ab_cs hpu; cases h
      have := ab_beq g; subst this
      obtain ⟨st1, rfl, hS1⟩ := fw_pop0 hS
      refine lv_i2l hx hb hdg rfl (K0 _ rfl (fw_pushl hS1 ?_))
      apply Int64.toInt_inj.mp
      rw [Int32.toInt_toInt64]
      have r := fw_c_in c9
      exact Int64.toInt_ofInt_of_le (by omega) (by omega)
    · cases hpu
  · split at hpu
    · obtain ⟨g, h⟩ := ab_cs hpu; cases h
      have := ab_beq g; subst this
      obtain ⟨st1, rfl, hS1⟩ := fw_pop1 hS
      exact lv_l2i hx hb hdg rfl (K0 _ rfl (fw_pushi hS1 Int64.toInt32_ofInt.symm))
    · cases hpu
  · split at hpu
    · obtain ⟨g, h⟩ := ab_cs hpu; cases h
      have := ab_beq g; subst this
      obtain ⟨st1, rfl, hS1⟩ := fw_pop0 hS
      refine lv_i2b hx hb hdg rfl (K0 _ rfl (fw_pushi hS1 ?_))
      unfold fw_b
      rw [Int32.ofInt_toInt, Int32.toInt8_ofInt]
    · cases hpu
  · split at hpu
    · rename_i o9 t9 d9 s9 c9 S9 ho9
      obtain ⟨g, h⟩ := ab_cs hpu; cases h
      rw [Bool.and_eq_true, Bool.not_eq_true'] at g
      have := ab_beq g.1; subst this
      obtain ⟨st1, rfl, hS1⟩ := fw_pop0 hS
      obtain ⟨st2, rfl, hS2⟩ := fw_pop0 hS1
      refine ab_bo_row hx hb ho9 ?_ hdg (K0 _ rfl (fw_pushi hS2 (fw_op_ok _ _ _)))
      intro hz
      exfalso
      have g2 := g.2
      rcases hz with rfl | rfl <;> cases g2
    · split at hpu
      · rename_i o9 t9 d9 s9 c9 S9 ho9 hneg9
        obtain ⟨g, h⟩ := ab_cs hpu; cases h
        rw [Bool.and_eq_true, Bool.not_eq_true'] at g
        have := ab_beq g.1; subst this
        obtain ⟨st1, rfl, hS1⟩ := fw_pop1 hS
        obtain ⟨st2, rfl, hS2⟩ := fw_pop1 hS1
        refine ab_bl_row hx hb ho9 ?_ hdg (K0 _ rfl (fw_pushl hS2 (fw_lop_ok _ _ _)))
        intro hz
        exfalso
        have g2 := g.2
        rcases hz with rfl | rfl <;> cases g2
      · cases hpu
theorem fw_nz {d : Int} (h : fw_c d ≠ 0) : ¬ Int32.ofInt d = 0 := fun q => h (by unfold fw_c; rw [q]; rfl)
theorem fw_nzl {d : Int} (h : fw_d d ≠ 0) : ¬ Int64.ofInt d = 0 := fun q => h (by unfold fw_d; rw [q]; rfl)
theorem fw_dv_ok {d : Int} (hx : p.tables.exec = Jvm.exec) (hb : c.code = cc) (h : fw_dv i len S = some (d, S')) (hd : d ≠ 0) (hdg : decode cc pc = .ok (i, len)) (hS : fw_okS ad wr cr S st)
    (kk : ∀ st' : List Value, fw_okS ad wr cr S' st' → W p l e R s m args below meth c H locs cells slots Q (F0 m (pc + len) ls st')) : W p l e R s m args below meth c H locs cells slots Q (F0 m pc ls st) := by
  unfold fw_dv at h
  split at h
  · rename_i o9 t9 d9 s9 c9 S9 ho9
    obtain ⟨g, h⟩ := ab_cs h; cases h
    have := ab_beq g; subst this
    obtain ⟨st1, rfl, hS1⟩ := fw_pop0 hS
    obtain ⟨st2, rfl, hS2⟩ := fw_pop0 hS1
    exact ab_bo_row hx hb ho9 (fun _ => fw_nz hd) hdg (kk _ (fw_pushi hS2 (fw_op_ok _ _ _)))
  · split at h
    · rename_i o9 t9 d9 s9 c9 S9 ho9 hneg9
      obtain ⟨g, h⟩ := ab_cs h; cases h
      have := ab_beq g; subst this
      obtain ⟨st1, rfl, hS1⟩ := fw_pop1 hS
      obtain ⟨st2, rfl, hS2⟩ := fw_pop1 hS1
      exact ab_bl_row hx hb ho9 (fun _ => fw_nzl hd) hdg (kk _ (fw_pushl hS2 (fw_lop_ok _ _ _)))
    · cases h
end
