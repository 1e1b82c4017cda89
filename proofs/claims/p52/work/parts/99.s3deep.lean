section
/-! what never changes, as it is; both sides at the start -/
theorem ls_co_eq (i : Nat) (hi : i < 17) : Int64.ofInt (fw_wc i) = ls_co.getD i 0 := by
  have h : (List.range 17).all (fun i => decide (Int64.ofInt (fw_wc i) = ls_co.getD i 0)) = true := by decide +kernel
  exact of_decide_eq_true (List.all_eq_true.mp h i (List.mem_range.mpr hi))
theorem ls_codeX {args : Array Value} {s : State} (hg : ls_G args s) {wr : Nat → Nat} (hw : ∀ i : Nat, i < 17 → (ls_w i).eval args s none [] s = some (.ref (wr i))) {A : Nat → Prop} (hA : ∀ a : Nat, a < s.heap.size → ¬ A a) : ∀ i : Nat, i < 17 → va_OF "NameNotes$Word" "code" "J" (.long (Int64.ofInt (fw_wc i))) (wr i) A s s.heap := by
  have hs := flat_of_before _ hg
  intro i hi
  rw [show Int64.ofInt (fw_wc i) = ls_co.getD i 0 from ls_co_eq i hi]
  refine vk_OFof (hw i hi) (va_eqtl (z := ls_co.getD i 0) ?_) hA
  match i, hi with
    | 0, _ => exact hs _ (by decide +kernel)
    | 1, _ => exact hs _ (by decide +kernel)
    | 2, _ => exact hs _ (by decide +kernel)
    | 3, _ => exact hs _ (by decide +kernel)
    | 4, _ => exact hs _ (by decide +kernel)
    | 5, _ => exact hs _ (by decide +kernel)
    | 6, _ => exact hs _ (by decide +kernel)
    | 7, _ => exact hs _ (by decide +kernel)
    | 8, _ => exact hs _ (by decide +kernel)
    | 9, _ => exact hs _ (by decide +kernel)
    | 10, _ => exact hs _ (by decide +kernel)
    | 11, _ => exact hs _ (by decide +kernel)
    | 12, _ => exact hs _ (by decide +kernel)
    | 13, _ => exact hs _ (by decide +kernel)
    | 14, _ => exact hs _ (by decide +kernel)
    | 15, _ => exact hs _ (by decide +kernel)
    | 16, _ => exact hs _ (by decide +kernel)
    | n + 17, h => exact absurd h (by omega)
theorem ls_co_ne (i j : Nat) (hi : i < 17) (hj : j < 17) (h : Int64.ofInt (fw_wc i) = Int64.ofInt (fw_wc j)) : i = j := by
  have g : (List.range 17).all (fun i => (List.range 17).all (fun j => decide (Int64.ofInt (fw_wc i) = Int64.ofInt (fw_wc j) → i = j))) = true := by decide +kernel
  exact of_decide_eq_true (List.all_eq_true.mp (List.all_eq_true.mp g i (List.mem_range.mpr hi)) j (List.mem_range.mpr hj)) h
theorem of_one {o n d : String} {v v' : Value} {t : Nat} {A : Nat → Prop} {U : State} {H : Heap} (h : va_OF o n d v t A U H) (h' : va_OF o n d v' t A U H) : v = v' := by
  obtain ⟨cf, k, i, f, cell, a1, -, a3, -, a5, -⟩ := h
  obtain ⟨cf', k', i', f', cell', b1, -, b3, -, b5, -⟩ := h'
  have e1 := Option.some.inj (a1.symm.trans b1)
  have e2 : f = f' := congrArg (fun z => z.2.2.2) e1
  have e3 := Option.some.inj (a3.symm.trans b3)
  rw [e2, e3] at a5
  exact Option.some.inj (a5.symm.trans b5)
theorem ls_wr {s : State} {wr : Nat → Nat} {A : Nat → Prop} (h : ∀ i : Nat, i < 17 → va_OF "NameNotes$Word" "code" "J" (.long (Int64.ofInt (fw_wc i))) (wr i) A s s.heap) : ∀ i j : Nat, i < 17 → j < 17 → wr i = wr j → i = j := by
  intro i j hi hj e
  have h1 := h i hi
  rw [e] at h1
  have h2 := of_one h1 (h j hj)
  injection h2 with h2
  exact ls_co_ne i j hi hj h2
theorem ls_nineX {q : Nat} {A : Nat → Prop} {s : State} (h : va_T .long q 10 (fun j => .long (ls_ni.getD j 0)) A s s.heap) : va_T .long q 10 (fun j => .long (Int64.ofInt (fw_kv 1 j))) A s s.heap := by
  have e : (fun j : Nat => Value.long (ls_ni.getD j 0)) = (fun j : Nat => Value.long (Int64.ofInt (fw_kv 1 j))) := by
    funext j
    match j with
    | 0 | 1 | 2 | 3 | 4 | 5 | 6 | 7 | 8 | 9 => rfl
    | n + 10 => rfl
  rw [← e]
  exact h
theorem ls_shareX {q : Nat} {A : Nat → Prop} {s : State} (h : va_T .int q 9 (fun j => .int (ls_sh.getD j 0)) A s s.heap) : va_T .int q 9 (fun j => .int (Int32.ofInt (fw_kv 2 j))) A s s.heap := by
  have e : (fun j : Nat => Value.int (ls_sh.getD j 0)) = (fun j : Nat => Value.int (Int32.ofInt (fw_kv 2 j))) := by
    funext j
    match j with
    | 0 | 1 | 2 | 3 | 4 | 5 | 6 | 7 | 8 => rfl
    | n + 9 => rfl
  rw [← e]
  exact h
theorem ls_deep {args : Array Value} {s : State} (hts : ∀ w ∈ lw_tbl, w.before args s = true) (hg : ls_G args s) (b : Nat) : ∃ (wr cr av : Nat → Nat), cr 999 = b ∧ (∀ (cy : Nat → ClassId) (ad : Nat → Nat), fw_CB cy ad wr cr nn_kd fw_kv fw_wc (fun q : Nat => s.heap.size ≤ q) s) ∧ nt_Z cr av (fun q : Nat => s.heap.size ≤ q) s := by
  have hs := flat_of_before _ hg
  have hA : ∀ a : Nat, a < s.heap.size → ¬ (fun q : Nat => s.heap.size ≤ q) a := fun a ha h => Nat.not_le.mpr ha h
  obtain ⟨wr, hw⟩ := ls_words hg
  obtain ⟨q0, e0, T0⟩ := ls_WORDS hg hw hA
  obtain ⟨q1, e1, T1⟩ := ls_NINES hg hA
  obtain ⟨q2, e2, T2⟩ := ls_SHARES hg hA
  obtain ⟨adK, av, hV, hv⟩ := ls_S hg hA
  obtain ⟨q5, t5⟩ := ls_str (k := 213) (hs _ (by decide +kernel))
  obtain ⟨q6, t6⟩ := ls_str (k := 258) (hs _ (by decide +kernel))
  obtain ⟨q7, t7⟩ := ls_str (k := 394) (hs _ (by decide +kernel))
  refine ⟨wr, fun k => match k with | 0 => q0 | 1 => q1 | 2 => q2 | 3 => adK 0 | 4 => adK 1 | 5 => q5 | 6 => q6 | 7 => q7 | _ => b, av, rfl, fun cy ad => ⟨⟨List.forall_mem_cons.mpr ⟨va_Zof (hts (.laysStatic "NameNotes" "WORDS" "[LNameNotes$Word;") (nn_ch_in 3 _ (List.mem_of_getElem? (i := 15) (by decide +kernel)))) (hts (.initialized "NameNotes") (nn_ch_in 1 _ (List.mem_of_getElem? (i := 1) (by decide +kernel)))) (e0) hA, List.forall_mem_cons.mpr ⟨va_Zof (hts (.laysStatic "NameNotes" "NINES" "[J") (nn_ch_in 4 _ (List.mem_of_getElem? (i := 68) (by decide +kernel)))) (hts (.initialized "NameNotes") (nn_ch_in 1 _ (List.mem_of_getElem? (i := 1) (by decide +kernel)))) (e1) hA, List.forall_mem_cons.mpr ⟨va_Zof (hts (.laysStatic "NameNotes" "SHARES" "[I") (nn_ch_in 4 _ (List.mem_of_getElem? (i := 73) (by decide +kernel)))) (hts (.initialized "NameNotes") (nn_ch_in 1 _ (List.mem_of_getElem? (i := 1) (by decide +kernel)))) (e2) hA, List.forall_mem_cons.mpr ⟨va_Zof (hts (.laysStatic "NameNotes$Word" "TUNE" "LNameNotes$Word;") (nn_ch_in 3 _ (List.mem_of_getElem? (i := 24) (by decide +kernel)))) (hts (.initialized "NameNotes$Word") (nn_ch_in 1 _ (List.mem_of_getElem? (i := 14) (by decide +kernel)))) (hw 0 (by decide)) hA, List.forall_mem_cons.mpr ⟨va_Zof (hts (.laysStatic "NameNotes$Word" "CLUE" "LNameNotes$Word;") (nn_ch_in 3 _ (List.mem_of_getElem? (i := 69) (by decide +kernel)))) (hts (.initialized "NameNotes$Word") (nn_ch_in 1 _ (List.mem_of_getElem? (i := 14) (by decide +kernel)))) (hw 1 (by decide)) hA, List.forall_mem_cons.mpr ⟨va_Zof (hts (.laysStatic "NameNotes$Word" "PERSON" "LNameNotes$Word;") (nn_ch_in 3 _ (List.mem_of_getElem? (i := 87) (by decide +kernel)))) (hts (.initialized "NameNotes$Word") (nn_ch_in 1 _ (List.mem_of_getElem? (i := 14) (by decide +kernel)))) (hw 2 (by decide)) hA, List.forall_mem_cons.mpr ⟨va_Zof (hts (.laysStatic "NameNotes$Word" "KNOWS" "LNameNotes$Word;") (nn_ch_in 3 _ (List.mem_of_getElem? (i := 93) (by decide +kernel)))) (hts (.initialized "NameNotes$Word") (nn_ch_in 1 _ (List.mem_of_getElem? (i := 14) (by decide +kernel)))) (hw 3 (by decide)) hA, List.forall_mem_cons.mpr ⟨va_Zof (hts (.laysStatic "NameNotes$Word" "DARE" "LNameNotes$Word;") (nn_ch_in 3 _ (List.mem_of_getElem? (i := 104) (by decide +kernel)))) (hts (.initialized "NameNotes$Word") (nn_ch_in 1 _ (List.mem_of_getElem? (i := 14) (by decide +kernel)))) (hw 4 (by decide)) hA, List.forall_mem_cons.mpr ⟨va_Zof (hts (.laysStatic "NameNotes$Word" "FROM" "LNameNotes$Word;") (nn_ch_in 3 _ (List.mem_of_getElem? (i := 110) (by decide +kernel)))) (hts (.initialized "NameNotes$Word") (nn_ch_in 1 _ (List.mem_of_getElem? (i := 14) (by decide +kernel)))) (hw 5 (by decide)) hA, List.forall_mem_cons.mpr ⟨va_Zof (hts (.laysStatic "NameNotes$Word" "NAME" "LNameNotes$Word;") (nn_ch_in 5 _ (List.mem_of_getElem? (i := 145) (by decide +kernel)))) (hts (.initialized "NameNotes$Word") (nn_ch_in 1 _ (List.mem_of_getElem? (i := 14) (by decide +kernel)))) (hw 6 (by decide)) hA, List.forall_mem_cons.mpr ⟨va_Zof (hts (.laysStatic "NameNotes$Word" "OR" "LNameNotes$Word;") (nn_ch_in 6 _ (List.mem_of_getElem? (i := 43) (by decide +kernel)))) (hts (.initialized "NameNotes$Word") (nn_ch_in 1 _ (List.mem_of_getElem? (i := 14) (by decide +kernel)))) (hw 7 (by decide)) hA, List.forall_mem_cons.mpr ⟨va_Zof (hts (.laysStatic "NameNotes$Word" "AND" "LNameNotes$Word;") (nn_ch_in 6 _ (List.mem_of_getElem? (i := 41) (by decide +kernel)))) (hts (.initialized "NameNotes$Word") (nn_ch_in 1 _ (List.mem_of_getElem? (i := 14) (by decide +kernel)))) (hw 8 (by decide)) hA, List.forall_mem_cons.mpr ⟨va_Zof (hts (.laysStatic "NameNotes$Word" "NOT" "LNameNotes$Word;") (nn_ch_in 6 _ (List.mem_of_getElem? (i := 7) (by decide +kernel)))) (hts (.initialized "NameNotes$Word") (nn_ch_in 1 _ (List.mem_of_getElem? (i := 14) (by decide +kernel)))) (hw 9 (by decide)) hA, List.forall_mem_cons.mpr ⟨va_Zof (hts (.laysStatic "NameNotes$Word" "IN" "LNameNotes$Word;") (nn_ch_in 6 _ (List.mem_of_getElem? (i := 10) (by decide +kernel)))) (hts (.initialized "NameNotes$Word") (nn_ch_in 1 _ (List.mem_of_getElem? (i := 14) (by decide +kernel)))) (hw 10 (by decide)) hA, List.forall_mem_cons.mpr ⟨va_Zof (hts (.laysStatic "NameNotes$Word" "SURE" "LNameNotes$Word;") (nn_ch_in 6 _ (List.mem_of_getElem? (i := 12) (by decide +kernel)))) (hts (.initialized "NameNotes$Word") (nn_ch_in 1 _ (List.mem_of_getElem? (i := 14) (by decide +kernel)))) (hw 11 (by decide)) hA, List.forall_mem_cons.mpr ⟨va_Zof (hts (.laysStatic "NameNotes$Word" "LIKE" "LNameNotes$Word;") (nn_ch_in 6 _ (List.mem_of_getElem? (i := 14) (by decide +kernel)))) (hts (.initialized "NameNotes$Word") (nn_ch_in 1 _ (List.mem_of_getElem? (i := 14) (by decide +kernel)))) (hw 12 (by decide)) hA, List.forall_mem_cons.mpr ⟨va_Zof (hts (.laysStatic "NameNotes$Word" "NOTES" "LNameNotes$Word;") (nn_ch_in 6 _ (List.mem_of_getElem? (i := 16) (by decide +kernel)))) (hts (.initialized "NameNotes$Word") (nn_ch_in 1 _ (List.mem_of_getElem? (i := 14) (by decide +kernel)))) (hw 13 (by decide)) hA, List.forall_mem_cons.mpr ⟨va_Zof (hts (.laysStatic "NameNotes$Word" "HIGH" "LNameNotes$Word;") (nn_ch_in 6 _ (List.mem_of_getElem? (i := 18) (by decide +kernel)))) (hts (.initialized "NameNotes$Word") (nn_ch_in 1 _ (List.mem_of_getElem? (i := 14) (by decide +kernel)))) (hw 14 (by decide)) hA, List.forall_mem_cons.mpr ⟨va_Zof (hts (.laysStatic "NameNotes$Word" "LOW" "LNameNotes$Word;") (nn_ch_in 6 _ (List.mem_of_getElem? (i := 20) (by decide +kernel)))) (hts (.initialized "NameNotes$Word") (nn_ch_in 1 _ (List.mem_of_getElem? (i := 14) (by decide +kernel)))) (hw 15 (by decide)) hA, List.forall_mem_cons.mpr ⟨va_Zof (hts (.laysStatic "NameNotes$Word" "BEATS" "LNameNotes$Word;") (nn_ch_in 6 _ (List.mem_of_getElem? (i := 22) (by decide +kernel)))) (hts (.initialized "NameNotes$Word") (nn_ch_in 1 _ (List.mem_of_getElem? (i := 14) (by decide +kernel)))) (hw 16 (by decide)) hA, fun _ h => absurd h List.not_mem_nil⟩⟩⟩⟩⟩⟩⟩⟩⟩⟩⟩⟩⟩⟩⟩⟩⟩⟩⟩⟩, ?_, ls_code hg hw hA, fun q hq => va_Nw.of rfl (hts _ (ls_strN q hq)), List.forall_mem_cons.mpr ⟨vk_R.of (hts (.stringRef "NameNotes" 284 "clue ") (nn_ch_in 4 _ (List.mem_of_getElem? (i := 178) (by decide +kernel)))) (hv 0 (by decide)), List.forall_mem_cons.mpr ⟨vk_R.of (hts (.stringRef "NameNotes" 309 "name;") (nn_ch_in 5 _ (List.mem_of_getElem? (i := 11) (by decide +kernel)))) (hv 1 (by decide)), List.forall_mem_cons.mpr ⟨vk_R.of (hts (.stringRef "NameNotes" 213 "no such ones") (nn_ch_in 6 _ (List.mem_of_getElem? (i := 134) (by decide +kernel)))) (t5), List.forall_mem_cons.mpr ⟨vk_R.of (hts (.stringRef "NameNotes" 258 "it can't be") (nn_ch_in 6 _ (List.mem_of_getElem? (i := 203) (by decide +kernel)))) (t6), List.forall_mem_cons.mpr ⟨vk_R.of (hts (.stringRef "NameNotes" 394 "nobody must name it") (nn_ch_in 6 _ (List.mem_of_getElem? (i := 238) (by decide +kernel)))) (t7), fun _ h => absurd h List.not_mem_nil⟩⟩⟩⟩⟩⟩, ?_, ls_codeX hg hw hA, ls_wr (ls_codeX hg hw hA)⟩, ⟨⟨⟨fun i hi => ?_, fun i j hi hj e => ?_⟩, va_Zof (hts (.laysStatic "java/lang/String" "COMPACT_STRINGS" "Z") (nn_ch_in 4 _ (List.mem_of_getElem? (i := 192) (by decide +kernel)))) (hts (.initialized "java/lang/String") (nn_ch_in 1 _ (List.mem_of_getElem? (i := 21) (by decide +kernel)))) (va_eqi (hs _ (by decide +kernel))) hA⟩, vx_Zqof (hts _ (by decide +kernel)) (hts _ (by decide +kernel)) (hs (Cond.isRef (.static "jdk/internal/util/Preconditions" "SIOOBE_FORMATTER" "Ljava/util/function/BiFunction;")) (by decide +kernel)) hA⟩⟩
  · intro k x hx
    match k, hx with
    | 0, hx => cases hx; exact T0
    | 1, hx => cases hx; exact ⟨_, T1⟩
    | 2, hx => cases hx; exact ⟨_, T2⟩
    | k + 3, hx => cases hx
  · intro k x hx
    match k, hx with
    | 0, hx => cases hx; trivial
    | 1, hx => cases hx; exact ls_nineX T1
    | 2, hx => cases hx; exact ls_shareX T2
    | k + 3, hx => cases hx
  · match i, hi with
    | 0, _ => exact hV.1 0 (by decide)
    | 1, _ => exact hV.1 1 (by decide)
  · match i, j, hi, hj, e with
    | 0, 0, _, _, _ => rfl
    | 1, 1, _, _, _ => rfl
    | 0, 1, _, _, e => exact hV.2 0 1 (by decide) (by decide) e
    | 1, 0, _, _, e => exact hV.2 1 0 (by decide) (by decide) e
end
section
/-! constructors: a straight run of code that makes cells one behind another, from the address b on; read by a checker -/
abbrev ct_V : Type := Nat × Nat × Int
abbrev ct_C : Type := (Nat × List ct_V) ⊕ (Nat × Nat × List (Nat × Int))
/-- 0: an int, 1: the cell of that place, 2: the argument, 3: null, 4: a long -/
def ct_v (b x : Nat) (v : ct_V) : Value := match v.1 with
  | 0 => .int (Int32.ofInt v.2.2)
  | 1 => .ref (b + v.2.1)
  | 2 => .ref x
  | 3 => .null
  | _ => .long (Int64.ofInt v.2.2)
def ct_f : List (Nat × Int) → Nat → Int
  | [], _ => 0
  | q :: l, j => cond (j.beq q.1) q.2 (ct_f l j)
def ct_e (cy : Nat → ClassId) (b x : Nat) (c : ct_C) : va_E := match c with
  | .inl o => .inr (o.1, o.2.map (ct_v b x))
  | .inr a => .inl (cy a.1, ab_ar a.1 a.2.1 (ct_f a.2.2))
def ct_W (cy : Nat → ClassId) (b x : Nat) (X : List ct_C) : va_W := X.mapIdx (fun k c => (b + k, ct_e cy b x c))
theorem ct_W_get {cy : Nat → ClassId} {b x : Nat} {X : List ct_C} {k : Nat} {c : ct_C} (h : X[k]? = some c) : (ct_W cy b x X)[k]? = some (b + k, ct_e cy b x c) := by
  unfold ct_W
  rw [List.getElem?_mapIdx, h]
  rfl
theorem ct_W_at {cy : Nat → ClassId} {b x : Nat} {X : List ct_C} {k : Nat} {q : Nat × va_E} (h : (ct_W cy b x X)[k]? = some q) : k < X.length ∧ q.1 = b + k := by
  unfold ct_W at h
  rw [List.getElem?_mapIdx] at h
  cases hs : X[k]? with
  | none => rw [hs] at h; cases h
  | some c => rw [hs] at h; cases h; exact ⟨(List.getElem?_eq_some_iff.mp hs).1, rfl⟩
theorem ct_W_push {cy : Nat → ClassId} {b x : Nat} {X : List ct_C} {c : ct_C} : ct_W cy b x (X ++ [c]) = ct_W cy b x X ++ [(b + X.length, ct_e cy b x c)] := by
  unfold ct_W
  rw [List.mapIdx_append]
  congr 1
  show [(b + (0 + X.length), ct_e cy b x c)] = _
  rw [Nat.zero_add]
theorem ct_W_set {cy : Nat → ClassId} {b x : Nat} {X : List ct_C} {k : Nat} {c : ct_C} : ct_W cy b x (X.set k c) = (ct_W cy b x X).set k (b + k, ct_e cy b x c) := by
  unfold ct_W
  rw [List.mapIdx_set]
theorem ct_W_D {cy : Nat → ClassId} {b x : Nat} {X : List ct_C} : va_D (fun q : Nat => b ≤ q) (ct_W cy b x X) := by
  refine ⟨fun i j p q hi hj hpq => ?_, fun k q hk => ?_⟩
  · have h1 := (ct_W_at hi).2
    have h2 := (ct_W_at hj).2
    rw [h1, h2] at hpq
    exact Nat.add_left_cancel hpq
  · show b ≤ q.1
    rw [(ct_W_at hk).2]
    exact Nat.le_add_right b k
def ct_G (cy : Nat → ClassId) (D : va_G) (b x : Nat) (H0 : Heap) (X : List ct_C) (H : Heap) (locs : List Loc) : Prop :=
  va_P D vwCl (ct_W cy b x X) H ∧ H.size = b + X.length ∧ va_S (fun q : Nat => b ≤ q) H0 H locs
/-- what a new object's fields hold -/
def ct_dfv (ty : FieldType) (v : ct_V) : Bool := match ty with
  | .float => false
  | .double => false
  | .long => decide (v = (4, 0, 0))
  | .object _ => decide (v = (3, 0, 0))
  | .array _ => decide (v = (3, 0, 0))
  | _ => decide (v = (0, 0, 0))
theorem ct_dfv_ok {ty : FieldType} {v : ct_V} {b x : Nat} (h : ct_dfv ty v = true) : defaultValue ty = ct_v b x v := by
  cases ty with
  | float => cases h
  | double => cases h
  | long => have h : v = (4, 0, 0) := of_decide_eq_true h; subst h; rfl
  | object _ => have h : v = (3, 0, 0) := of_decide_eq_true h; subst h; rfl
  | array _ => have h : v = (3, 0, 0) := of_decide_eq_true h; subst h; rfl
  | byte => have h : v = (0, 0, 0) := of_decide_eq_true h; subst h; rfl
  | char => have h : v = (0, 0, 0) := of_decide_eq_true h; subst h; rfl
  | int => have h : v = (0, 0, 0) := of_decide_eq_true h; subst h; rfl
  | short => have h : v = (0, 0, 0) := of_decide_eq_true h; subst h; rfl
  | boolean => have h : v = (0, 0, 0) := of_decide_eq_true h; subst h; rfl
def ct_dfok (T : u_T) (N : Nat) (fs : List ct_V) : Bool := (List.range N).all (fun j => match parseFieldDescriptor (T j).2.2.1, fs[j]? with
  | some ty, some v => ct_dfv ty v
  | _, _ => false)
theorem ct_dfok_ok {T : u_T} {N : Nat} {fs : List ct_V} {b x j : Nat} {ty : FieldType} (h : ct_dfok T N fs = true) (hj : j < N) (hty : parseFieldDescriptor (T j).2.2.1 = some ty) : defaultValue ty = vp_V (fs.map (ct_v b x)) j := by
  have h1 := List.all_eq_true.mp h j (List.mem_range.mpr hj)
  rw [hty] at h1
  unfold vp_V
  rw [List.getD_eq_getElem?_getD, List.getElem?_map]
  split at h1
  · rename_i ty9 v9 e1 e2
    cases e1
    rw [e2]
    exact ct_dfv_ok h1
  · cases h1
def ct_fit (ty : FieldType) (v : ct_V) : Bool := match v.1 with
  | 0 => (match ty with | .int => true | .boolean => decide (v.2.2 = 0) || decide (v.2.2 = 1) | _ => false)
  | 1 => (match ty with | .object _ => true | .array _ => true | _ => false)
  | 2 => (match ty with | .object _ => true | .array _ => true | _ => false)
  | _ => false
theorem ct_fit_ok {ty : FieldType} {v : ct_V} {b x : Nat} (h : ct_fit ty v = true) : narrow ty (ct_v b x v) = ct_v b x v ∧ fits ty (ct_v b x v) = true := by
  obtain ⟨t, k, z⟩ := v
  match t, h with
  | 0, h =>
    cases ty with
    | int => exact ⟨rfl, rfl⟩
    | boolean =>
      have h : (decide (z = 0) || decide (z = 1)) = true := h
      rw [Bool.or_eq_true, decide_eq_true_eq, decide_eq_true_eq] at h
      rcases h with rfl | rfl
      · exact ⟨congrArg Value.int (show Int32.ofInt 0 &&& 1 = Int32.ofInt 0 by decide), (show fits .boolean (.int (Int32.ofInt 0)) = true by decide)⟩
      · exact ⟨congrArg Value.int (show Int32.ofInt 1 &&& 1 = Int32.ofInt 1 by decide), (show fits .boolean (.int (Int32.ofInt 1)) = true by decide)⟩
    | _ => cases h
  | 1, h =>
    cases ty with
    | object _ => exact ⟨rfl, rfl⟩
    | array _ => exact ⟨rfl, rfl⟩
    | _ => cases h
  | 2, h =>
    cases ty with
    | object _ => exact ⟨rfl, rfl⟩
    | array _ => exact ⟨rfl, rfl⟩
    | _ => cases h
  | _ + 3, h => cases h
def ct_ty (t : Nat) : FieldType := match t with
  | 0 => .int
  | 1 => .long
  | 2 => .byte
  | _ => .boolean
def ct_at (t : Nat) : ArrayType := match t with
  | 0 => .int
  | 1 => .long
  | 2 => .byte
  | _ => .boolean
theorem ct_at_ty : ∀ t : Nat, newarray.typeOf (ct_at t) = ct_ty t
  | 0 => rfl
  | 1 => rfl
  | 2 => rfl
  | _ + 3 => rfl
theorem ct_tys {cy : Nat → ClassId} : ∀ {t : Nat}, t < 4 → (ab_tys cy)[t]? = some (cy t, ct_ty t)
  | 0, _ => rfl
  | 1, _ => rfl
  | 2, _ => rfl
  | 3, _ => rfl
theorem ct_RA {s : State} {cA : ClassId} : ∀ {t : Nat}, va_RA s cA (ct_ty t) → s.vm.findClass ("[" ++ (newarray.typeOf (ct_at t)).toString) = some cA
  | 0, h => h
  | 1, h => h
  | 2, h => h
  | _ + 3, h => h
theorem ct_blank {cA : ClassId} {n : Nat} : ∀ t : Nat, vp_cell cA (ab_ar t n (ct_f [])) = arrV cA n (fun _ => defaultValue (newarray.typeOf (ct_at t)))
  | 0 => rfl
  | 1 => rfl
  | 2 => rfl
  | _ + 3 => rfl
theorem ct_cb {z : Int} (h1 : z < 100000) : ∀ t : Nat, z.toNat * componentBytes (newarray.typeOf (ct_at t)) ≤ 536870912
  | 0 => by show z.toNat * 4 ≤ _; omega
  | 1 => by show z.toNat * 8 ≤ _; omega
  | 2 => by show z.toNat * 1 ≤ _; omega
  | _ + 3 => by show z.toNat * 1 ≤ _; omega
section
variable {p : Program} {l : Launch} {e : Env} {R : Room} {s : State} {m : MethodId} {args : Array Value} {below : List Frame} {meth : Method} {c : Code} {H : Heap} {locs : List Loc} {cells slots : Nat} {Q : State → Prop} {cc : ByteArray} {pc : Nat} {ls : Array Slot} {rest : List Value}
variable {cy : Nat → ClassId} {D : va_G} {b x : Nat} {H0 : Heap} {X : List ct_C} {Ts : List Jvm.Cond} {own : String}
theorem ct_new (hx : p.tables.exec = Jvm.exec) (hb : c.code = cc) (hts : ∀ w ∈ Ts, w.before args s = true) (hTT : ∀ w ∈ nn_TT, w ∈ Ts) (hown : s.vm.findClass own = some m.cls) (hK : va_K D vwCl (ab_tys cy) s) {ci index : Nat} {C : String} {T : u_T} {N : Nat} (hc : vwCl[ci]? = some (C, T, N)) (hcl : Jvm.Cond.classLink own index C ∈ nn_TT) (hinst : Jvm.Cond.instantiable C N ∈ nn_TT) (hini : Jvm.Cond.initialized C ∈ nn_TT) {fs : List ct_V} (hfs : ct_dfok T N fs = true) (hcells : cells + 1 ≤ R.cells) (hslots : slots + N ≤ R.slots) (hdg : decode cc pc = .ok (.new index, 3)) (hG : ct_G cy D b x H0 X H locs)
    (kk : ∀ H1 : Heap, ct_G cy D b x H0 (X ++ [.inl (ci, fs)]) H1 locs → W p l e R s m args below meth c H1 locs (cells + 1) (slots + N) Q (F0 m (pc + 3) ls (.ref (b + X.length) :: rest))) : W p l e R s m args below meth c H locs cells slots Q (F0 m pc ls rest) := by
  obtain ⟨hP, hz, hS⟩ := hG
  have hKn := hK.1 ci _ hc
  obtain ⟨C', T', N', hc', hin, ⟨ty0, hty⟩, -⟩ := nn_cls_all ci (List.getElem?_eq_some_iff.mp hc).1
  rw [hc] at hc'
  cases hc'
  refine W.newcK hx hb hown (hts _ (hTT _ hcl)) (hts _ (hTT _ hinst)) (hts _ (hTT _ hini)) rfl hdg hcells hslots hKn.2.1 hz fun H1 kC hkC e1 z1 o1 => ?_
  have hk : ∀ (k : Nat) (q : Nat × va_E), (ct_W cy b x X)[k]? = some q → H1[q.1]? = H[q.1]? := fun k q hq => o1 q.1 (by rw [← hz]; exact (hP k q hq).lt)
  refine kk H1 ⟨?_, ?_, ?_⟩
  · rw [ct_W_push]
    refine (hP.kept hk).app (fun k q hq => ?_)
    have hz9 : k < 1 := (List.getElem?_eq_some_iff.mp hq).1
    rw [show k = 0 by omega] at hq
    cases hq
    exact ⟨_, hc, (u_born ty0 hts (fun w hw => hTT _ (hin w hw)) hKn hkC e1 hty).to (fun j hj => ct_dfok_ok hfs hj (hty j hj))⟩
  · rw [z1, List.length_append, List.length_singleton, Nat.add_assoc]
  · exact ⟨Nat.le_trans hS.1 (by rw [z1, hz]; exact Nat.le_succ _), fun q h1 h2 => (o1 q (by rw [← hz]; exact Nat.lt_of_lt_of_le h1 hS.1)).trans (hS.2.1 q h1 h2), hS.2.2⟩
theorem ct_newa (hx : p.tables.exec = Jvm.exec) (hb : c.code = cc) (hts : ∀ w ∈ Ts, w.before args s = true) (hTT : ∀ w ∈ nn_TT, w ∈ Ts) (hK : va_K D vwCl (ab_tys cy) s) {t : Nat} (ht : t < 4) (harr : Jvm.Cond.arrayClass (ct_ty t) ∈ nn_TT) {z : Int} (h0 : 0 ≤ z) (h1 : z < 100000) (hcells : cells + 1 ≤ R.cells) (hslots : slots + z.toNat ≤ R.slots) (hdg : decode cc pc = .ok (.newarray (ct_at t), 2)) (hG : ct_G cy D b x H0 X H locs)
    (kk : ∀ H1 : Heap, ct_G cy D b x H0 (X ++ [.inr (t, z.toNat, [])]) H1 locs → W p l e R s m args below meth c H1 locs (cells + 1) (slots + z.toNat) Q (F0 m (pc + 2) ls (.ref (b + X.length) :: rest))) : W p l e R s m args below meth c H locs cells slots Q (F0 m pc ls (.int (Int32.ofInt z) :: rest)) := by
  obtain ⟨hP, hz, hS⟩ := hG
  obtain ⟨i1, i2⟩ := ab_idx (x := z) (n := 100000) h0 h1 (by decide)
  refine va_newaK hx hb (by rw [ct_at_ty]; exact hts _ (hTT _ harr)) rfl hdg rfl (fun q => i1 (Or.inl q)) i2 (ct_cb h1 t) hcells hslots hz fun H1 cA e1 z1 o1 hAr hNm => ?_
  have hcA : cA = cy t := Option.some.inj (hNm.symm.trans (ct_RA (hK.2 t _ (ct_tys ht)).2))
  subst hcA
  have hk : ∀ (k : Nat) (q : Nat × va_E), (ct_W cy b x X)[k]? = some q → H1[q.1]? = H[q.1]? := fun k q hq => o1 q.1 (by rw [← hz]; exact (hP k q hq).lt)
  refine kk H1 ⟨?_, ?_, ?_⟩
  · rw [ct_W_push]
    refine (hP.kept hk).app (fun k q hq => ?_)
    have hz9 : k < 1 := (List.getElem?_eq_some_iff.mp hq).1
    rw [show k = 0 by omega] at hq
    cases hq
    show H1[b + X.length]? = some (vp_cell (cy t) (ab_ar t z.toNat (ct_f [])))
    rw [ct_blank]
    exact e1
  · rw [z1, List.length_append, List.length_singleton, Nat.add_assoc]
  · exact ⟨Nat.le_trans hS.1 (by rw [z1, hz]; exact Nat.le_succ _), fun q h1 h2 => (o1 q (by rw [← hz]; exact Nat.lt_of_lt_of_le h1 hS.1)).trans (hS.2.1 q h1 h2), hS.2.2⟩
theorem ct_put (hx : p.tables.exec = Jvm.exec) (hb : c.code = cc) (hts : ∀ w ∈ Ts, w.before args s = true) (hTT : ∀ w ∈ nn_TT, w ∈ Ts) (hown : s.vm.findClass own = some m.cls) (hK : va_K D vwCl (ab_tys cy) s) {ci index j k : Nat} {C : String} {T : u_T} {N : Nat} (hc : vwCl[ci]? = some (C, T, N)) (hj : j < N) (hlink : Jvm.Cond.fieldLink own index (T j).1 (T j).2.1 (T j).2.2.1 ∈ nn_TT) {fs : List ct_V} (hcell : X[k]? = some (.inl (ci, fs))) (hjl : j < fs.length) {v : ct_V} {ty : FieldType} (hty : parseFieldDescriptor (T j).2.2.1 = some ty) (hfit : ct_fit ty v = true) (hfin : (T j).2.2.2 = true → meth.name = "<init>" ∧ (T j).1 = own) (hdg : decode cc pc = .ok (.putfield index, 3)) (hG : ct_G cy D b x H0 X H locs)
    (kk : ∀ (H1 : Heap) (locs1 : List Loc), ct_G cy D b x H0 (X.set k (.inl (ci, fs.set j v))) H1 locs1 → W p l e R s m args below meth c H1 locs1 cells slots Q (F0 m (pc + 3) ls rest)) : W p l e R s m args below meth c H locs cells slots Q (F0 m pc ls (ct_v b x v :: .ref (b + k) :: rest)) := by
  obtain ⟨hP, hz, hS⟩ := hG
  obtain ⟨C', T', N', hc', hin, ⟨ty0, hty0⟩, hnm⟩ := nn_cls_all ci (List.getElem?_eq_some_iff.mp hc).1
  rw [hc] at hc'
  cases hc'
  have hin2 : ∀ w ∈ u_ws C T N, w ∈ Ts := fun w hw => hTT _ (hin w hw)
  have he := ct_W_get (cy := cy) (b := b) (x := x) hcell
  have hap := va_apart (own := own) hts hin2 ty0 hty0 hnm hK hc
  obtain ⟨r, h1, cell, q1, q2, q3, q4⟩ := hP k _ he
  have hr : r = (C, T, N) := Option.some.inj (h1.symm.trans hc)
  subst hr
  obtain ⟨hS2, hfc, kC, hkC, hkind⟩ := hK.1 ci _ hc
  obtain ⟨cf, kf, fi, f, hi, hsl⟩ := hS2 j hj
  have hlay := hts _ (hin2 _ (u_in_lay hj))
  unfold u_lay at hlay
  have hlk := hts _ (hTT _ hlink)
  obtain ⟨hn9, hf9⟩ := ct_fit_ok (b := b) (x := x) hfit
  have hst := (u_facts hfc hkC (u_lays hts hin2 hj) hi).1
  have key : ∀ (H' : Heap) (n : Nat), H'[b + k]? = some (cell.setSlot (D.2 ci j) (ct_v b x v)) → H'.size = H.size → (∀ q, q ≠ b + k → H'[q]? = H[q]?) → W p l e R s m args below meth c H' (locs ++ [⟨b + k, n⟩]) cells slots Q (F0 m (pc + 3) ls rest) := by
    intro H' n e1 e2 e3
    refine kk H' _ ⟨?_, ?_, hS.put e2 e3 (Nat.le_add_right b k)⟩
    · rw [ct_W_set]
      show va_P D vwCl ((ct_W cy b x X).set k (b + k, .inr (ci, (fs.set j v).map (ct_v b x)))) H'
      rw [List.map_set]
      exact hP.set ct_W_D he ⟨_, hc, t_OB.to (V := updV (vp_V (fs.map (ct_v b x))) j (ct_v b x v)) ⟨_, e1, q2, q3, t_set q4 hap hj _⟩ (fun j' _ => vp_updV_set (by rw [List.length_map]; exact hjl) _ j')⟩ e3
    · rw [e2, List.length_set]; exact hz
  cases hF : (T j).2.2.2 with
  | false =>
    rw [if_neg (by rw [hF]; decide)] at hlay
    have h6 := u_store hfc hkC hkind hlay hi hty hn9 hf9
    refine W.putK hx hb (f := f) ⟨hown, hlk, ⟨_, _, _, hi⟩, hst⟩ (by rw [q2]; exact h6) q1 q3 (by rw [hsl]; exact k2_hasslot (q4 j hj)) rfl rfl hdg fun H' e1 e2 e3 => ?_
    rw [hsl] at e1 ⊢
    exact key H' _ e1 e2 e3
  | true =>
    rw [if_pos hF] at hlay
    obtain ⟨hin9, hdecl⟩ := hfin hF
    have hcf : m.cls = cf := by
      obtain ⟨_, _, c', _, _, _, -, -, hf', -, -, -, hown2, -⟩ := Cond.laysFinal_spec hlay
      have e1 : c' = cf := by have := hi.symm.trans hf'; simp at this; exact this.1.symm
      rw [hdecl] at hown2
      rw [← e1]; exact Option.some.inj (hown.symm.trans hown2)
    have h6 := u_fits hfc hkC hkind (Or.inr hlay) hi hty hn9 hf9
    refine W.putFinK hx hb hown hlk hi hst hcf hin9 (by rw [q2]; exact h6) q1 q3 (by rw [hsl]; exact k2_hasslot (q4 j hj)) rfl rfl hdg fun H' e1 e2 e3 => ?_
    rw [hsl] at e1 ⊢
    exact key H' _ e1 e2 e3
theorem ct_iast (hx : p.tables.exec = Jvm.exec) (hb : c.code = cc) (hK : va_K D vwCl (ab_tys cy) s) {k n : Nat} {lw : List (Nat × Int)} (hcell : X[k]? = some (.inr (0, n, lw))) {i y : Int} (h0 : 0 ≤ i) (h1 : i < n) (hn : n < 2 ^ 31) (hdg : decode cc pc = .ok (.iastore, 1)) (hG : ct_G cy D b x H0 X H locs)
    (kk : ∀ (H1 : Heap) (locs1 : List Loc), ct_G cy D b x H0 (X.set k (.inr (0, n, (i.toNat, y) :: lw))) H1 locs1 → W p l e R s m args below meth c H1 locs1 cells slots Q (F0 m (pc + 1) ls rest)) : W p l e R s m args below meth c H locs cells slots Q (F0 m pc ls (.int (Int32.ofInt y) :: .int (Int32.ofInt i) :: .ref (b + k) :: rest)) := by
  obtain ⟨hP, hz, hS⟩ := hG
  obtain ⟨i1, i2⟩ := ab_idx h0 h1 hn
  have he := ct_W_get (cy := cy) (b := b) (x := x) hcell
  have hcl : H[b + k]? = some (vp_cell (cy 0) (n, .inl (fun j => Int32.ofInt (ct_f lw j)))) := hP k _ he
  refine W.iast hx hb hcl ((hK.2 0 _ rfl).1 n (fun j => .int (Int32.ofInt (ct_f lw j)))) (fun q => by cases q) (by show ¬ (_ < 0 ∨ (arrV _ _ _).slots.size ≤ _); rw [arrV_size]; exact i1) rfl rfl hdg fun H1 e1 z oq => ?_
  refine kk H1 _ ⟨?_, ?_, hS.put z oq (Nat.le_add_right b k)⟩
  · rw [ct_W_set]
    refine hP.set ct_W_D he ?_ oq
    show H1[b + k]? = some (vp_cell (cy 0) (n, .inl (fun j => Int32.ofInt (ct_f ((i.toNat, y) :: lw) j))))
    rw [e1, vp_cell_i, vp_cell_i, arrV_store, i2]
    congr 2
    funext q
    show _ = Value.int (Int32.ofInt (cond (q.beq i.toNat) y (ct_f lw q)))
    by_cases hq : q = i.toNat
    · subst hq
      rw [Nat.beq_refl]
      simp [updV]
    · rw [show q.beq i.toNat = false from Bool.eq_false_iff.mpr (fun h => hq (Nat.eq_of_beq_eq_true h))]
      simp [updV, hq]
  · rw [z, List.length_set]; exact hz
theorem ct_get (hx : p.tables.exec = Jvm.exec) (hb : c.code = cc) (hts : ∀ w ∈ Ts, w.before args s = true) (hTT : ∀ w ∈ nn_TT, w ∈ Ts) (hown : s.vm.findClass own = some m.cls) (hK : va_K D vwCl (ab_tys cy) s) {ci index j k : Nat} {C : String} {T : u_T} {N : Nat} (hc : vwCl[ci]? = some (C, T, N)) (hj : j < N) (hlink : Jvm.Cond.fieldLink own index (T j).1 (T j).2.1 (T j).2.2.1 ∈ nn_TT) {fs : List ct_V} (hcell : X[k]? = some (.inl (ci, fs))) {v : ct_V} (hv : fs[j]? = some v) (hdg : decode cc pc = .ok (.getfield index, 3)) (hG : ct_G cy D b x H0 X H locs)
    (kk : W p l e R s m args below meth c H locs cells slots Q (F0 m (pc + 3) ls (ct_v b x v :: rest))) : W p l e R s m args below meth c H locs cells slots Q (F0 m pc ls (.ref (b + k) :: rest)) := by
  obtain ⟨C', T', N', hc', hin, -, -⟩ := nn_cls_all ci (List.getElem?_eq_some_iff.mp hc).1
  rw [hc] at hc'
  cases hc'
  exact va_get hx hb hts (fun w hw => hTT _ (hin w hw)) hown hK hG.1 k (ct_W_get hcell) hc j hj (hts _ (hTT _ hlink)) (fun _ h => h) (by rw [List.getElem?_map, hv]; rfl) hdg kk
end
/-! constructors: contracts and calls -/
/-- a constructor: its name, bytes, locals, the class, what a new object holds, whether it has an argument, frames, cells and slots that it makes, the cells at its end -/
abbrev ct_KD : Type := MethodName × ByteArray × Nat × Nat × List ct_V × Bool × Nat × Nat × Nat × List ct_C
def ct_room (d mc ms : Nat) : Room := { frames := d, cells := mc, slots := ms, locals := 40 * d }
abbrev ct_PC (cy : Nat → ClassId) (D : va_G) (ci : Nat) (fs0 : List ct_V) (ar : Bool) (b x : Nat) : Array Value → State → Prop :=
  va_Pc (.ref b :: cond ar [.ref x] []) (fun U => U.heap.size = b + 1 ∧ va_P D vwCl (ct_W cy b x [.inl (ci, fs0)]) U.heap ∧ va_K D vwCl (ab_tys cy) U ∧ ab_okN nn_NW U)
abbrev ct_QC (cy : Nat → ClassId) (D : va_G) (b x : Nat) (Z : List ct_C) : Array Value → State → Outcome → State → Prop :=
  va_Qv (fun _ : Unit => True) (fun _ t => va_P D vwCl (ct_W cy b x Z) t.heap ∧ t.heap.size = b + Z.length) (fun q : Nat => b ≤ q)
theorem ct_PC_blind {cy : Nat → ClassId} {D : va_G} {ci : Nat} {fs0 : List ct_V} {ar : Bool} {b x : Nat} : FrameBlind (ct_PC cy D ci fs0 ar b x) := by
  intro a U g mk h
  obtain ⟨h1, h2, h3, h4, h5⟩ := h
  exact ⟨h1, h2, h3, va_K.moved (u := U) (U := U.calling g mk a) (Vm.Alike.refl U.vm) h4, fun q hq => va_Nw.same rfl (u := U) (U := U.calling g mk a) rfl (h5 q hq)⟩
def ct_hold (l : Launch) (cy : Nat → ClassId) (D : va_G) (y : MethodName) (bytes : ByteArray) (maxL ci : Nat) (fs0 : List ct_V) (ar : Bool) (d mc ms : Nat) (Z : List ct_C) : Prop :=
  ∀ b x : Nat, Met l y (Jvm.Cond.code y bytes maxL none :: nn_TT) (ct_room d mc ms) (ct_PC cy D ci fs0 ar b x) (ct_QC cy D b x Z) mc ms (fun q : Nat => b ≤ q)
/-- a callee's value in its caller's names: k is the new object's place, a the argument -/
def ct_sv (k : Nat) (a v : ct_V) : ct_V := match v.1 with
  | 1 => (1, k + v.2.1, 0)
  | 2 => a
  | _ => v
def ct_sc (k : Nat) (a : ct_V) (c : ct_C) : ct_C := match c with
  | .inl o => .inl (o.1, o.2.map (ct_sv k a))
  | .inr r => .inr r
theorem ct_sv_ok {b x x' k : Nat} {a : ct_V} (ha : ct_v b x a = .ref x') (v : ct_V) : ct_v b x (ct_sv k a v) = ct_v (b + k) x' v := by
  obtain ⟨t, j, z⟩ := v
  match t with
  | 0 => rfl
  | 1 => show Value.ref (b + (k + j)) = Value.ref (b + k + j); rw [Nat.add_assoc]
  | 2 => exact ha
  | 3 => rfl
  | _ + 4 => rfl
theorem ct_sc_ok {cy : Nat → ClassId} {b x x' k : Nat} {a : ct_V} (ha : ct_v b x a = .ref x') (c : ct_C) : ct_e cy b x (ct_sc k a c) = ct_e cy (b + k) x' c := by
  cases c with
  | inl o =>
    show (Sum.inr (o.1, (o.2.map (ct_sv k a)).map (ct_v b x)) : va_E) = Sum.inr (o.1, o.2.map (ct_v (b + k) x'))
    rw [List.map_map]
    congr 2
    exact List.map_congr_left (fun v _ => ct_sv_ok ha v)
  | inr r => rfl
theorem ct_W_sc {cy : Nat → ClassId} {b x x' k : Nat} {a : ct_V} (ha : ct_v b x a = .ref x') {Y Z : List ct_C} (hk : Y.length = k) : ct_W cy b x (Y ++ Z.map (ct_sc k a)) = ct_W cy b x Y ++ ct_W cy (b + k) x' Z := by
  unfold ct_W
  rw [List.mapIdx_append]
  congr 1
  apply List.ext_getElem?
  intro i
  rw [List.getElem?_mapIdx, List.getElem?_mapIdx, List.getElem?_map]
  cases Z[i]? with
  | none => rfl
  | some c =>
    show some (b + (i + Y.length), ct_e cy b x (ct_sc k a c)) = some (b + k + i, ct_e cy (b + k) x' c)
    rw [ct_sc_ok ha, hk, Nat.add_comm i k, Nat.add_assoc]
/-- fields that name no cell -/
def ct_cl (fs : List ct_V) : Bool := fs.all (fun v => !(v.1.beq 1) && !(v.1.beq 2))
theorem ct_cl_ok {fs : List ct_V} {b x b' x' : Nat} (h : ct_cl fs = true) : fs.map (ct_v b x) = fs.map (ct_v b' x') := by
  refine List.map_congr_left (fun v hv => ?_)
  have h1 := List.all_eq_true.mp h v hv
  obtain ⟨t, j, z⟩ := v
  match t, h1 with
  | 0, _ => rfl
  | 1, h1 => cases h1
  | 2, h1 => cases h1
  | 3, _ => rfl
  | _ + 4, _ => rfl
section
variable {p : Program} {l : Launch} {e : Env} {R : Room} {s : State} {m : MethodId} {args : Array Value} {below : List Frame} {meth : Method} {c : Code} {H : Heap} {locs : List Loc} {cells slots : Nat} {Q : State → Prop} {cc : ByteArray} {pc : Nat} {ls : Array Slot} {rest : List Value}
variable {cy : Nat → ClassId} {D : va_G} {b x : Nat} {H0 : Heap} {X : List ct_C} {Ts : List Jvm.Cond} {own : String}
set_option maxHeartbeats 4000000 in
theorem ct_call (hx : p.tables.exec = Jvm.exec) (hb : c.code = cc) {nL : Nat} (hml : c.maxLocals = nL) (hls : ls.size = nL) (hts : ∀ w ∈ Ts, w.before args s = true) (hTT : ∀ w ∈ nn_TT, w ∈ Ts) (hown : s.vm.findClass own = some m.cls) (hK : va_K D vwCl (ab_tys cy) s) (hN : ab_okN nn_NW s)
    {y : MethodName} {bytes : ByteArray} {maxL ci : Nat} {fs0 : List ct_V} {ar : Bool} {d mc ms : Nat} {Z : List ct_C} (hq : ct_hold l cy D y bytes maxL ci fs0 ar d mc ms Z) {index k x' : Nat} (hkl : k + 1 = X.length) (hcell : X[k]? = some (.inl (ci, fs0))) (hcl : ct_cl fs0 = true) {a : ct_V} (ha : ct_v b x a = .ref x')
    (c1 : Jvm.Cond.code y bytes maxL none ∈ nn_TT) (c2 : Jvm.Cond.initialized y.cls ∈ nn_TT) (c3 : y.cls ≠ "java/lang/invoke/MethodHandle" ∧ y.cls ≠ "java/lang/invoke/VarHandle") (c4 : (parseMethodDescriptor y.desc).map (fun d => d.parameters.length) = some (cond ar 1 0)) (c5 : y.name = "<init>") (c6 : Jvm.Cond.instanceMethod y ∈ nn_TT) (c7 : Jvm.Cond.methodLink own index y ∈ nn_TT ∨ ∃ host, (own, index, y, host) ∈ nn_NW)
    (hR : d + 1 ≤ R.frames ∧ 8 + (maxL + 11) + 40 * d ≤ R.locals) (hcs : cells + mc ≤ R.cells ∧ slots + ms ≤ R.slots) (hrest : (rest.map fun v => v.category).sum ≤ 8) (hdg : decode cc pc = .ok (.invokespecial index, 3)) (hG : ct_G cy D b x H0 X H locs)
    (kk : ∀ (H1 : Heap) (locs1 : List Loc), ct_G cy D b x H0 (X.take k ++ Z.map (ct_sc k a)) H1 locs1 → W p l e R s m args below meth c H1 locs1 (cells + mc) (slots + ms) Q (F0 m (pc + 3) ls rest)) : W p l e R s m args below meth c H locs cells slots Q (F0 m pc ls (cond ar [.ref x'] [] ++ .ref (b + k) :: rest)) := by
  obtain ⟨hP, hz, hS⟩ := hG
  have hM := hq (b + k) x'
  have hcell0 := hP k _ (ct_W_get (cy := cy) (b := b) (x := x) hcell)
  have hP0 : va_P D vwCl (ct_W cy (b + k) x' [.inl (ci, fs0)]) H := by
    intro k' q' hq'
    have h1 := (ct_W_at hq').1
    have h1 : k' < 1 := h1
    rw [show k' = 0 by omega] at hq'
    cases hq'
    show va_at D vwCl (b + k, .inr (ci, fs0.map (ct_v (b + k) x'))) H
    rw [ct_cl_ok (b := b + k) (x := x') (b' := b) (x' := x) hcl]
    exact hcell0
  have hpre : ∀ U : State, U.heap = H → s.WarmedH U.vm → ct_PC cy D ci fs0 ar (b + k) x' (Value.ref (b + k) :: cond ar [.ref x'] []).toArray U := fun U hU hW => ⟨rfl, by rw [hU, hz]; omega, by rw [hU]; exact hP0, va_K.moved hW.alike hK, ab_okN_moved hW hN⟩
  have hws : ∀ w ∈ (Jvm.Cond.code y bytes maxL none :: nn_TT), ∀ (a' : Array Value) (U : State), s.WarmedH U.vm → w.before a' U = true := by
    intro w hw a' U hW
    have hw2 : w ∈ nn_TT := by
      rcases List.mem_cons.mp hw with rfl | hw
      · exact c1
      · exact hw
    exact word_at hW (good_of_word (nn_TT_good w hw2)) (hts _ (hTT _ hw2))
  have hsig : ∀ sig, parseMethodDescriptor y.desc = some sig → (cond ar 1 0 : Nat) = sig.parameters.length := by
    intro sig h
    rw [h] at c4
    exact (Option.some.inj c4).symm
  have hfix : CallFix p m c cc nL s args Ts own := ⟨hx, hb, hml, hown, hts⟩
  have hn : (cond ar [Value.ref x'] []).length = (cond ar 1 0 : Nat) := by cases ar <;> rfl
  have hst : (F0 m pc ls (cond ar [.ref x'] [] ++ .ref (b + k) :: rest)).stack = (cond ar [Value.ref x'] []).reverse ++ .ref (b + k) :: rest := by cases ar <;> rfl
  have hroom : 2 * (F0 m pc ls (cond ar [.ref x'] [] ++ .ref (b + k) :: rest)).monitorRoom + (rest.map fun v => v.category).sum ≤ 8 := lv_room hrest
  have hrun : va_Run p l e R s m args below meth c H locs cells slots mc ms (F0 m pc ls (cond ar [.ref x'] [] ++ .ref (b + k) :: rest)) rest (ct_QC cy D (b + k) x' Z (Value.ref (b + k) :: cond ar [.ref x'] []).toArray) (fun q : Nat => b + k ≤ q) := by
    rcases c7 with c7 | ⟨host, c7⟩
    · exact va_runI (n := (cond ar 1 0 : Nat)) hfix hM ⟨⟨rfl, rfl, hR.1, hR.2, hws, List.mem_cons_self, hts _ (hTT _ c1), hts _ (hTT _ c2), c3, hsig, hts _ (hTT _ c7)⟩, c5, hts _ (hTT _ c6)⟩ ⟨ct_PC_blind, hpre⟩ rfl hn hls hst hroom hdg hcs
    · have zN := hN _ c7
      dsimp only at zN
      exact va_runIN (n := (cond ar 1 0 : Nat)) (host := host) hfix hM ⟨⟨⟨rfl, rfl, hR.1, hR.2, hws, List.mem_cons_self⟩, hts _ (hTT _ c1), hts _ (hTT _ c2), c3, hsig, va_Nw.use rfl zN⟩, c5, hts _ (hTT _ c6)⟩ ⟨ct_PC_blind, hpre⟩ rfl hn hls hst hroom hdg hcs
  refine va_callv hrun hS (fun q _ h => Nat.le_trans (Nat.le_add_right b k) h) (fun q h => Nat.le_trans (Nat.le_add_right b k) h) (fun u t H1 locs1 ht hvm hw hB hz1 hk1 hS1 => ?_)
  obtain ⟨hP1, hz2⟩ := hB
  rw [ht] at hP1 hz2
  have htk : (X.take k).length = k := by rw [List.length_take]; omega
  refine kk H1 locs1 ⟨?_, ?_, hS1⟩
  · rw [ct_W_sc ha htk]
    refine va_P.app (fun k' q' hq' => ?_) hP1
    have g := ct_W_at hq'
    rw [htk] at g
    have hq2 : (ct_W cy b x X)[k']? = some q' := by
      unfold ct_W at hq' ⊢
      rw [List.getElem?_mapIdx] at hq' ⊢
      rw [List.getElem?_take, if_pos g.1] at hq'
      exact hq'
    exact (hP k' q' hq2).kept (hk1 q'.1 (hP k' q' hq2).lt (by rw [g.2]; show ¬ (b + k ≤ b + k'); omega))
  · rw [hz2, List.length_append, List.length_map, htk, Nat.add_assoc]
end
/-! constructors: the checker -/
/-- an instruction: its kind, a number, the pool's number, places -/
abbrev ct_O : Type := Nat × Int × Nat × List Nat
/-- cells, stack, cells and slots made -/
abbrev ct_S : Type := List ct_C × List ct_V × Nat × Nat
def ct_ins (o : ct_O) : Instr × Nat := match o.1 with
  | 0 => (.aload_n 0, 1)
  | 1 => (.aload_n 1, 1)
  | 2 => (.iconst o.2.1, 1)
  | 3 => (.bipush o.2.1, 2)
  | 4 => (.sipush o.2.1, 3)
  | 5 => (.dup, 1)
  | 6 => (.new o.2.2.1, 3)
  | 7 => (.newarray (ct_at o.2.2.1), 2)
  | 8 => (.putfield o.2.2.1, 3)
  | 9 => (.iastore, 1)
  | 10 => (.getfield o.2.2.1, 3)
  | 11 => (.invokespecial o.2.2.1, 3)
  | 12 => (.invokespecial o.2.2.1, 3)
  | _ => (.return_, 1)
/-- a stack of few values of one word each -/
def ct_st1 (st : List ct_V) : Bool := st.length.ble 8 && st.all (fun v => !(Nat.ble 4 v.1))
theorem ct_cat {b x : Nat} {v : ct_V} (h : (Nat.ble 4 v.1) = false) : (ct_v b x v).category = 1 := by
  obtain ⟨t, j, z⟩ := v
  match t, h with
  | 0, _ => rfl
  | 1, _ => rfl
  | 2, _ => rfl
  | 3, _ => rfl
  | n + 4, h => exact absurd (Nat.ble_eq_true_of_le (Nat.le_add_left 4 n)) (by rw [h]; decide)
theorem ct_sum {b x : Nat} : ∀ {st : List ct_V}, st.all (fun v => !(Nat.ble 4 v.1)) = true → ((st.map (ct_v b x)).map fun v => v.category).sum = st.length := by
  intro st
  induction st with
  | nil => intro _; rfl
  | cons v st ih =>
    intro h
    rw [List.all_cons, Bool.and_eq_true, Bool.not_eq_true'] at h
    rw [List.map_cons, List.map_cons, List.sum_cons, ih h.2, ct_cat h.1, List.length_cons, Nat.add_comm]
theorem ct_st1_ok {b x : Nat} {st : List ct_V} (h : ct_st1 st = true) : ((st.map (ct_v b x)).map fun v => v.category).sum ≤ 8 := by
  unfold ct_st1 at h
  rw [Bool.and_eq_true] at h
  rw [ct_sum h.2]
  exact Nat.le_of_ble_eq_true h.1
def ct_sNew (own : String) (mc ms : Nat) (F : List (List ct_V)) (idx : Nat) (L : List Nat) (S : ct_S) : Option ct_S := match L with
  | [ci, i1, i2, i3] => (match vwCl[ci]?, F[ci]? with
    | some q, some fs => cond (nn_at i1 (Jvm.Cond.classLink own idx q.1) && nn_at i2 (Jvm.Cond.instantiable q.1 q.2.2) && nn_at i3 (Jvm.Cond.initialized q.1) && (S.2.2.1 + 1).ble mc && (S.2.2.2 + q.2.2).ble ms && ct_dfok q.2.1 q.2.2 fs) (some (S.1 ++ [.inl (ci, fs)], (1, S.1.length, 0) :: S.2.1, S.2.2.1 + 1, S.2.2.2 + q.2.2)) none
    | _, _ => none)
  | _ => none
def ct_sArr (mc ms t : Nat) (L : List Nat) (S : ct_S) : Option ct_S := match L, S.2.1 with
  | [i1], v :: st => cond (v.1.beq 0 && (t + 1).ble 4 && nn_at i1 (Jvm.Cond.arrayClass (ct_ty t)) && decide (0 ≤ v.2.2) && decide (v.2.2 < 100000) && (S.2.2.1 + 1).ble mc && (S.2.2.2 + v.2.2.toNat).ble ms) (some (S.1 ++ [.inr (t, v.2.2.toNat, [])], (1, S.1.length, 0) :: st, S.2.2.1 + 1, S.2.2.2 + v.2.2.toNat)) none
  | _, _ => none
def ct_sPut (own : String) (idx : Nat) (L : List Nat) (S : ct_S) : Option ct_S := match L, S.2.1 with
  | [ci, j, i1], v :: w :: st => (match S.1[w.2.1]?, vwCl[ci]? with
    | some (.inl o), some q => cond (w.1.beq 1 && o.1.beq ci && (j + 1).ble q.2.2 && nn_at i1 (Jvm.Cond.fieldLink own idx (q.2.1 j).1 (q.2.1 j).2.1 (q.2.1 j).2.2.1) && (j + 1).ble o.2.length && (match parseFieldDescriptor (q.2.1 j).2.2.1 with | some ty => ct_fit ty v | none => false) && (!(q.2.1 j).2.2.2 || decide ((q.2.1 j).1 = own))) (some (S.1.set w.2.1 (.inl (ci, o.2.set j v)), st, S.2.2)) none
    | _, _ => none)
  | _, _ => none
def ct_sAst (S : ct_S) : Option ct_S := match S.2.1 with
  | v :: i :: w :: st => (match S.1[w.2.1]? with
    | some (.inr a) => cond (v.1.beq 0 && i.1.beq 0 && w.1.beq 1 && a.1.beq 0 && decide (0 ≤ i.2.2) && decide (i.2.2 < (a.2.1 : Int)) && decide (a.2.1 < 2 ^ 31)) (some (S.1.set w.2.1 (.inr (0, a.2.1, (i.2.2.toNat, v.2.2) :: a.2.2)), st, S.2.2)) none
    | _ => none)
  | _ => none
def ct_sGet (own : String) (idx : Nat) (L : List Nat) (S : ct_S) : Option ct_S := match L, S.2.1 with
  | [ci, j, i1], w :: st => (match S.1[w.2.1]?, vwCl[ci]? with
    | some (.inl o), some q => (match o.2[j]? with
      | some v => cond (w.1.beq 1 && o.1.beq ci && (j + 1).ble q.2.2 && nn_at i1 (Jvm.Cond.fieldLink own idx (q.2.1 j).1 (q.2.1 j).2.1 (q.2.1 j).2.2.1)) (some (S.1, v :: st, S.2.2)) none
      | none => none)
    | _, _ => none)
  | _, _ => none
def ct_sObj (own : String) (idx : Nat) (L : List Nat) (S : ct_S) : Option ct_S := match L, S.2.1 with
  | [i1, i2, i3], w :: st => cond (w.1.beq 1 && ct_st1 st && nn_at i1 (Jvm.Cond.methodLink own idx Lib.objectInit) && nn_at i2 (Jvm.Cond.instanceMethod Lib.objectInit) && nn_at i3 (Jvm.Cond.code Lib.objectInit ⟨#[0xb1]⟩ 1 none)) (some (S.1, st, S.2.2)) none
  | _, _ => none
def ct_arg (ar : Bool) (st : List ct_V) : Option (ct_V × List ct_V) := match ar, st with
  | true, a :: st => cond (a.1.beq 1 || a.1.beq 2) (some (a, st)) none
  | true, [] => none
  | false, st => some ((2, 0, 0), st)
def ct_ax (b x : Nat) (a : ct_V) : Nat := cond (a.1.beq 1) (b + a.2.1) x
theorem ct_arg_ok {ar : Bool} {st : List ct_V} {q : ct_V × List ct_V} {b x : Nat} (h : ct_arg ar st = some q) : ct_v b x q.1 = .ref (ct_ax b x q.1) ∧ st.map (ct_v b x) = cond ar [.ref (ct_ax b x q.1)] [] ++ q.2.map (ct_v b x) := by
  cases ar with
  | false => cases h; exact ⟨rfl, rfl⟩
  | true =>
    cases st with
    | nil => cases h
    | cons a st =>
      obtain ⟨t, j, z⟩ := a
      match t, h with
      | 0, h => cases h
      | 1, h => cases h; exact ⟨rfl, rfl⟩
      | 2, h => cases h; exact ⟨rfl, rfl⟩
      | _ + 3, h => cases h
def ct_sCal (own : String) (K : List ct_KD) (d mc ms idx : Nat) (L : List Nat) (S : ct_S) : Option ct_S := match L with
  | [kn, md, i1, i2, i3, i4] => (match K[kn]? with
    | some (y, bytes, maxL, ci, fs0, ar, d2, mc2, ms2, Z) => (match ct_arg ar S.2.1 with
      | some (a, w :: st) => cond (w.1.beq 1 && (w.2.1 + 1).beq S.1.length && (match S.1[w.2.1]? with | some (.inl o) => o.1.beq ci && decide (o.2 = fs0) | _ => false) && ct_cl fs0 && ct_st1 st && (d2 + 1).ble d && (8 + (maxL + 11) + 40 * d2).ble (40 * d) && (S.2.2.1 + mc2).ble mc && (S.2.2.2 + ms2).ble ms &&
          nn_at i1 (Jvm.Cond.code y bytes maxL none) && nn_at i2 (Jvm.Cond.initialized y.cls) && decide (y.cls ≠ "java/lang/invoke/MethodHandle") && decide (y.cls ≠ "java/lang/invoke/VarHandle") && decide ((parseMethodDescriptor y.desc).map (fun d => d.parameters.length) = some (cond ar 1 0)) && decide (y.name = "<init>") && nn_at i3 (Jvm.Cond.instanceMethod y) &&
          cond (md.beq 0) (nn_at i4 (Jvm.Cond.methodLink own idx y)) (match nn_NW[i4]? with | some r => decide (r.1 = own) && r.2.1.beq idx && decide (r.2.2.1 = y) | none => false))
        (some (S.1.take w.2.1 ++ Z.map (ct_sc w.2.1 a), st, S.2.2.1 + mc2, S.2.2.2 + ms2)) none
      | _ => none)
    | none => none)
  | _ => none
def ct_step (own : String) (ar : Bool) (K : List ct_KD) (F : List (List ct_V)) (d mc ms : Nat) (o : ct_O) (S : ct_S) : Option ct_S := match o.1 with
  | 0 => some (S.1, (1, 0, 0) :: S.2.1, S.2.2)
  | 1 => cond ar (some (S.1, (2, 0, 0) :: S.2.1, S.2.2)) none
  | 2 => some (S.1, (0, 0, o.2.1) :: S.2.1, S.2.2)
  | 3 => cond (decide ((Int8.ofInt o.2.1).toInt32 = Int32.ofInt o.2.1)) (some (S.1, (0, 0, o.2.1) :: S.2.1, S.2.2)) none
  | 4 => cond (decide ((Int16.ofInt o.2.1).toInt32 = Int32.ofInt o.2.1)) (some (S.1, (0, 0, o.2.1) :: S.2.1, S.2.2)) none
  | 5 => (match S.2.1 with
    | v :: st => cond (Nat.ble 4 v.1) none (some (S.1, v :: v :: st, S.2.2))
    | [] => none)
  | 6 => ct_sNew own mc ms F o.2.2.1 o.2.2.2 S
  | 7 => ct_sArr mc ms o.2.2.1 o.2.2.2 S
  | 8 => ct_sPut own o.2.2.1 o.2.2.2 S
  | 9 => ct_sAst S
  | 10 => ct_sGet own o.2.2.1 o.2.2.2 S
  | 11 => ct_sObj own o.2.2.1 o.2.2.2 S
  | 12 => ct_sCal own K d mc ms o.2.2.1 o.2.2.2 S
  | _ => none
def ct_run (own : String) (ar : Bool) (K : List ct_KD) (F : List (List ct_V)) (d mc ms : Nat) : List ct_O → ct_S → Option (List ct_C)
  | [], _ => none
  | o :: l, S => cond (o.1.beq 13) (match S.2.1 with | [] => cond (S.2.2.1.ble mc && S.2.2.2.ble ms) (some S.1) none | _ :: _ => none) (match ct_step own ar K F d mc ms o S with
    | some S' => ct_run own ar K F d mc ms l S'
    | none => none)
def ct_dec (cc : ByteArray) : List ct_O → Nat → Bool
  | [], _ => true
  | o :: l, pc => decide (decode cc pc = .ok (ct_ins o)) && ct_dec cc l (pc + (ct_ins o).2)
/-- what a constructor's body stands on -/
def ct_Ev (p : Program) (l : Launch) (s : State) (m : MethodId) (args : Array Value) (meth : Method) (c : Code) (cc : ByteArray) (R : Room) (ls : Array Slot) (cy : Nat → ClassId) (D : va_G) (b x : Nat) (own : String) (Ts : List Jvm.Cond) (ar : Bool) (K : List ct_KD) (d mc ms : Nat) : Prop :=
  p.tables.exec = Jvm.exec ∧ c.code = cc ∧ ls.size = c.maxLocals ∧ s.vm.findClass own = some m.cls ∧ (∀ w ∈ Ts, w.before args s = true) ∧ (∀ w ∈ nn_TT, w ∈ Ts) ∧ va_K D vwCl (ab_tys cy) s ∧ ab_okN nn_NW s ∧ meth.name = "<init>" ∧ ls[0]? = some (.val (.ref b)) ∧ (ar = true → ls[1]? = some (.val (.ref x))) ∧ (1 ≤ d ∧ d ≤ R.frames ∧ 40 * d ≤ R.locals ∧ mc ≤ R.cells ∧ ms ≤ R.slots) ∧
    ∀ q ∈ K, ct_hold l cy D q.1 q.2.1 q.2.2.1 q.2.2.2.1 q.2.2.2.2.1 q.2.2.2.2.2.1 q.2.2.2.2.2.2.1 q.2.2.2.2.2.2.2.1 q.2.2.2.2.2.2.2.2.1 q.2.2.2.2.2.2.2.2.2
theorem ct_cs {α : Type} {t : Bool} {a r : Option α} {y : α} (h : cond t a none = some y) : t = true ∧ a = some y := by
  cases t with
  | true => exact ⟨rfl, h⟩
  | false => cases h
section
variable {p : Program} {l : Launch} {e : Env} {R : Room} {s : State} {m : MethodId} {args : Array Value} {below : List Frame} {meth : Method} {c : Code} {H : Heap} {locs : List Loc} {Q : State → Prop} {cc : ByteArray} {pc : Nat} {ls : Array Slot}
variable {cy : Nat → ClassId} {D : va_G} {b x : Nat} {H0 : Heap} {Ts : List Jvm.Cond} {own : String} {ar : Bool} {K : List ct_KD} {F : List (List ct_V)} {d mc ms : Nat} {S S' : ct_S}
theorem ct_ref {w : ct_V} (h : w.1.beq 1 = true) : ct_v b x w = .ref (b + w.2.1) := by
  obtain ⟨t, j, z⟩ := w
  have : t = 1 := Nat.eq_of_beq_eq_true h
  subst this
  rfl
theorem ct_int {w : ct_V} (h : w.1.beq 0 = true) : ct_v b x w = .int (Int32.ofInt w.2.2) := by
  obtain ⟨t, j, z⟩ := w
  have : t = 0 := Nat.eq_of_beq_eq_true h
  subst this
  rfl
set_option maxHeartbeats 8000000 in
theorem ct_step_ok {o : ct_O} (E : ct_Ev p l s m args meth c cc R ls cy D b x own Ts ar K d mc ms) (h : ct_step own ar K F d mc ms o S = some S') (hd : decode cc pc = .ok (ct_ins o)) (hG : ct_G cy D b x H0 S.1 H locs)
    (kk : ∀ (H1 : Heap) (locs1 : List Loc), ct_G cy D b x H0 S'.1 H1 locs1 → W p l e R s m args below meth c H1 locs1 S'.2.2.1 S'.2.2.2 Q (F0 m (pc + (ct_ins o).2) ls (S'.2.1.map (ct_v b x)))) :
    W p l e R s m args below meth c H locs S.2.2.1 S.2.2.2 Q (F0 m pc ls (S.2.1.map (ct_v b x))) := by
  obtain ⟨hx, hb, hls, hown, hts, hTT, hK, hN, hin, hl0, hl1, ⟨r1, r2, r3, r4, r5⟩, hKs⟩ := E
  obtain ⟨t, z, idx, L⟩ := o
  revert h hd kk
  match t with
  | 0 =>
    intro h hd kk
    cases h
    exact lv_aload_n hx hb (k := 0) hd rfl hl0 (kk H locs hG)
  | 1 =>
    intro h hd kk
    obtain ⟨h1, h⟩ := ct_cs (r := none) h
    cases h
    exact lv_aload_n hx hb (k := 1) hd rfl (hl1 h1) (kk H locs hG)
  | 2 =>
    intro h hd kk
    cases h
    exact lv_iconst hx hb hd rfl (kk H locs hG)
  | 3 =>
    intro h hd kk
    obtain ⟨h1, h⟩ := ct_cs (r := none) h
    cases h
    exact lv_bipush hx hb hd (of_decide_eq_true h1) (kk H locs hG)
  | 4 =>
    intro h hd kk
    obtain ⟨h1, h⟩ := ct_cs (r := none) h
    cases h
    exact lv_sipush hx hb hd (of_decide_eq_true h1) (kk H locs hG)
  | 5 =>
    intro h hd kk
    obtain ⟨X, st, n1, n2⟩ := S
    cases st with
    | nil => cases h
    | cons v st =>
      replace h : cond (Nat.ble 4 v.1) none (some ((X, v :: v :: st, n1, n2) : ct_S)) = some S' := h
      cases hv : Nat.ble 4 v.1 with
      | true => rw [hv] at h; cases h
      | false =>
        rw [hv] at h
        cases h
        exact lv_dup hx hb hd (ct_cat hv) (kk H locs hG)
  | 6 =>
    intro h hd kk
    replace hd : decode cc pc = .ok (.new idx, 3) := hd
    replace kk : ∀ (H1 : Heap) (locs1 : List Loc), ct_G cy D b x H0 S'.1 H1 locs1 → W p l e R s m args below meth c H1 locs1 S'.2.2.1 S'.2.2.2 Q (F0 m (pc + 3) ls (S'.2.1.map (ct_v b x))) := kk
    replace h : ct_sNew own mc ms F idx L S = some S' := h
    unfold ct_sNew at h
    split at h
    · split at h
      · rename_i ci i1 i2 i3 _ _ q fs e1 e2
        obtain ⟨hc, h⟩ := ct_cs (r := none) h
        cases h
        obtain ⟨C, T, N⟩ := q
        rw [Bool.and_eq_true, Bool.and_eq_true, Bool.and_eq_true, Bool.and_eq_true, Bool.and_eq_true] at hc
        obtain ⟨⟨⟨⟨⟨g1, g2⟩, g3⟩, g4⟩, g5⟩, g6⟩ := hc
        exact ct_new hx hb hts hTT hown hK e1 (nn_at_ok g1) (nn_at_ok g2) (nn_at_ok g3) g6 (Nat.le_trans (Nat.le_of_ble_eq_true g4) r4) (Nat.le_trans (Nat.le_of_ble_eq_true g5) r5) hd hG (fun H1 hG1 => kk H1 locs hG1)
      · cases h
    · cases h
  | 7 =>
    intro h hd kk
    replace hd : decode cc pc = .ok (.newarray (ct_at idx), 2) := hd
    replace kk : ∀ (H1 : Heap) (locs1 : List Loc), ct_G cy D b x H0 S'.1 H1 locs1 → W p l e R s m args below meth c H1 locs1 S'.2.2.1 S'.2.2.2 Q (F0 m (pc + 2) ls (S'.2.1.map (ct_v b x))) := kk
    obtain ⟨X, st, n1, n2⟩ := S
    replace h : ct_sArr mc ms idx L (X, st, n1, n2) = some S' := h
    unfold ct_sArr at h
    split at h
    · rename_i i1 v st9 e0
      have e0 : st = v :: st9 := e0
      subst e0
      obtain ⟨hc, h⟩ := ct_cs (r := none) h
      cases h
      rw [Bool.and_eq_true, Bool.and_eq_true, Bool.and_eq_true, Bool.and_eq_true, Bool.and_eq_true, Bool.and_eq_true, decide_eq_true_eq, decide_eq_true_eq] at hc
      obtain ⟨⟨⟨⟨⟨⟨g1, g2⟩, g3⟩, g4⟩, g5⟩, g6⟩, g7⟩ := hc
      show W p l e R s m args below meth c H locs n1 n2 Q (F0 m pc ls (ct_v b x v :: st9.map (ct_v b x)))
      rw [ct_int g1]
      exact ct_newa hx hb hts hTT hK (Nat.le_of_ble_eq_true g2) (nn_at_ok g3) g4 g5 (Nat.le_trans (Nat.le_of_ble_eq_true g6) r4) (Nat.le_trans (Nat.le_of_ble_eq_true g7) r5) hd hG (fun H1 hG1 => kk H1 locs hG1)
    · cases h
  | 8 =>
    intro h hd kk
    replace hd : decode cc pc = .ok (.putfield idx, 3) := hd
    replace kk : ∀ (H1 : Heap) (locs1 : List Loc), ct_G cy D b x H0 S'.1 H1 locs1 → W p l e R s m args below meth c H1 locs1 S'.2.2.1 S'.2.2.2 Q (F0 m (pc + 3) ls (S'.2.1.map (ct_v b x))) := kk
    obtain ⟨X, st, n1, n2⟩ := S
    replace h : ct_sPut own idx L (X, st, n1, n2) = some S' := h
    unfold ct_sPut at h
    split at h
    · rename_i ci j i1 v w st9 e0
      have e0 : st = v :: w :: st9 := e0
      subst e0
      split at h
      · rename_i o q e1 e2
        obtain ⟨hc, h⟩ := ct_cs (r := none) h
        cases h
        obtain ⟨C, T, N⟩ := q
        obtain ⟨ci9, fs9⟩ := o
        rw [Bool.and_eq_true, Bool.and_eq_true, Bool.and_eq_true, Bool.and_eq_true, Bool.and_eq_true, Bool.and_eq_true] at hc
        obtain ⟨⟨⟨⟨⟨⟨g1, g2⟩, g3⟩, g4⟩, g5⟩, g6⟩, g7⟩ := hc
        have g2 : ci9 = ci := Nat.eq_of_beq_eq_true g2
        subst g2
        split at g6
        · rename_i ty hty
          show W p l e R s m args below meth c H locs n1 n2 Q (F0 m pc ls (ct_v b x v :: ct_v b x w :: st9.map (ct_v b x)))
          rw [ct_ref g1]
          refine ct_put hx hb hts hTT hown hK e2 (Nat.le_of_ble_eq_true g3) (nn_at_ok g4) e1 (Nat.le_of_ble_eq_true g5) hty g6 (fun hf => ⟨hin, ?_⟩) hd hG kk
          rw [Bool.or_eq_true, Bool.not_eq_true', decide_eq_true_eq] at g7
          rcases g7 with g7 | g7
          · replace hf : (T j).2.2.2 = true := hf
            replace g7 : (T j).2.2.2 = false := g7
            rw [hf] at g7
            cases g7
          · exact g7
        · cases g6
      · cases h
    · cases h
  | 9 =>
    intro h hd kk
    replace hd : decode cc pc = .ok (.iastore, 1) := hd
    replace kk : ∀ (H1 : Heap) (locs1 : List Loc), ct_G cy D b x H0 S'.1 H1 locs1 → W p l e R s m args below meth c H1 locs1 S'.2.2.1 S'.2.2.2 Q (F0 m (pc + 1) ls (S'.2.1.map (ct_v b x))) := kk
    obtain ⟨X, st, n1, n2⟩ := S
    replace h : ct_sAst (X, st, n1, n2) = some S' := h
    unfold ct_sAst at h
    split at h
    · rename_i v i w st9 e0
      have e0 : st = v :: i :: w :: st9 := e0
      subst e0
      split at h
      · rename_i a e1
        obtain ⟨hc, h⟩ := ct_cs (r := none) h
        cases h
        obtain ⟨t9, n9, lw⟩ := a
        rw [Bool.and_eq_true, Bool.and_eq_true, Bool.and_eq_true, Bool.and_eq_true, Bool.and_eq_true, Bool.and_eq_true, decide_eq_true_eq, decide_eq_true_eq, decide_eq_true_eq] at hc
        obtain ⟨⟨⟨⟨⟨⟨g1, g2⟩, g3⟩, g4⟩, g5⟩, g6⟩, g7⟩ := hc
        have g4 : t9 = 0 := Nat.eq_of_beq_eq_true g4
        subst g4
        show W p l e R s m args below meth c H locs n1 n2 Q (F0 m pc ls (ct_v b x v :: ct_v b x i :: ct_v b x w :: st9.map (ct_v b x)))
        rw [ct_int g1, ct_int g2, ct_ref g3]
        exact ct_iast hx hb hK e1 g5 g6 g7 hd hG kk
      · cases h
    · cases h
  | 10 =>
    intro h hd kk
    replace hd : decode cc pc = .ok (.getfield idx, 3) := hd
    replace kk : ∀ (H1 : Heap) (locs1 : List Loc), ct_G cy D b x H0 S'.1 H1 locs1 → W p l e R s m args below meth c H1 locs1 S'.2.2.1 S'.2.2.2 Q (F0 m (pc + 3) ls (S'.2.1.map (ct_v b x))) := kk
    obtain ⟨X, st, n1, n2⟩ := S
    replace h : ct_sGet own idx L (X, st, n1, n2) = some S' := h
    unfold ct_sGet at h
    split at h
    · rename_i ci j i1 w st9 e0
      have e0 : st = w :: st9 := e0
      subst e0
      split at h
      · rename_i o q e1 e2
        split at h
        · rename_i v e3
          obtain ⟨hc, h⟩ := ct_cs (r := none) h
          cases h
          obtain ⟨C, T, N⟩ := q
          obtain ⟨ci9, fs9⟩ := o
          rw [Bool.and_eq_true, Bool.and_eq_true, Bool.and_eq_true] at hc
          obtain ⟨⟨⟨g1, g2⟩, g3⟩, g4⟩ := hc
          have g2 : ci9 = ci := Nat.eq_of_beq_eq_true g2
          subst g2
          show W p l e R s m args below meth c H locs n1 n2 Q (F0 m pc ls (ct_v b x w :: st9.map (ct_v b x)))
          rw [ct_ref g1]
          exact ct_get hx hb hts hTT hown hK e2 (Nat.le_of_ble_eq_true g3) (nn_at_ok g4) e1 e3 hd hG (kk H locs hG)
        · cases h
      · cases h
    · cases h
  | 11 =>
    intro h hd kk
    replace hd : decode cc pc = .ok (.invokespecial idx, 3) := hd
    replace kk : ∀ (H1 : Heap) (locs1 : List Loc), ct_G cy D b x H0 S'.1 H1 locs1 → W p l e R s m args below meth c H1 locs1 S'.2.2.1 S'.2.2.2 Q (F0 m (pc + 3) ls (S'.2.1.map (ct_v b x))) := kk
    obtain ⟨X, st, n1, n2⟩ := S
    replace h : ct_sObj own idx L (X, st, n1, n2) = some S' := h
    unfold ct_sObj at h
    split at h
    · rename_i i1 i2 i3 w st9 e0
      have e0 : st = w :: st9 := e0
      subst e0
      obtain ⟨hc, h⟩ := ct_cs (r := none) h
      cases h
      rw [Bool.and_eq_true, Bool.and_eq_true, Bool.and_eq_true, Bool.and_eq_true] at hc
      obtain ⟨⟨⟨⟨g1, g2⟩, g3⟩, g4⟩, g5⟩ := hc
      show W p l e R s m args below meth c H locs n1 n2 Q (F0 m pc ls (ct_v b x w :: st9.map (ct_v b x)))
      rw [ct_ref g1]
      have hr : 2 * (F0 m pc ls (.ref (b + w.2.1) :: st9.map (ct_v b x))).monitorRoom + ((st9.map (ct_v b x)).map fun v => v.category).sum ≤ 8 := lv_room (ct_st1_ok g2)
      exact W.objInit hx hb hown (hts _ (hTT _ (nn_at_ok g3))) (hts _ (hTT _ (nn_at_ok g4))) (hts _ (hTT _ (nn_at_ok g5))) rfl hls rfl hd (Nat.le_trans r1 r2) (by omega) (kk H locs hG)
    · cases h
  | 12 =>
    intro h hd kk
    replace hd : decode cc pc = .ok (.invokespecial idx, 3) := hd
    replace kk : ∀ (H1 : Heap) (locs1 : List Loc), ct_G cy D b x H0 S'.1 H1 locs1 → W p l e R s m args below meth c H1 locs1 S'.2.2.1 S'.2.2.2 Q (F0 m (pc + 3) ls (S'.2.1.map (ct_v b x))) := kk
    obtain ⟨X, st, n1, n2⟩ := S
    replace h : ct_sCal own K d mc ms idx L (X, st, n1, n2) = some S' := h
    unfold ct_sCal at h
    split at h
    · rename_i kn md i1 i2 i3 i4
      split at h
      · rename_i y bytes maxL ci fs0 ar2 d2 mc2 ms2 Z e1
        split at h
        · rename_i a w st9 e2
          obtain ⟨hc, h⟩ := ct_cs (r := none) h
          cases h
          rw [Bool.and_eq_true, Bool.and_eq_true, Bool.and_eq_true, Bool.and_eq_true, Bool.and_eq_true, Bool.and_eq_true, Bool.and_eq_true, Bool.and_eq_true, Bool.and_eq_true, Bool.and_eq_true, Bool.and_eq_true, Bool.and_eq_true, Bool.and_eq_true, Bool.and_eq_true, Bool.and_eq_true, Bool.and_eq_true, decide_eq_true_eq, decide_eq_true_eq, decide_eq_true_eq, decide_eq_true_eq] at hc
          obtain ⟨⟨⟨⟨⟨⟨⟨⟨⟨⟨⟨⟨⟨⟨⟨⟨g1, g2⟩, g3⟩, g4⟩, g5⟩, g6⟩, g7⟩, g8⟩, g9⟩, g10⟩, g11⟩, g12⟩, g13⟩, g14⟩, g15⟩, g16⟩, g17⟩ := hc
          obtain ⟨a1, a2⟩ := ct_arg_ok (b := b) (x := x) e2
          have hlink : Jvm.Cond.methodLink own idx y ∈ nn_TT ∨ ∃ host, (own, idx, y, host) ∈ nn_NW := by
            cases hm : md.beq 0 with
            | true => rw [hm] at g17; exact Or.inl (nn_at_ok g17)
            | false =>
              rw [hm] at g17
              replace g17 : (match nn_NW[i4]? with | some r => decide (r.1 = own) && r.2.1.beq idx && decide (r.2.2.1 = y) | none => false) = true := g17
              split at g17
              · rename_i r9 hr9
                rw [Bool.and_eq_true, Bool.and_eq_true, decide_eq_true_eq, decide_eq_true_eq] at g17
                obtain ⟨⟨f1, f2⟩, f3⟩ := g17
                have f2 := Nat.eq_of_beq_eq_true f2
                refine Or.inr ⟨r9.2.2.2, ?_⟩
                rw [← f1, ← f2, ← f3]
                exact List.mem_of_getElem? hr9
              · cases g17
          have g3 : X[w.2.1]? = some (.inl (ci, fs0)) := by
            replace g3 : (match X[w.2.1]? with | some (.inl o) => o.1.beq ci && decide (o.2 = fs0) | _ => false) = true := g3
            split at g3
            · rename_i o9 ho9
              rw [Bool.and_eq_true, decide_eq_true_eq] at g3
              obtain ⟨ci9, fs9⟩ := o9
              obtain ⟨f1, f2⟩ := g3
              have f1 : ci9 = ci := Nat.eq_of_beq_eq_true f1
              have f2 : fs9 = fs0 := f2
              rw [ho9, f1, f2]
            · cases g3
          have hq := hKs _ (List.mem_of_getElem? e1)
          have hst : st.map (ct_v b x) = cond ar2 [.ref (ct_ax b x a)] [] ++ .ref (b + w.2.1) :: st9.map (ct_v b x) := by
            rw [a2, List.map_cons, ct_ref g1]
          show W p l e R s m args below meth c H locs n1 n2 Q (F0 m pc ls (st.map (ct_v b x)))
          rw [hst]
          have g6 := Nat.le_of_ble_eq_true g6
          have g7 := Nat.le_of_ble_eq_true g7
          exact ct_call hx hb rfl hls hts hTT hown hK hN hq (Nat.eq_of_beq_eq_true g2) g3 g4 a1 (nn_at_ok g10) (nn_at_ok g11) ⟨g12, g13⟩ g14 g15 (nn_at_ok g16) hlink ⟨Nat.le_trans g6 r2, Nat.le_trans g7 r3⟩ ⟨Nat.le_trans (Nat.le_of_ble_eq_true g8) r4, Nat.le_trans (Nat.le_of_ble_eq_true g9) r5⟩ (ct_st1_ok g5) hd hG kk
        · cases h
      · cases h
    · cases h
  | _ + 13 => intro h hd kk; cases h
end
/-! constructors: a body, and the contract out of it -/
section
variable {p : Program} {l : Launch} {e : Env} {R : Room} {s : State} {m : MethodId} {args : Array Value} {below : List Frame} {meth : Method} {c : Code} {Q : State → Prop} {cc : ByteArray} {ls : Array Slot}
variable {cy : Nat → ClassId} {D : va_G} {b x : Nat} {H0 : Heap} {Ts : List Jvm.Cond} {own : String} {ar : Bool} {K : List ct_KD} {F : List (List ct_V)} {d mc ms : Nat}
theorem ct_run_ok (E : ct_Ev p l s m args meth c cc R ls cy D b x own Ts ar K d mc ms) {Z : List ct_C} (hret : ∀ (pc : Nat) (H : Heap) (locs : List Loc), ct_G cy D b x H0 Z H locs → decode cc pc = .ok (.return_, 1) → W p l e R s m args below meth c H locs mc ms Q (F0 m pc ls [])) :
    ∀ (os : List ct_O) (pc : Nat) (S : ct_S), ct_run own ar K F d mc ms os S = some Z → ct_dec cc os pc = true → ∀ (H : Heap) (locs : List Loc), ct_G cy D b x H0 S.1 H locs → W p l e R s m args below meth c H locs S.2.2.1 S.2.2.2 Q (F0 m pc ls (S.2.1.map (ct_v b x))) := by
  intro os
  induction os with
  | nil => intro pc S h; cases h
  | cons o os ih =>
    intro pc S h hd H locs hG
    unfold ct_run at h
    unfold ct_dec at hd
    rw [Bool.and_eq_true, decide_eq_true_eq] at hd
    cases hc : o.1.beq 13 with
    | true =>
      rw [hc] at h
      obtain ⟨t, z, idx, L⟩ := o
      have ht : t = 13 := Nat.eq_of_beq_eq_true hc
      subst ht
      obtain ⟨X, st, n1, n2⟩ := S
      cases st with
      | cons v st => cases h
      | nil =>
        replace h : cond (n1.ble mc && n2.ble ms) (some X) none = some Z := h
        obtain ⟨h1, h2⟩ := ct_cs (r := none) h
        cases h2
        rw [Bool.and_eq_true] at h1
        exact W.widen (Nat.le_of_ble_eq_true h1.1) (Nat.le_of_ble_eq_true h1.2) (hret pc H locs hG hd.1)
    | false =>
      rw [hc] at h
      replace h : (match ct_step own ar K F d mc ms o S with | some S' => ct_run own ar K F d mc ms os S' | none => none) = some Z := h
      split at h
      · rename_i S9 hS9
        exact ct_step_ok E hS9 hd.1 hG (fun H1 locs1 hG1 => ih _ S9 h hd.2 H1 locs1 hG1)
      · cases h
end
def ct_eqc (a c : ct_C) : Bool := match a, c with
  | .inl o, .inl q => decide (o = q)
  | .inr o, .inr q => decide (o = q)
  | _, _ => false
theorem ct_eqc_ok {a c : ct_C} (h : ct_eqc a c = true) : a = c := by
  cases a with
  | inl o =>
    cases c with
    | inl q => exact congrArg Sum.inl (of_decide_eq_true (p := o = q) h)
    | inr q => cases h
  | inr o =>
    cases c with
    | inl q => cases h
    | inr q => exact congrArg Sum.inr (of_decide_eq_true (p := o = q) h)
def ct_eql : List ct_C → List ct_C → Bool
  | [], [] => true
  | a :: l, c :: r => ct_eqc a c && ct_eql l r
  | _, _ => false
theorem ct_eql_ok : ∀ {X Y : List ct_C}, ct_eql X Y = true → X = Y := by
  intro X
  induction X with
  | nil =>
    intro Y h
    cases Y with
    | nil => rfl
    | cons c r => cases h
  | cons a l ih =>
    intro Y h
    cases Y with
    | nil => cases h
    | cons c r =>
      unfold ct_eql at h
      rw [Bool.and_eq_true] at h
      rw [ct_eqc_ok h.1, ih h.2]
def ct_ck (K : List ct_KD) (F : List (List ct_V)) (y : MethodName) (bytes : ByteArray) (maxL ci : Nat) (fs0 : List ct_V) (ar : Bool) (d mc ms : Nat) (Z : List ct_C) (os : List ct_O) : Bool :=
  plainName y.cls && decide (y.name = "<init>") && (cond ar 2 1 : Nat).ble maxL && (1 : Nat).ble d && ct_dec bytes os 0 && (match ct_run y.cls ar K F d mc ms os ([.inl (ci, fs0)], [], 0, 0) with | some Y => ct_eql Y Z | none => false)
set_option maxHeartbeats 4000000 in
theorem ct_met {l : Launch} {cy : Nat → ClassId} {D : va_G} {K : List ct_KD} {F : List (List ct_V)} {y : MethodName} {bytes : ByteArray} {maxL ci : Nat} {fs0 : List ct_V} {ar : Bool} {d mc ms : Nat} {Z : List ct_C} {os : List ct_O}
    (hK : ∀ q ∈ K, ct_hold l cy D q.1 q.2.1 q.2.2.1 q.2.2.2.1 q.2.2.2.2.1 q.2.2.2.2.2.1 q.2.2.2.2.2.2.1 q.2.2.2.2.2.2.2.1 q.2.2.2.2.2.2.2.2.1 q.2.2.2.2.2.2.2.2.2) (h : ct_ck K F y bytes maxL ci fs0 ar d mc ms Z os = true) : ct_hold l cy D y bytes maxL ci fs0 ar d mc ms Z := by
  unfold ct_ck at h
  rw [Bool.and_eq_true, Bool.and_eq_true, Bool.and_eq_true, Bool.and_eq_true, Bool.and_eq_true, decide_eq_true_eq] at h
  obtain ⟨⟨⟨⟨⟨h1, h2⟩, h3⟩, h4⟩, h5⟩, h6⟩ := h
  have h6 : ct_run y.cls ar K F d mc ms os ([.inl (ci, fs0)], [], 0, 0) = some Z := by
    split at h6
    · rename_i Y hY
      rw [hY, ct_eql_ok h6]
    · cases h6
  have h3 := Nat.le_of_ble_eq_true h3
  have h4 := Nat.le_of_ble_eq_true h4
  intro b x
  refine Met.ofW (cc := bytes) (maxL := maxL) (ret := none) h1 rfl ?_
  intro p e s m args below meth c s₁ B hml hv
  obtain ⟨rfl, hsz, hP, hKK, hN⟩ := hv
  have hts := atoms_spec (ws := Jvm.Cond.code y bytes maxL none :: nn_TT) B.pre
  have hown := findClass_of_methodNamed B.named
  have hin : meth.name = "<init>" := by rw [← h2]; exact (name_of_methodNamed B.named B.method).1
  have hlen : (lg_sl (.ref b :: cond ar [.ref x] [])).length ≤ maxL := by
    cases ar with
    | true => exact h3
    | false => exact h3
  have hl := lv_entry (.ref b :: cond ar [.ref x] []) (n := maxL) hlen
  rw [lg_entry_eq]
  generalize (lg_sl (.ref b :: cond ar [.ref x] []) ++ List.replicate (maxL - (lg_sl (.ref b :: cond ar [.ref x] [])).length) Slot.unset).toArray = ls at hl ⊢
  have hl0 : ls[0]? = some (.val (.ref b)) := lv_at hl 0 rfl
  have hl1 : ar = true → ls[1]? = some (.val (.ref x)) := by
    intro har
    subst har
    exact lv_at hl 1 rfl
  have hE : ct_Ev p l s m (.ref b :: cond ar [.ref x] []).toArray meth c bytes (headSpec (Jvm.Cond.code y bytes maxL none :: nn_TT) (ct_room d mc ms)).room ls cy D b x y.cls (Jvm.Cond.code y bytes maxL none :: nn_TT) ar K d mc ms :=
    ⟨B.exec, B.bytes, by rw [hml]; exact hl.1, hown, hts, fun w hw => List.mem_cons_of_mem _ hw, hKK, hN, hin, hl0, hl1, ⟨h4, Nat.le_refl _, Nat.le_refl _, Nat.le_refl _, Nat.le_refl _⟩, hK⟩
  refine ct_run_ok (H0 := s.heap) hE (Z := Z) ?_ os 0 _ h6 h5 s.heap [] ⟨hP, hsz, va_S.rf⟩
  intro pc H locs hG hd
  exact W.vret B.exec B.bytes B.returns (fun t ht hW => ⟨⟨(), rfl, trivial, by rw [ht]; exact hG.1, by rw [ht]; exact hG.2.1⟩, hG.2.2.F ht⟩) hG.2.2.2.2 hd B.notSynchronized
end
