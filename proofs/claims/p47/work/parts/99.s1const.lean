/-! what the premises give of what never changes -/
def ls_wn : List String := ["TUNE", "CLUE", "PERSON", "KNOWS", "DARE", "FROM", "NAME", "OR", "AND", "NOT", "IN", "SURE", "LIKE", "NOTES", "HIGH", "LOW", "BEATS"]
def ls_co : List Int64 := [677317, 111269, 542723566, 12009203, 132677, 215533, 460197, 498, 1476, 14836, 302, 644677, 402789, 15192243, 271592, 12791, 2262675]
def ls_ni : List Int64 := [1, 9, 81, 729, 6561, 59049, 531441, 4782969, 43046721, 387420489]
def ls_sh : List Int32 := [2520, 1260, 840, 630, 504, 420, 360, 315, 280]
abbrev ls_w (i : Nat) : Term := .static "NameNotes$Word" (ls_wn.getD i "") "LNameNotes$Word;"
abbrev ls_G (args : Array Value) (s : State) : Prop := (Jvm.Cond.and given_1 narrow_1).before args s = true
theorem ls_strN : ∀ q ∈ nn_kd.2.2.1, Jvm.Cond.fieldLinkNest q.1 q.2.1 q.2.2.1 q.2.2.2.1 q.2.2.2.2.1 q.2.2.2.2.2 ∈ lw_tbl := by decide +kernel
theorem ls_words {args : Array Value} {s : State} (hg : ls_G args s) : ∃ wr : Nat → Nat, ∀ i : Nat, i < 17 → (ls_w i).eval args s none [] s = some (.ref (wr i)) := by
  have hs := flat_of_before _ hg
  have h0 : ∀ i : Nat, ∃ a : Nat, i < 17 → (ls_w i).eval args s none [] s = some (.ref a) := by
    intro i
    by_cases hi : i < 17
    · have he : (Cond.exactly (ls_w i) "NameNotes$Word").before args s = true := by
        match i, hi with
        | 0, _ => exact hs _ (by decide +kernel)
        | 1, _ => exact hs _ (by decide +kernel)
        | 2, _ => exact hs _ (by decide +kernel)
        | 3, _ => exact hs _ (by decide +kernel)
        | 4, _ => exact hs _ (by decide +kernel)
        | 5, _ => exact hs _ (by decide +kernel)
        | 6, _ => exact hs _ (by decide +kernel)
        | 7, _ => exact hs _ (by decide +kernel)
        | 8, _ => exact hs _ (by decide +kernel)
        | 9, _ => exact hs _ (by decide +kernel)
        | 10, _ => exact hs _ (by decide +kernel)
        | 11, _ => exact hs _ (by decide +kernel)
        | 12, _ => exact hs _ (by decide +kernel)
        | 13, _ => exact hs _ (by decide +kernel)
        | 14, _ => exact hs _ (by decide +kernel)
        | 15, _ => exact hs _ (by decide +kernel)
        | 16, _ => exact hs _ (by decide +kernel)
        | n + 17, h => exact absurd h (by omega)
      obtain ⟨a, c, cA, kA, q1, -⟩ := Cond.exactly_spec (args := args) (first := s) (o := none) (s := s) (idx := []) (t := ls_w i) (cls := "NameNotes$Word") he
      exact ⟨a, fun _ => q1⟩
    · exact ⟨0, fun h => absurd h hi⟩
  exact Classical.axiomOfChoice h0
theorem ls_code {args : Array Value} {s : State} (hg : ls_G args s) {wr : Nat → Nat} (hw : ∀ i : Nat, i < 17 → (ls_w i).eval args s none [] s = some (.ref (wr i))) {A : Nat → Prop} (hA : ∀ a : Nat, a < s.heap.size → ¬ A a) : ∀ i : Nat, i < 17 → ∃ v : Int64, va_OF "NameNotes$Word" "code" "J" (.long v) (wr i) A s s.heap := by
  have hs := flat_of_before _ hg
  intro i hi
  refine ⟨ls_co.getD i 0, vk_OFof (hw i hi) (va_eqtl (z := ls_co.getD i 0) ?_) hA⟩
  match i, hi with
    | 0, _ => exact hs _ (by decide +kernel)
    | 1, _ => exact hs _ (by decide +kernel)
    | 2, _ => exact hs _ (by decide +kernel)
    | 3, _ => exact hs _ (by decide +kernel)
    | 4, _ => exact hs _ (by decide +kernel)
    | 5, _ => exact hs _ (by decide +kernel)
    | 6, _ => exact hs _ (by decide +kernel)
    | 7, _ => exact hs _ (by decide +kernel)
    | 8, _ => exact hs _ (by decide +kernel)
    | 9, _ => exact hs _ (by decide +kernel)
    | 10, _ => exact hs _ (by decide +kernel)
    | 11, _ => exact hs _ (by decide +kernel)
    | 12, _ => exact hs _ (by decide +kernel)
    | 13, _ => exact hs _ (by decide +kernel)
    | 14, _ => exact hs _ (by decide +kernel)
    | 15, _ => exact hs _ (by decide +kernel)
    | 16, _ => exact hs _ (by decide +kernel)
    | n + 17, h => exact absurd h (by omega)
theorem ls_WORDS {args : Array Value} {s : State} (hg : ls_G args s) {wr : Nat → Nat} (hw : ∀ i : Nat, i < 17 → (ls_w i).eval args s none [] s = some (.ref (wr i))) {A : Nat → Prop} (hA : ∀ a : Nat, a < s.heap.size → ¬ A a) : ∃ q : Nat, (Term.static "NameNotes" "WORDS" "[LNameNotes$Word;").eval args s none [] s = some (.ref q) ∧ va_T (.object "NameNotes$Word") q 17 (fun j => .ref (wr j)) A s s.heap := by
  have hs := flat_of_before _ hg
  refine va_Tof (by decide) (hs _ (by decide +kernel)) (va_eqt (hs _ (by decide +kernel))) (fun j hj => ?_) hA
  refine va_eqv (u := ls_w j) ?_ (hw j hj)
  match j, hj with
    | 0, _ => exact hs _ (by decide +kernel)
    | 1, _ => exact hs _ (by decide +kernel)
    | 2, _ => exact hs _ (by decide +kernel)
    | 3, _ => exact hs _ (by decide +kernel)
    | 4, _ => exact hs _ (by decide +kernel)
    | 5, _ => exact hs _ (by decide +kernel)
    | 6, _ => exact hs _ (by decide +kernel)
    | 7, _ => exact hs _ (by decide +kernel)
    | 8, _ => exact hs _ (by decide +kernel)
    | 9, _ => exact hs _ (by decide +kernel)
    | 10, _ => exact hs _ (by decide +kernel)
    | 11, _ => exact hs _ (by decide +kernel)
    | 12, _ => exact hs _ (by decide +kernel)
    | 13, _ => exact hs _ (by decide +kernel)
    | 14, _ => exact hs _ (by decide +kernel)
    | 15, _ => exact hs _ (by decide +kernel)
    | 16, _ => exact hs _ (by decide +kernel)
    | n + 17, h => exact absurd h (by omega)
theorem ls_NINES {args : Array Value} {s : State} (hg : ls_G args s) {A : Nat → Prop} (hA : ∀ a : Nat, a < s.heap.size → ¬ A a) : ∃ q : Nat, (Term.static "NameNotes" "NINES" "[J").eval args s none [] s = some (.ref q) ∧ va_T .long q 10 (fun j => .long (ls_ni.getD j 0)) A s s.heap := by
  have hs := flat_of_before _ hg
  refine va_Tof (by decide) (hs _ (by decide +kernel)) (va_eqt (hs _ (by decide +kernel))) (fun j hj => ?_) hA
  refine va_eqtl ?_
  match j, hj with
    | 0, _ => exact hs _ (by decide +kernel)
    | 1, _ => exact hs _ (by decide +kernel)
    | 2, _ => exact hs _ (by decide +kernel)
    | 3, _ => exact hs _ (by decide +kernel)
    | 4, _ => exact hs _ (by decide +kernel)
    | 5, _ => exact hs _ (by decide +kernel)
    | 6, _ => exact hs _ (by decide +kernel)
    | 7, _ => exact hs _ (by decide +kernel)
    | 8, _ => exact hs _ (by decide +kernel)
    | 9, _ => exact hs _ (by decide +kernel)
theorem ls_SHARES {args : Array Value} {s : State} (hg : ls_G args s) {A : Nat → Prop} (hA : ∀ a : Nat, a < s.heap.size → ¬ A a) : ∃ q : Nat, (Term.static "NameNotes" "SHARES" "[I").eval args s none [] s = some (.ref q) ∧ va_T .int q 9 (fun j => .int (ls_sh.getD j 0)) A s s.heap := by
  have hs := flat_of_before _ hg
  refine va_Tof (by decide) (hs _ (by decide +kernel)) (va_eqt (hs _ (by decide +kernel))) (fun j hj => ?_) hA
  refine va_eqt ?_
  match j, hj with
    | 0, _ => exact hs _ (by decide +kernel)
    | 1, _ => exact hs _ (by decide +kernel)
    | 2, _ => exact hs _ (by decide +kernel)
    | 3, _ => exact hs _ (by decide +kernel)
    | 4, _ => exact hs _ (by decide +kernel)
    | 5, _ => exact hs _ (by decide +kernel)
    | 6, _ => exact hs _ (by decide +kernel)
    | 7, _ => exact hs _ (by decide +kernel)
    | 8, _ => exact hs _ (by decide +kernel)
theorem ls_str {args : Array Value} {s : State} {k : Nat} (h : (Cond.exactly (.string "NameNotes" k) "java/lang/String").before args s = true) : ∃ a : Nat, (Term.string "NameNotes" k).eval args s none [] s = some (.ref a) := by
  obtain ⟨a, c, cA, kA, q1, -⟩ := Cond.exactly_spec (args := args) (first := s) (o := none) (s := s) (idx := []) (t := .string "NameNotes" k) (cls := "java/lang/String") h
  exact ⟨a, q1⟩
def ls_tm (i : Nat) : Term := .string "NameNotes" (cond (i.beq 0) 284 309)
theorem ls_S {args : Array Value} {s : State} (hg : ls_G args s) {A : Nat → Prop} (hA : ∀ a : Nat, a < s.heap.size → ¬ A a) : ∃ adK adV : Nat → Nat, vk_S 2 [5, 5] [[99, 108, 117, 101, 32], [110, 97, 109, 101, 59]] adK adV A s s.heap ∧ ∀ i : Nat, i < 2 → (ls_tm i).eval args s none [] s = some (.ref (adK i)) := by
  have hs := flat_of_before _ hg
  refine vk_Sof (tm := ls_tm) (fun i hi => ?_) (fun i hi => ?_) (fun i hi => ?_) (fun i hi => ?_) (fun i hi => ?_) (fun i hi j hj => ?_) (fun i j hi hj hij => ?_) hA
  · match i, hi with
    | 0, _ => decide
    | 1, _ => decide
  · match i, hi with
    | 0, _ => exact hs _ (by decide +kernel)
    | 1, _ => exact hs _ (by decide +kernel)
  · match i, hi with
    | 0, _ => exact hs _ (by decide +kernel)
    | 1, _ => exact hs _ (by decide +kernel)
  · match i, hi with
    | 0, _ => exact hs _ (by decide +kernel)
    | 1, _ => exact hs _ (by decide +kernel)
  · match i, hi with
    | 0, _ => exact hs _ (by decide +kernel)
    | 1, _ => exact hs _ (by decide +kernel)
  · match i, hi with
    | 0, _ =>
      match j, hj with
      | 0, _ => exact hs _ (by decide +kernel)
      | 1, _ => exact hs _ (by decide +kernel)
      | 2, _ => exact hs _ (by decide +kernel)
      | 3, _ => exact hs _ (by decide +kernel)
      | 4, _ => exact hs _ (by decide +kernel)
    | 1, _ =>
      match j, hj with
      | 0, _ => exact hs _ (by decide +kernel)
      | 1, _ => exact hs _ (by decide +kernel)
      | 2, _ => exact hs _ (by decide +kernel)
      | 3, _ => exact hs _ (by decide +kernel)
      | 4, _ => exact hs _ (by decide +kernel)
  · match i, j, hi, hj with
    | 0, 0, _, _ => exact absurd rfl hij
    | 0, 1, _, _ => exact Or.inl (hs _ (by decide +kernel))
    | 1, 0, _, _ => exact Or.inr (hs _ (by decide +kernel))
    | 1, 1, _, _ => exact absurd rfl hij

set_option maxHeartbeats 4000000 in
theorem ls_all {args : Array Value} {s : State} (hts : ∀ w ∈ lw_tbl, w.before args s = true) (hg : ls_G args s) (b : Nat) : ∃ (wr cr av : Nat → Nat), cr 999 = b ∧ (∀ (cy : Nat → ClassId) (ad : Nat → Nat), ab_CB cy ad wr cr nn_kd (fun q : Nat => s.heap.size ≤ q) s) ∧ nt_Z cr av (fun q : Nat => s.heap.size ≤ q) s := by
  have hs := flat_of_before _ hg
  have hA : ∀ a : Nat, a < s.heap.size → ¬ (fun q : Nat => s.heap.size ≤ q) a := fun a ha h => Nat.not_le.mpr ha h
  obtain ⟨wr, hw⟩ := ls_words hg
  obtain ⟨q0, e0, T0⟩ := ls_WORDS hg hw hA
  obtain ⟨q1, e1, T1⟩ := ls_NINES hg hA
  obtain ⟨q2, e2, T2⟩ := ls_SHARES hg hA
  obtain ⟨adK, av, hV, hv⟩ := ls_S hg hA
  obtain ⟨q5, t5⟩ := ls_str (k := 213) (hs _ (by decide +kernel))
  obtain ⟨q6, t6⟩ := ls_str (k := 258) (hs _ (by decide +kernel))
  obtain ⟨q7, t7⟩ := ls_str (k := 394) (hs _ (by decide +kernel))
  refine ⟨wr, fun k => match k with | 0 => q0 | 1 => q1 | 2 => q2 | 3 => adK 0 | 4 => adK 1 | 5 => q5 | 6 => q6 | 7 => q7 | _ => b, av, rfl, fun cy ad => ⟨List.forall_mem_cons.mpr ⟨va_Zof (hts (.laysStatic "NameNotes" "WORDS" "[LNameNotes$Word;") (by decide +kernel)) (hts (.initialized "NameNotes") (by decide +kernel)) (e0) hA, List.forall_mem_cons.mpr ⟨va_Zof (hts (.laysStatic "NameNotes" "NINES" "[J") (by decide +kernel)) (hts (.initialized "NameNotes") (by decide +kernel)) (e1) hA, List.forall_mem_cons.mpr ⟨va_Zof (hts (.laysStatic "NameNotes" "SHARES" "[I") (by decide +kernel)) (hts (.initialized "NameNotes") (by decide +kernel)) (e2) hA, List.forall_mem_cons.mpr ⟨va_Zof (hts (.laysStatic "NameNotes$Word" "TUNE" "LNameNotes$Word;") (by decide +kernel)) (hts (.initialized "NameNotes$Word") (by decide +kernel)) (hw 0 (by decide)) hA, List.forall_mem_cons.mpr ⟨va_Zof (hts (.laysStatic "NameNotes$Word" "CLUE" "LNameNotes$Word;") (by decide +kernel)) (hts (.initialized "NameNotes$Word") (by decide +kernel)) (hw 1 (by decide)) hA, List.forall_mem_cons.mpr ⟨va_Zof (hts (.laysStatic "NameNotes$Word" "PERSON" "LNameNotes$Word;") (by decide +kernel)) (hts (.initialized "NameNotes$Word") (by decide +kernel)) (hw 2 (by decide)) hA, List.forall_mem_cons.mpr ⟨va_Zof (hts (.laysStatic "NameNotes$Word" "KNOWS" "LNameNotes$Word;") (by decide +kernel)) (hts (.initialized "NameNotes$Word") (by decide +kernel)) (hw 3 (by decide)) hA, List.forall_mem_cons.mpr ⟨va_Zof (hts (.laysStatic "NameNotes$Word" "DARE" "LNameNotes$Word;") (by decide +kernel)) (hts (.initialized "NameNotes$Word") (by decide +kernel)) (hw 4 (by decide)) hA, List.forall_mem_cons.mpr ⟨va_Zof (hts (.laysStatic "NameNotes$Word" "FROM" "LNameNotes$Word;") (by decide +kernel)) (hts (.initialized "NameNotes$Word") (by decide +kernel)) (hw 5 (by decide)) hA, List.forall_mem_cons.mpr ⟨va_Zof (hts (.laysStatic "NameNotes$Word" "NAME" "LNameNotes$Word;") (by decide +kernel)) (hts (.initialized "NameNotes$Word") (by decide +kernel)) (hw 6 (by decide)) hA, List.forall_mem_cons.mpr ⟨va_Zof (hts (.laysStatic "NameNotes$Word" "OR" "LNameNotes$Word;") (by decide +kernel)) (hts (.initialized "NameNotes$Word") (by decide +kernel)) (hw 7 (by decide)) hA, List.forall_mem_cons.mpr ⟨va_Zof (hts (.laysStatic "NameNotes$Word" "AND" "LNameNotes$Word;") (by decide +kernel)) (hts (.initialized "NameNotes$Word") (by decide +kernel)) (hw 8 (by decide)) hA, List.forall_mem_cons.mpr ⟨va_Zof (hts (.laysStatic "NameNotes$Word" "NOT" "LNameNotes$Word;") (by decide +kernel)) (hts (.initialized "NameNotes$Word") (by decide +kernel)) (hw 9 (by decide)) hA, List.forall_mem_cons.mpr ⟨va_Zof (hts (.laysStatic "NameNotes$Word" "IN" "LNameNotes$Word;") (by decide +kernel)) (hts (.initialized "NameNotes$Word") (by decide +kernel)) (hw 10 (by decide)) hA, List.forall_mem_cons.mpr ⟨va_Zof (hts (.laysStatic "NameNotes$Word" "SURE" "LNameNotes$Word;") (by decide +kernel)) (hts (.initialized "NameNotes$Word") (by decide +kernel)) (hw 11 (by decide)) hA, List.forall_mem_cons.mpr ⟨va_Zof (hts (.laysStatic "NameNotes$Word" "LIKE" "LNameNotes$Word;") (by decide +kernel)) (hts (.initialized "NameNotes$Word") (by decide +kernel)) (hw 12 (by decide)) hA, List.forall_mem_cons.mpr ⟨va_Zof (hts (.laysStatic "NameNotes$Word" "NOTES" "LNameNotes$Word;") (by decide +kernel)) (hts (.initialized "NameNotes$Word") (by decide +kernel)) (hw 13 (by decide)) hA, List.forall_mem_cons.mpr ⟨va_Zof (hts (.laysStatic "NameNotes$Word" "HIGH" "LNameNotes$Word;") (by decide +kernel)) (hts (.initialized "NameNotes$Word") (by decide +kernel)) (hw 14 (by decide)) hA, List.forall_mem_cons.mpr ⟨va_Zof (hts (.laysStatic "NameNotes$Word" "LOW" "LNameNotes$Word;") (by decide +kernel)) (hts (.initialized "NameNotes$Word") (by decide +kernel)) (hw 15 (by decide)) hA, List.forall_mem_cons.mpr ⟨va_Zof (hts (.laysStatic "NameNotes$Word" "BEATS" "LNameNotes$Word;") (by decide +kernel)) (hts (.initialized "NameNotes$Word") (by decide +kernel)) (hw 16 (by decide)) hA, fun _ h => absurd h List.not_mem_nil⟩⟩⟩⟩⟩⟩⟩⟩⟩⟩⟩⟩⟩⟩⟩⟩⟩⟩⟩⟩, ?_, ls_code hg hw hA, fun q hq => va_Nw.of rfl (hts _ (ls_strN q hq)), List.forall_mem_cons.mpr ⟨vk_R.of (hts (.stringRef "NameNotes" 284 "clue ") (by decide +kernel)) (hv 0 (by decide)), List.forall_mem_cons.mpr ⟨vk_R.of (hts (.stringRef "NameNotes" 309 "name;") (by decide +kernel)) (hv 1 (by decide)), List.forall_mem_cons.mpr ⟨vk_R.of (hts (.stringRef "NameNotes" 213 "no such ones") (by decide +kernel)) (t5), List.forall_mem_cons.mpr ⟨vk_R.of (hts (.stringRef "NameNotes" 258 "it can't be") (by decide +kernel)) (t6), List.forall_mem_cons.mpr ⟨vk_R.of (hts (.stringRef "NameNotes" 394 "nobody must name it") (by decide +kernel)) (t7), fun _ h => absurd h List.not_mem_nil⟩⟩⟩⟩⟩⟩, ⟨⟨⟨fun i hi => ?_, fun i j hi hj e => ?_⟩, va_Zof (hts (.laysStatic "java/lang/String" "COMPACT_STRINGS" "Z") (by decide +kernel)) (hts (.initialized "java/lang/String") (by decide +kernel)) (va_eqi (hs _ (by decide +kernel))) hA⟩, vx_Zqof (hts _ (by decide +kernel)) (hts _ (by decide +kernel)) (hs (Cond.isRef (.static "jdk/internal/util/Preconditions" "SIOOBE_FORMATTER" "Ljava/util/function/BiFunction;")) (by decide +kernel)) hA⟩⟩
  · intro k x hx
    match k, hx with
    | 0, hx => cases hx; exact T0
    | 1, hx => cases hx; exact ⟨_, T1⟩
    | 2, hx => cases hx; exact ⟨_, T2⟩
    | k + 3, hx => cases hx
  · match i, hi with
    | 0, _ => exact hV.1 0 (by decide)
    | 1, _ => exact hV.1 1 (by decide)
  · match i, j, hi, hj, e with
    | 0, 0, _, _, _ => rfl
    | 1, 1, _, _, _ => rfl
    | 0, 1, _, _, e => exact hV.2 0 1 (by decide) (by decide) e
    | 1, 0, _, _, e => exact hV.2 1 0 (by decide) (by decide) e
