/-! what the premises give of what never changes -/
def ls_wn : List String := ["TUNE", "CLUE", "PERSON", "KNOWS", "DARE", "FROM", "NAME", "OR", "AND", "NOT", "IN", "SURE", "LIKE", "NOTES", "HIGH", "LOW", "BEATS"]
def ls_co : List Int64 := [677317, 111269, 542723566, 12009203, 132677, 215533, 460197, 498, 1476, 14836, 302, 644677, 402789, 15192243, 271592, 12791, 2262675]
def ls_ni : List Int64 := [1, 9, 81, 729, 6561, 59049, 531441, 4782969, 43046721, 387420489]
def ls_sh : List Int32 := [2520, 1260, 840, 630, 504, 420, 360, 315, 280]
abbrev ls_w (i : Nat) : Term := .static "NameNotes$Word" (ls_wn.getD i "") "LNameNotes$Word;"
abbrev ls_G (args : Array Value) (s : State) : Prop := (Jvm.Cond.and given_1 narrow_1).before args s = true
theorem ls_strN : ∀ q ∈ nn_kd.2.2.1, Jvm.Cond.fieldLinkNest q.1 q.2.1 q.2.2.1 q.2.2.2.1 q.2.2.2.2.1 q.2.2.2.2.2 ∈ lw_tbl := by decide +kernel
theorem ls_words {args : Array Value} {s : State} (hg : ls_G args s) : ∃ wr : Nat → Nat, ∀ i : Nat, i < 17 → (ls_w i).eval args s none [] s = some (.ref (wr i)) := by
  have hs := flat_of_before _ hg
  have h0 : ∀ i : Nat, ∃ a : Nat, i < 17 → (ls_w i).eval args s none [] s = some (.ref a) := by
    intro i
    by_cases hi : i < 17
    · have he : (Cond.exactly (ls_w i) "NameNotes$Word").before args s = true := by
        match i, hi with
        | 0, _ => exact hs _ (List.mem_of_getElem? (i := 26) (by decide +kernel))
        | 1, _ => exact hs _ (List.mem_of_getElem? (i := 29) (by decide +kernel))
        | 2, _ => exact hs _ (List.mem_of_getElem? (i := 33) (by decide +kernel))
        | 3, _ => exact hs _ (List.mem_of_getElem? (i := 38) (by decide +kernel))
        | 4, _ => exact hs _ (List.mem_of_getElem? (i := 44) (by decide +kernel))
        | 5, _ => exact hs _ (List.mem_of_getElem? (i := 51) (by decide +kernel))
        | 6, _ => exact hs _ (List.mem_of_getElem? (i := 89) (by decide +kernel))
        | 7, _ => exact hs _ (List.mem_of_getElem? (i := 224) (by decide +kernel))
        | 8, _ => exact hs _ (List.mem_of_getElem? (i := 206) (by decide +kernel))
        | 9, _ => exact hs _ (List.mem_of_getElem? (i := 98) (by decide +kernel))
        | 10, _ => exact hs _ (List.mem_of_getElem? (i := 108) (by decide +kernel))
        | 11, _ => exact hs _ (List.mem_of_getElem? (i := 119) (by decide +kernel))
        | 12, _ => exact hs _ (List.mem_of_getElem? (i := 131) (by decide +kernel))
        | 13, _ => exact hs _ (List.mem_of_getElem? (i := 144) (by decide +kernel))
        | 14, _ => exact hs _ (List.mem_of_getElem? (i := 158) (by decide +kernel))
        | 15, _ => exact hs _ (List.mem_of_getElem? (i := 173) (by decide +kernel))
        | 16, _ => exact hs _ (List.mem_of_getElem? (i := 189) (by decide +kernel))
        | n + 17, h => exact absurd h (by omega)
      obtain ⟨a, c, cA, kA, q1, -⟩ := Cond.exactly_spec (args := args) (first := s) (o := none) (s := s) (idx := []) (t := ls_w i) (cls := "NameNotes$Word") he
      exact ⟨a, fun _ => q1⟩
    · exact ⟨0, fun h => absurd h hi⟩
  exact Classical.axiomOfChoice h0
theorem ls_code {args : Array Value} {s : State} (hg : ls_G args s) {wr : Nat → Nat} (hw : ∀ i : Nat, i < 17 → (ls_w i).eval args s none [] s = some (.ref (wr i))) {A : Nat → Prop} (hA : ∀ a : Nat, a < s.heap.size → ¬ A a) : ∀ i : Nat, i < 17 → ∃ v : Int64, va_OF "NameNotes$Word" "code" "J" (.long v) (wr i) A s s.heap := by
  have hs := flat_of_before _ hg
  intro i hi
  refine ⟨ls_co.getD i 0, vk_OFof (hw i hi) (va_eqtl (z := ls_co.getD i 0) ?_) hA⟩
  match i, hi with
    | 0, _ => exact hs _ (List.mem_of_getElem? (i := 28) (by decide +kernel))
    | 1, _ => exact hs _ (List.mem_of_getElem? (i := 31) (by decide +kernel))
    | 2, _ => exact hs _ (List.mem_of_getElem? (i := 35) (by decide +kernel))
    | 3, _ => exact hs _ (List.mem_of_getElem? (i := 40) (by decide +kernel))
    | 4, _ => exact hs _ (List.mem_of_getElem? (i := 46) (by decide +kernel))
    | 5, _ => exact hs _ (List.mem_of_getElem? (i := 53) (by decide +kernel))
    | 6, _ => exact hs _ (List.mem_of_getElem? (i := 91) (by decide +kernel))
    | 7, _ => exact hs _ (List.mem_of_getElem? (i := 226) (by decide +kernel))
    | 8, _ => exact hs _ (List.mem_of_getElem? (i := 208) (by decide +kernel))
    | 9, _ => exact hs _ (List.mem_of_getElem? (i := 100) (by decide +kernel))
    | 10, _ => exact hs _ (List.mem_of_getElem? (i := 110) (by decide +kernel))
    | 11, _ => exact hs _ (List.mem_of_getElem? (i := 121) (by decide +kernel))
    | 12, _ => exact hs _ (List.mem_of_getElem? (i := 133) (by decide +kernel))
    | 13, _ => exact hs _ (List.mem_of_getElem? (i := 146) (by decide +kernel))
    | 14, _ => exact hs _ (List.mem_of_getElem? (i := 160) (by decide +kernel))
    | 15, _ => exact hs _ (List.mem_of_getElem? (i := 175) (by decide +kernel))
    | 16, _ => exact hs _ (List.mem_of_getElem? (i := 191) (by decide +kernel))
    | n + 17, h => exact absurd h (by omega)
theorem ls_WORDS {args : Array Value} {s : State} (hg : ls_G args s) {wr : Nat → Nat} (hw : ∀ i : Nat, i < 17 → (ls_w i).eval args s none [] s = some (.ref (wr i))) {A : Nat → Prop} (hA : ∀ a : Nat, a < s.heap.size → ¬ A a) : ∃ q : Nat, (Term.static "NameNotes" "WORDS" "[LNameNotes$Word;").eval args s none [] s = some (.ref q) ∧ va_T (.object "NameNotes$Word") q 17 (fun j => .ref (wr j)) A s s.heap := by
  have hs := flat_of_before _ hg
  refine va_Tof (by decide) (hs _ (List.mem_of_getElem? (i := 6) (by decide +kernel))) (va_eqt (hs _ (List.mem_of_getElem? (i := 7) (by decide +kernel)))) (fun j hj => ?_) hA
  refine va_eqv (u := ls_w j) ?_ (hw j hj)
  match j, hj with
    | 0, _ => exact hs _ (List.mem_of_getElem? (i := 9) (by decide +kernel))
    | 1, _ => exact hs _ (List.mem_of_getElem? (i := 10) (by decide +kernel))
    | 2, _ => exact hs _ (List.mem_of_getElem? (i := 11) (by decide +kernel))
    | 3, _ => exact hs _ (List.mem_of_getElem? (i := 12) (by decide +kernel))
    | 4, _ => exact hs _ (List.mem_of_getElem? (i := 13) (by decide +kernel))
    | 5, _ => exact hs _ (List.mem_of_getElem? (i := 14) (by decide +kernel))
    | 6, _ => exact hs _ (List.mem_of_getElem? (i := 15) (by decide +kernel))
    | 7, _ => exact hs _ (List.mem_of_getElem? (i := 16) (by decide +kernel))
    | 8, _ => exact hs _ (List.mem_of_getElem? (i := 17) (by decide +kernel))
    | 9, _ => exact hs _ (List.mem_of_getElem? (i := 18) (by decide +kernel))
    | 10, _ => exact hs _ (List.mem_of_getElem? (i := 19) (by decide +kernel))
    | 11, _ => exact hs _ (List.mem_of_getElem? (i := 20) (by decide +kernel))
    | 12, _ => exact hs _ (List.mem_of_getElem? (i := 21) (by decide +kernel))
    | 13, _ => exact hs _ (List.mem_of_getElem? (i := 22) (by decide +kernel))
    | 14, _ => exact hs _ (List.mem_of_getElem? (i := 23) (by decide +kernel))
    | 15, _ => exact hs _ (List.mem_of_getElem? (i := 24) (by decide +kernel))
    | 16, _ => exact hs _ (List.mem_of_getElem? (i := 25) (by decide +kernel))
    | n + 17, h => exact absurd h (by omega)
theorem ls_NINES {args : Array Value} {s : State} (hg : ls_G args s) {A : Nat → Prop} (hA : ∀ a : Nat, a < s.heap.size → ¬ A a) : ∃ q : Nat, (Term.static "NameNotes" "NINES" "[J").eval args s none [] s = some (.ref q) ∧ va_T .long q 10 (fun j => .long (ls_ni.getD j 0)) A s s.heap := by
  have hs := flat_of_before _ hg
  refine va_Tof (by decide) (hs _ (List.mem_of_getElem? (i := 60) (by decide +kernel))) (va_eqt (hs _ (List.mem_of_getElem? (i := 61) (by decide +kernel)))) (fun j hj => ?_) hA
  refine va_eqtl ?_
  match j, hj with
    | 0, _ => exact hs _ (List.mem_of_getElem? (i := 62) (by decide +kernel))
    | 1, _ => exact hs _ (List.mem_of_getElem? (i := 63) (by decide +kernel))
    | 2, _ => exact hs _ (List.mem_of_getElem? (i := 64) (by decide +kernel))
    | 3, _ => exact hs _ (List.mem_of_getElem? (i := 65) (by decide +kernel))
    | 4, _ => exact hs _ (List.mem_of_getElem? (i := 66) (by decide +kernel))
    | 5, _ => exact hs _ (List.mem_of_getElem? (i := 67) (by decide +kernel))
    | 6, _ => exact hs _ (List.mem_of_getElem? (i := 68) (by decide +kernel))
    | 7, _ => exact hs _ (List.mem_of_getElem? (i := 69) (by decide +kernel))
    | 8, _ => exact hs _ (List.mem_of_getElem? (i := 70) (by decide +kernel))
    | 9, _ => exact hs _ (List.mem_of_getElem? (i := 71) (by decide +kernel))
theorem ls_SHARES {args : Array Value} {s : State} (hg : ls_G args s) {A : Nat → Prop} (hA : ∀ a : Nat, a < s.heap.size → ¬ A a) : ∃ q : Nat, (Term.static "NameNotes" "SHARES" "[I").eval args s none [] s = some (.ref q) ∧ va_T .int q 9 (fun j => .int (ls_sh.getD j 0)) A s s.heap := by
  have hs := flat_of_before _ hg
  refine va_Tof (by decide) (hs _ (List.mem_of_getElem? (i := 73) (by decide +kernel))) (va_eqt (hs _ (List.mem_of_getElem? (i := 74) (by decide +kernel)))) (fun j hj => ?_) hA
  refine va_eqt ?_
  match j, hj with
    | 0, _ => exact hs _ (List.mem_of_getElem? (i := 75) (by decide +kernel))
    | 1, _ => exact hs _ (List.mem_of_getElem? (i := 76) (by decide +kernel))
    | 2, _ => exact hs _ (List.mem_of_getElem? (i := 77) (by decide +kernel))
    | 3, _ => exact hs _ (List.mem_of_getElem? (i := 78) (by decide +kernel))
    | 4, _ => exact hs _ (List.mem_of_getElem? (i := 79) (by decide +kernel))
    | 5, _ => exact hs _ (List.mem_of_getElem? (i := 80) (by decide +kernel))
    | 6, _ => exact hs _ (List.mem_of_getElem? (i := 81) (by decide +kernel))
    | 7, _ => exact hs _ (List.mem_of_getElem? (i := 82) (by decide +kernel))
    | 8, _ => exact hs _ (List.mem_of_getElem? (i := 83) (by decide +kernel))
theorem ls_str {args : Array Value} {s : State} {k : Nat} (h : (Cond.exactly (.string "NameNotes" k) "java/lang/String").before args s = true) : ∃ a : Nat, (Term.string "NameNotes" k).eval args s none [] s = some (.ref a) := by
  obtain ⟨a, c, cA, kA, q1, -⟩ := Cond.exactly_spec (args := args) (first := s) (o := none) (s := s) (idx := []) (t := .string "NameNotes" k) (cls := "java/lang/String") h
  exact ⟨a, q1⟩
def ls_tm (i : Nat) : Term := .string "NameNotes" (cond (i.beq 0) 284 309)
theorem ls_S {args : Array Value} {s : State} (hg : ls_G args s) {A : Nat → Prop} (hA : ∀ a : Nat, a < s.heap.size → ¬ A a) : ∃ adK adV : Nat → Nat, vk_S 2 [5, 5] [[99, 108, 117, 101, 32], [110, 97, 109, 101, 59]] adK adV A s s.heap ∧ ∀ i : Nat, i < 2 → (ls_tm i).eval args s none [] s = some (.ref (adK i)) := by
  have hs := flat_of_before _ hg
  refine vk_Sof (tm := ls_tm) (fun i hi => ?_) (fun i hi => ?_) (fun i hi => ?_) (fun i hi => ?_) (fun i hi => ?_) (fun i hi j hj => ?_) (fun i j hi hj hij => ?_) hA
  · match i, hi with
    | 0, _ => decide
    | 1, _ => decide
  · match i, hi with
    | 0, _ => exact hs _ (List.mem_of_getElem? (i := 258) (by decide +kernel))
    | 1, _ => exact hs _ (List.mem_of_getElem? (i := 267) (by decide +kernel))
  · match i, hi with
    | 0, _ => exact hs _ (List.mem_of_getElem? (i := 259) (by decide +kernel))
    | 1, _ => exact hs _ (List.mem_of_getElem? (i := 268) (by decide +kernel))
  · match i, hi with
    | 0, _ => exact hs _ (List.mem_of_getElem? (i := 260) (by decide +kernel))
    | 1, _ => exact hs _ (List.mem_of_getElem? (i := 269) (by decide +kernel))
  · match i, hi with
    | 0, _ => exact hs _ (List.mem_of_getElem? (i := 261) (by decide +kernel))
    | 1, _ => exact hs _ (List.mem_of_getElem? (i := 270) (by decide +kernel))
  · match i, hi with
    | 0, _ =>
      match j, hj with
      | 0, _ => exact hs _ (List.mem_of_getElem? (i := 262) (by decide +kernel))
      | 1, _ => exact hs _ (List.mem_of_getElem? (i := 263) (by decide +kernel))
      | 2, _ => exact hs _ (List.mem_of_getElem? (i := 264) (by decide +kernel))
      | 3, _ => exact hs _ (List.mem_of_getElem? (i := 265) (by decide +kernel))
      | 4, _ => exact hs _ (List.mem_of_getElem? (i := 266) (by decide +kernel))
    | 1, _ =>
      match j, hj with
      | 0, _ => exact hs _ (List.mem_of_getElem? (i := 271) (by decide +kernel))
      | 1, _ => exact hs _ (List.mem_of_getElem? (i := 272) (by decide +kernel))
      | 2, _ => exact hs _ (List.mem_of_getElem? (i := 273) (by decide +kernel))
      | 3, _ => exact hs _ (List.mem_of_getElem? (i := 274) (by decide +kernel))
      | 4, _ => exact hs _ (List.mem_of_getElem? (i := 275) (by decide +kernel))
  · match i, j, hi, hj with
    | 0, 0, _, _ => exact absurd rfl hij
    | 0, 1, _, _ => exact Or.inl (hs _ (List.mem_of_getElem? (i := 276) (by decide +kernel)))
    | 1, 0, _, _ => exact Or.inr (hs _ (List.mem_of_getElem? (i := 276) (by decide +kernel)))
    | 1, 1, _, _ => exact absurd rfl hij
