/-! what never changes, as it is; both sides at the start -/
theorem ls_co_eq (i : Nat) (hi : i < 17) : Int64.ofInt (fw_wc i) = ls_co.getD i 0 := by
  have h : (List.range 17).all (fun i => decide (Int64.ofInt (fw_wc i) = ls_co.getD i 0)) = true := by decide +kernel
  exact of_decide_eq_true (List.all_eq_true.mp h i (List.mem_range.mpr hi))
theorem ls_codeX {args : Array Value} {s : State} (hg : ls_G args s) {wr : Nat → Nat} (hw : ∀ i : Nat, i < 17 → (ls_w i).eval args s none [] s = some (.ref (wr i))) {A : Nat → Prop} (hA : ∀ a : Nat, a < s.heap.size → ¬ A a) : ∀ i : Nat, i < 17 → va_OF "NameNotes$Word" "code" "J" (.long (Int64.ofInt (fw_wc i))) (wr i) A s s.heap := by
  have hs := flat_of_before _ hg
  intro i hi
  rw [show Int64.ofInt (fw_wc i) = ls_co.getD i 0 from ls_co_eq i hi]
  refine vk_OFof (hw i hi) (va_eqtl (z := ls_co.getD i 0) ?_) hA
  match i, hi with
    | 0, _ => exact hs _ (by decide +kernel)
    | 1, _ => exact hs _ (by decide +kernel)
    | 2, _ => exact hs _ (by decide +kernel)
    | 3, _ => exact hs _ (by decide +kernel)
    | 4, _ => exact hs _ (by decide +kernel)
    | 5, _ => exact hs _ (by decide +kernel)
    | 6, _ => exact hs _ (by decide +kernel)
    | 7, _ => exact hs _ (by decide +kernel)
    | 8, _ => exact hs _ (by decide +kernel)
    | 9, _ => exact hs _ (by decide +kernel)
    | 10, _ => exact hs _ (by decide +kernel)
    | 11, _ => exact hs _ (by decide +kernel)
    | 12, _ => exact hs _ (by decide +kernel)
    | 13, _ => exact hs _ (by decide +kernel)
    | 14, _ => exact hs _ (by decide +kernel)
    | 15, _ => exact hs _ (by decide +kernel)
    | 16, _ => exact hs _ (by decide +kernel)
    | n + 17, h => exact absurd h (by omega)
theorem ls_co_ne (i j : Nat) (hi : i < 17) (hj : j < 17) (h : Int64.ofInt (fw_wc i) = Int64.ofInt (fw_wc j)) : i = j := by
  have g : (List.range 17).all (fun i => (List.range 17).all (fun j => decide (Int64.ofInt (fw_wc i) = Int64.ofInt (fw_wc j) → i = j))) = true := by decide +kernel
  exact of_decide_eq_true (List.all_eq_true.mp (List.all_eq_true.mp g i (List.mem_range.mpr hi)) j (List.mem_range.mpr hj)) h
theorem of_one {o n d : String} {v v' : Value} {t : Nat} {A : Nat → Prop} {U : State} {H : Heap} (h : va_OF o n d v t A U H) (h' : va_OF o n d v' t A U H) : v = v' := by
  obtain ⟨cf, k, i, f, cell, a1, -, a3, -, a5, -⟩ := h
  obtain ⟨cf', k', i', f', cell', b1, -, b3, -, b5, -⟩ := h'
  have e1 := Option.some.inj (a1.symm.trans b1)
  have e2 : f = f' := congrArg (fun z => z.2.2.2) e1
  have e3 := Option.some.inj (a3.symm.trans b3)
  rw [e2, e3] at a5
  exact Option.some.inj (a5.symm.trans b5)
theorem ls_wr {s : State} {wr : Nat → Nat} {A : Nat → Prop} (h : ∀ i : Nat, i < 17 → va_OF "NameNotes$Word" "code" "J" (.long (Int64.ofInt (fw_wc i))) (wr i) A s s.heap) : ∀ i j : Nat, i < 17 → j < 17 → wr i = wr j → i = j := by
  intro i j hi hj e
  have h1 := h i hi
  rw [e] at h1
  have h2 := of_one h1 (h j hj)
  injection h2 with h2
  exact ls_co_ne i j hi hj h2
theorem ls_nineX {q : Nat} {A : Nat → Prop} {s : State} (h : va_T .long q 10 (fun j => .long (ls_ni.getD j 0)) A s s.heap) : va_T .long q 10 (fun j => .long (Int64.ofInt (fw_kv 1 j))) A s s.heap := by
  have e : (fun j : Nat => Value.long (ls_ni.getD j 0)) = (fun j : Nat => Value.long (Int64.ofInt (fw_kv 1 j))) := by
    funext j
    match j with
    | 0 | 1 | 2 | 3 | 4 | 5 | 6 | 7 | 8 | 9 => rfl
    | n + 10 => rfl
  rw [← e]
  exact h
theorem ls_shareX {q : Nat} {A : Nat → Prop} {s : State} (h : va_T .int q 9 (fun j => .int (ls_sh.getD j 0)) A s s.heap) : va_T .int q 9 (fun j => .int (Int32.ofInt (fw_kv 2 j))) A s s.heap := by
  have e : (fun j : Nat => Value.int (ls_sh.getD j 0)) = (fun j : Nat => Value.int (Int32.ofInt (fw_kv 2 j))) := by
    funext j
    match j with
    | 0 | 1 | 2 | 3 | 4 | 5 | 6 | 7 | 8 => rfl
    | n + 9 => rfl
  rw [← e]
  exact h
theorem ls_deep {args : Array Value} {s : State} (hts : ∀ w ∈ lw_tbl, w.before args s = true) (hg : ls_G args s) (b : Nat) : ∃ (wr cr av : Nat → Nat), cr 999 = b ∧ (∀ (cy : Nat → ClassId) (ad : Nat → Nat), fw_CB cy ad wr cr nn_kd fw_kv fw_wc (fun q : Nat => s.heap.size ≤ q) s) ∧ nt_Z cr av (fun q : Nat => s.heap.size ≤ q) s := by
  have hs := flat_of_before _ hg
  have hA : ∀ a : Nat, a < s.heap.size → ¬ (fun q : Nat => s.heap.size ≤ q) a := fun a ha h => Nat.not_le.mpr ha h
  obtain ⟨wr, hw⟩ := ls_words hg
  obtain ⟨q0, e0, T0⟩ := ls_WORDS hg hw hA
  obtain ⟨q1, e1, T1⟩ := ls_NINES hg hA
  obtain ⟨q2, e2, T2⟩ := ls_SHARES hg hA
  obtain ⟨adK, av, hV, hv⟩ := ls_S hg hA
  obtain ⟨q5, t5⟩ := ls_str (k := 213) (hs _ (by decide +kernel))
  obtain ⟨q6, t6⟩ := ls_str (k := 258) (hs _ (by decide +kernel))
  obtain ⟨q7, t7⟩ := ls_str (k := 394) (hs _ (by decide +kernel))
  refine ⟨wr, fun k => match k with | 0 => q0 | 1 => q1 | 2 => q2 | 3 => adK 0 | 4 => adK 1 | 5 => q5 | 6 => q6 | 7 => q7 | _ => b, av, rfl, fun cy ad => ⟨⟨List.forall_mem_cons.mpr ⟨va_Zof (hts (.laysStatic "NameNotes" "WORDS" "[LNameNotes$Word;") (by decide +kernel)) (hts (.initialized "NameNotes") (by decide +kernel)) (e0) hA, List.forall_mem_cons.mpr ⟨va_Zof (hts (.laysStatic "NameNotes" "NINES" "[J") (by decide +kernel)) (hts (.initialized "NameNotes") (by decide +kernel)) (e1) hA, List.forall_mem_cons.mpr ⟨va_Zof (hts (.laysStatic "NameNotes" "SHARES" "[I") (by decide +kernel)) (hts (.initialized "NameNotes") (by decide +kernel)) (e2) hA, List.forall_mem_cons.mpr ⟨va_Zof (hts (.laysStatic "NameNotes$Word" "TUNE" "LNameNotes$Word;") (by decide +kernel)) (hts (.initialized "NameNotes$Word") (by decide +kernel)) (hw 0 (by decide)) hA, List.forall_mem_cons.mpr ⟨va_Zof (hts (.laysStatic "NameNotes$Word" "CLUE" "LNameNotes$Word;") (by decide +kernel)) (hts (.initialized "NameNotes$Word") (by decide +kernel)) (hw 1 (by decide)) hA, List.forall_mem_cons.mpr ⟨va_Zof (hts (.laysStatic "NameNotes$Word" "PERSON" "LNameNotes$Word;") (by decide +kernel)) (hts (.initialized "NameNotes$Word") (by decide +kernel)) (hw 2 (by decide)) hA, List.forall_mem_cons.mpr ⟨va_Zof (hts (.laysStatic "NameNotes$Word" "KNOWS" "LNameNotes$Word;") (by decide +kernel)) (hts (.initialized "NameNotes$Word") (by decide +kernel)) (hw 3 (by decide)) hA, List.forall_mem_cons.mpr ⟨va_Zof (hts (.laysStatic "NameNotes$Word" "DARE" "LNameNotes$Word;") (by decide +kernel)) (hts (.initialized "NameNotes$Word") (by decide +kernel)) (hw 4 (by decide)) hA, List.forall_mem_cons.mpr ⟨va_Zof (hts (.laysStatic "NameNotes$Word" "FROM" "LNameNotes$Word;") (by decide +kernel)) (hts (.initialized "NameNotes$Word") (by decide +kernel)) (hw 5 (by decide)) hA, List.forall_mem_cons.mpr ⟨va_Zof (hts (.laysStatic "NameNotes$Word" "NAME" "LNameNotes$Word;") (by decide +kernel)) (hts (.initialized "NameNotes$Word") (by decide +kernel)) (hw 6 (by decide)) hA, List.forall_mem_cons.mpr ⟨va_Zof (hts (.laysStatic "NameNotes$Word" "OR" "LNameNotes$Word;") (by decide +kernel)) (hts (.initialized "NameNotes$Word") (by decide +kernel)) (hw 7 (by decide)) hA, List.forall_mem_cons.mpr ⟨va_Zof (hts (.laysStatic "NameNotes$Word" "AND" "LNameNotes$Word;") (by decide +kernel)) (hts (.initialized "NameNotes$Word") (by decide +kernel)) (hw 8 (by decide)) hA, List.forall_mem_cons.mpr ⟨va_Zof (hts (.laysStatic "NameNotes$Word" "NOT" "LNameNotes$Word;") (by decide +kernel)) (hts (.initialized "NameNotes$Word") (by decide +kernel)) (hw 9 (by decide)) hA, List.forall_mem_cons.mpr ⟨va_Zof (hts (.laysStatic "NameNotes$Word" "IN" "LNameNotes$Word;") (by decide +kernel)) (hts (.initialized "NameNotes$Word") (by decide +kernel)) (hw 10 (by decide)) hA, List.forall_mem_cons.mpr ⟨va_Zof (hts (.laysStatic "NameNotes$Word" "SURE" "LNameNotes$Word;") (by decide +kernel)) (hts (.initialized "NameNotes$Word") (by decide +kernel)) (hw 11 (by decide)) hA, List.forall_mem_cons.mpr ⟨va_Zof (hts (.laysStatic "NameNotes$Word" "LIKE" "LNameNotes$Word;") (by decide +kernel)) (hts (.initialized "NameNotes$Word") (by decide +kernel)) (hw 12 (by decide)) hA, List.forall_mem_cons.mpr ⟨va_Zof (hts (.laysStatic "NameNotes$Word" "NOTES" "LNameNotes$Word;") (by decide +kernel)) (hts (.initialized "NameNotes$Word") (by decide +kernel)) (hw 13 (by decide)) hA, List.forall_mem_cons.mpr ⟨va_Zof (hts (.laysStatic "NameNotes$Word" "HIGH" "LNameNotes$Word;") (by decide +kernel)) (hts (.initialized "NameNotes$Word") (by decide +kernel)) (hw 14 (by decide)) hA, List.forall_mem_cons.mpr ⟨va_Zof (hts (.laysStatic "NameNotes$Word" "LOW" "LNameNotes$Word;") (by decide +kernel)) (hts (.initialized "NameNotes$Word") (by decide +kernel)) (hw 15 (by decide)) hA, List.forall_mem_cons.mpr ⟨va_Zof (hts (.laysStatic "NameNotes$Word" "BEATS" "LNameNotes$Word;") (by decide +kernel)) (hts (.initialized "NameNotes$Word") (by decide +kernel)) (hw 16 (by decide)) hA, fun _ h => absurd h List.not_mem_nil⟩⟩⟩⟩⟩⟩⟩⟩⟩⟩⟩⟩⟩⟩⟩⟩⟩⟩⟩⟩, ?_, ls_code hg hw hA, fun q hq => va_Nw.of rfl (hts _ (ls_strN q hq)), List.forall_mem_cons.mpr ⟨vk_R.of (hts (.stringRef "NameNotes" 284 "clue ") (by decide +kernel)) (hv 0 (by decide)), List.forall_mem_cons.mpr ⟨vk_R.of (hts (.stringRef "NameNotes" 309 "name;") (by decide +kernel)) (hv 1 (by decide)), List.forall_mem_cons.mpr ⟨vk_R.of (hts (.stringRef "NameNotes" 213 "no such ones") (by decide +kernel)) (t5), List.forall_mem_cons.mpr ⟨vk_R.of (hts (.stringRef "NameNotes" 258 "it can't be") (by decide +kernel)) (t6), List.forall_mem_cons.mpr ⟨vk_R.of (hts (.stringRef "NameNotes" 394 "nobody must name it") (by decide +kernel)) (t7), fun _ h => absurd h List.not_mem_nil⟩⟩⟩⟩⟩⟩, ?_, ls_codeX hg hw hA, ls_wr (ls_codeX hg hw hA)⟩, ⟨⟨⟨fun i hi => ?_, fun i j hi hj e => ?_⟩, va_Zof (hts (.laysStatic "java/lang/String" "COMPACT_STRINGS" "Z") (by decide +kernel)) (hts (.initialized "java/lang/String") (by decide +kernel)) (va_eqi (hs _ (by decide +kernel))) hA⟩, vx_Zqof (hts _ (by decide +kernel)) (hts _ (by decide +kernel)) (hs (Cond.isRef (.static "jdk/internal/util/Preconditions" "SIOOBE_FORMATTER" "Ljava/util/function/BiFunction;")) (by decide +kernel)) hA⟩⟩
  · intro k x hx
    match k, hx with
    | 0, hx => cases hx; exact T0
    | 1, hx => cases hx; exact ⟨_, T1⟩
    | 2, hx => cases hx; exact ⟨_, T2⟩
    | k + 3, hx => cases hx
  · intro k x hx
    match k, hx with
    | 0, hx => cases hx; trivial
    | 1, hx => cases hx; exact ls_nineX T1
    | 2, hx => cases hx; exact ls_shareX T2
    | k + 3, hx => cases hx
  · match i, hi with
    | 0, _ => exact hV.1 0 (by decide)
    | 1, _ => exact hV.1 1 (by decide)
  · match i, j, hi, hj, e with
    | 0, 0, _, _, _ => rfl
    | 1, 1, _, _, _ => rfl
    | 0, 1, _, _, e => exact hV.2 0 1 (by decide) (by decide) e
    | 1, 0, _, _, e => exact hV.2 1 0 (by decide) (by decide) e
