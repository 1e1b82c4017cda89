/-! branches over known numbers -/
def fw_if (b : Bool) (P : Prop) : Prop := match b with
  | true => P
  | false => False
theorem fw_if_ok {b : Bool} {P : Prop} (h : fw_if b P) : b = true ∧ P := by
  cases b with
  | true => exact ⟨rfl, h⟩
  | false => exact h.elim
abbrev fw_KB : Type := Nat → List ab_AV → Prop
def fw_two (r : Nat) (x y : Int) (A B : Prop) : Prop := (ab_rel r x y → A) ∧ (ab_rel (ab_neg r) x y → B)
def fw_to (pc : Nat) (o : Int) (A : Nat → Prop) : Prop := match ab_tg pc o with
  | some n => A n
  | none => False
theorem fw_to_ok {pc : Nat} {o : Int} {A : Nat → Prop} (h : fw_to pc o A) : ∃ n : Nat, (pc : Int) + o = (n : Int) ∧ A n := by
  unfold fw_to at h
  split at h
  · rename_i n hn
    exact ⟨n, ab_tg_ok hn, h⟩
  · exact h.elim
def fw_tab (pc : Nat) (S : List ab_AV) (K : fw_KB) (x : Int) : List Int → Int → Prop
  | [], _ => True
  | o :: os, k => fw_to pc o (fun n => x = k → K n S) ∧ fw_tab pc S K x os (k + 1)
theorem fw_tab_ok {pc : Nat} {S : List ab_AV} {K : fw_KB} {x : Int} : ∀ (os : List Int) (k : Int), fw_tab pc S K x os k → ∀ (j : Nat) (o : Int), os[j]? = some o → x = k + j → ∃ n : Nat, (pc : Int) + o = (n : Int) ∧ K n S := by
  intro os
  induction os with
  | nil => intro k _ j o ho; simp at ho
  | cons o1 os ih =>
    intro k h j o ho he
    obtain ⟨h1, h2⟩ := h
    cases j with
    | zero =>
      rw [List.getElem?_cons_zero] at ho
      cases ho
      obtain ⟨n, e, hk⟩ := fw_to_ok h1
      exact ⟨n, e, hk (by omega)⟩
    | succ j =>
      rw [List.getElem?_cons_succ] at ho
      exact ih (k + 1) h2 j o ho (by omega)
def fw_lus (pc : Nat) (S : List ab_AV) (K : fw_KB) (x d : Int) : List (Int × Int) → Prop
  | [] => fw_to pc d (fun n => K n S)
  | q :: r => fw_to pc q.2 (fun n => q.1 = x → K n S) ∧ (q.1 ≠ x → fw_lus pc S K x d r)
theorem fw_lus_ok {pc : Nat} {S : List ab_AV} {K : fw_KB} {x d : Int} : ∀ (ps : List (Int × Int)), fw_lus pc S K x d ps → ∃ n : Nat, (pc : Int) + Op.lookupswitch.offset ps d x = (n : Int) ∧ K n S := by
  intro ps
  induction ps with
  | nil =>
    intro h
    have h0 := fw_to_ok h
    clear h
    obtain ⟨n, e, hk⟩ := h0
    exact ⟨n, e, hk⟩
  | cons q ps ih =>
    intro h
    obtain ⟨a, o⟩ := q
    obtain ⟨h1, h2⟩ := h
    rw [Op.lookupswitch.offset_cons]
    by_cases e : a = x
    · rw [if_pos e]
      obtain ⟨n, e1, hk⟩ := fw_to_ok h1
      exact ⟨n, e1, hk e⟩
    · rw [if_neg e]
      exact ih (h2 e)
def fw_br (pc : Nat) (i : Instr) (len : Nat) (nx : Option (Instr × Nat)) (S : List ab_AV) (K : fw_KB) : Prop := match i with
  | .goto o => fw_to pc o (fun n => fw_if (len.beq 3) (K n S))
  | .lcmp => match S, nx with
    | (1, _, d) :: (1, _, c) :: S, some (j, 3) => match ab_iz j with
      | some (r, o) => fw_to (pc + 1) o (fun n => fw_if (len.beq 1) (fw_two r (fw_d c) (fw_d d) (K n S) (K (pc + 1 + 3) S)))
      | none => False
    | _, _ => False
  | .ifnull o => match S with
    | a :: S => fw_to pc o (fun n => fw_if (len.beq 3) (match a.1 with
        | 2 => K (pc + 3) S
        | 3 => K n S
        | 4 => fw_two 2 a.2.2 0 (K n S) (K (pc + 3) S)
        | 5 => K (pc + 3) S
        | _ => False))
    | _ => False
  | .ifnonnull o => match S with
    | a :: S => fw_to pc o (fun n => fw_if (len.beq 3) (match a.1 with
        | 2 => K n S
        | 3 => K (pc + 3) S
        | 4 => fw_two 3 a.2.2 0 (K n S) (K (pc + 3) S)
        | 5 => K n S
        | _ => False))
    | _ => False
  | .if_acmp cd o => match S with
    | (4, _, d) :: (4, _, c) :: S => fw_to pc o (fun n => fw_if (len.beq 3) ((-1 ≤ c ∧ c ≤ 16 ∧ -1 ≤ d ∧ d ≤ 16) ∧ (match cd with
        | .eq => fw_two 0 c d (K n S) (K (pc + 3) S)
        | .ne => fw_two 1 c d (K n S) (K (pc + 3) S))))
    | _ => False
  | .tableswitch dflt lo hi offs => match S with
    | (0, _, c) :: S => fw_if (ab_le (hi - lo + 1) (offs.size : Int) && ab_le (offs.size : Int) (hi - lo + 1)) (fw_to pc dflt (fun n => (fw_c c < lo → K n S) ∧ (hi < fw_c c → K n S)) ∧ fw_tab pc S K (fw_c c) offs.toList lo)
    | _ => False
  | .lookupswitch dflt ps => match S with
    | (0, _, c) :: S => fw_if ((ps.toList.zip (ps.toList.drop 1)).all (fun (a, next) => a.1 < next.1)) (fw_lus pc S K (fw_c c) dflt ps.toList)
    | _ => False
  | i => match ab_ic i, S with
    | some (r, o), (0, _, d) :: (0, _, c) :: S => fw_to pc o (fun n => fw_if (len.beq 3) (fw_two r (fw_c c) (fw_c d) (K n S) (K (pc + 3) S)))
    | _, _ => match ab_iz i, S with
      | some (r, o), (0, _, c) :: S => fw_to pc o (fun n => fw_if (len.beq 3) (fw_two r (fw_c c) 0 (K n S) (K (pc + 3) S)))
      | _, _ => False
def fw_wo (wr : Nat → Nat) (c : Int) : Option Nat := match c with
  | .ofNat i => some (wr i)
  | .negSucc _ => none
theorem fw_wv (wr : Nat → Nat) (c : Int) : ab_wv wr c = va_rf (fw_wo wr c) := by
  cases c <;> rfl
theorem fw_wo_inj {wr : Nat → Nat} (hw : ∀ i j, i < 17 → j < 17 → wr i = wr j → i = j) {c d : Int} (h1 : -1 ≤ c) (h2 : c ≤ 16) (h3 : -1 ≤ d) (h4 : d ≤ 16) (h : fw_wo wr c = fw_wo wr d) : c = d := by
  cases c with
  | ofNat i =>
    cases d with
    | ofNat j =>
      have h2 : (i : Int) ≤ 16 := h2
      have h4 : (j : Int) ≤ 16 := h4
      have e := hw i j (by omega) (by omega) (Option.some.inj h)
      rw [e]
    | negSucc j => cases h
  | negSucc i =>
    cases d with
    | ofNat j => cases h
    | negSucc j =>
      have a1 : Int.negSucc i = -1 := by omega
      have a2 : Int.negSucc j = -1 := by omega
      rw [a1, a2]
section
variable {p : Program} {l : Launch} {e : Env} {R : Room} {s : State} {m : MethodId} {args : Array Value} {below : List Frame} {meth : Method} {c : Code} {H : Heap} {locs : List Loc} {cells slots : Nat} {Q : State → Prop} {cc : ByteArray} {pc : Nat} {ls : Array Slot} {st : List Value}
variable {ad wr cr : Nat → Nat} {S : List ab_AV} {i : Instr} {len : Nat} {K : fw_KB}
set_option maxHeartbeats 4000000 in
theorem fw_br_ok {nx : Option (Instr × Nat)} (hx : p.tables.exec = Jvm.exec) (hb : c.code = cc) (hw : ∀ i j, i < 17 → j < 17 → wr i = wr j → i = j) (h : fw_br pc i len nx S K) (hdg : decode cc pc = .ok (i, len)) (hnx : ∀ j n, nx = some (j, n) → decode cc (pc + 1) = .ok (j, n))
    (hS : fw_okS ad wr cr S st) (kk : ∀ (n : Nat) (S' : List ab_AV) (st' : List Value), K n S' → fw_okS ad wr cr S' st' → W p l e R s m args below meth c H locs cells slots Q (F0 m n ls st')) :
    W p l e R s m args below meth c H locs cells slots Q (F0 m pc ls st) := by
  unfold fw_br at h
  split at h
  · have h0 := fw_to_ok h
    clear h
    obtain ⟨n9, ht, h⟩ := h0
    have h0 := fw_if_ok h
    clear h
    obtain ⟨g, h⟩ := h0
    have := ab_beq g; subst this
    exact lv_goto hx hb hdg ht (kk _ _ _ h hS)
  · split at h
    · rename_i t9 d9 s9 c9 S9 j9
      split at h
      · rename_i r9 o9 hz9
        have h0 := fw_to_ok h
        clear h
        obtain ⟨n9, ht, h⟩ := h0
        have h0 := fw_if_ok h
        clear h
        obtain ⟨g, h⟩ := h0
        have := ab_beq g; subst this
        obtain ⟨st1, rfl, hS1⟩ := fw_pop1 hS
        obtain ⟨st2, rfl, hS2⟩ := fw_pop1 hS1
        refine W.lcmp hx hb hdg ?_
        exact ab_iz_row hx hb hz9 (hnx _ _ rfl) ht (fun q => kk _ _ _ (h.1 (ab_rel_cmp q)) hS2) (fun q => kk _ _ _ (h.2 (ab_rel_cmp q)) hS2)
      · exact h.elim
    · exact h.elim
  · split at h
    · rename_i a9 S9
      have h0 := fw_to_ok h
      clear h
      obtain ⟨n9, ht, h⟩ := h0
      have h0 := fw_if_ok h
      clear h
      obtain ⟨g, h⟩ := h0
      have := ab_beq g; subst this
      obtain ⟨st1, rfl, hS1⟩ := fw_pop hS
      obtain ⟨t9, s9, c9⟩ := a9
      split at h
      · rename_i e9
        have e9 : t9 = 2 := e9
        subst e9
        exact lv_ifnull hx hb hdg (kk _ _ _ h hS1)
      · rename_i e9
        have e9 : t9 = 3 := e9
        subst e9
        exact lv_ifnullN hx hb hdg ht (kk _ _ _ h hS1)
      · rename_i e9
        have e9 : t9 = 4 := e9
        subst e9
        rw [fw_V4]
        have h1 : c9 < 0 → K n9 S9 := h.1
        have h2 : 0 ≤ c9 → K (pc + 3) S9 := h.2
        cases c9 with
        | ofNat k9 => exact lv_ifnull hx hb hdg (kk _ _ _ (h2 (Int.natCast_nonneg k9)) hS1)
        | negSucc k9 => exact lv_ifnullN hx hb hdg ht (kk _ _ _ (h1 (Int.negSucc_lt_zero k9)) hS1)
      · rename_i e9
        have e9 : t9 = 5 := e9
        subst e9
        exact lv_ifnull hx hb hdg (kk _ _ _ h hS1)
      · exact h.elim
    · exact h.elim
  · split at h
    · rename_i a9 S9
      have h0 := fw_to_ok h
      clear h
      obtain ⟨n9, ht, h⟩ := h0
      have h0 := fw_if_ok h
      clear h
      obtain ⟨g, h⟩ := h0
      have := ab_beq g; subst this
      obtain ⟨st1, rfl, hS1⟩ := fw_pop hS
      obtain ⟨t9, s9, c9⟩ := a9
      split at h
      · rename_i e9
        have e9 : t9 = 2 := e9
        subst e9
        exact lv_ifnonnull hx hb hdg ht (kk _ _ _ h hS1)
      · rename_i e9
        have e9 : t9 = 3 := e9
        subst e9
        exact lv_ifnonnullN hx hb hdg (kk _ _ _ h hS1)
      · rename_i e9
        have e9 : t9 = 4 := e9
        subst e9
        rw [fw_V4]
        have h1 : 0 ≤ c9 → K n9 S9 := h.1
        have h2 : c9 < 0 → K (pc + 3) S9 := h.2
        cases c9 with
        | ofNat k9 => exact lv_ifnonnull hx hb hdg ht (kk _ _ _ (h1 (Int.natCast_nonneg k9)) hS1)
        | negSucc k9 => exact lv_ifnonnullN hx hb hdg (kk _ _ _ (h2 (Int.negSucc_lt_zero k9)) hS1)
      · rename_i e9
        have e9 : t9 = 5 := e9
        subst e9
        exact lv_ifnonnull hx hb hdg ht (kk _ _ _ h hS1)
      · exact h.elim
    · exact h.elim
  · split at h
    · rename_i cd9 o9 x9 t9 d9 s9 c9 S9
      have h0 := fw_to_ok h
      clear h
      obtain ⟨n9, ht, h⟩ := h0
      have h0 := fw_if_ok h
      clear h
      obtain ⟨g, h⟩ := h0
      have := ab_beq g; subst this
      obtain ⟨⟨b1, b2, b3, b4⟩, h⟩ := h
      obtain ⟨st1, rfl, hS1⟩ := fw_pop hS
      obtain ⟨st2, rfl, hS2⟩ := fw_pop hS1
      rw [fw_V4, fw_V4, fw_wv, fw_wv]
      cases cd9 with
      | eq => exact lv_acmp_eq hx hb hdg ht (fun q => kk _ _ _ (h.1 (fw_wo_inj hw b1 b2 b3 b4 q)) hS2) (fun q => kk _ _ _ (h.2 (fun z => q (by rw [z]))) hS2)
      | ne => exact lv_acmp_ne hx hb hdg ht (fun q => kk _ _ _ (h.1 (fun z => q (by rw [z]))) hS2) (fun q => kk _ _ _ (h.2 (fw_wo_inj hw b1 b2 b3 b4 q)) hS2)
    · exact h.elim
  · split at h
    · rename_i df9 lo9 hi9 of9 x9 s9 c9 S9
      have h0 := fw_if_ok h
      clear h
      obtain ⟨g, h0, h1⟩ := h0
      rw [Bool.and_eq_true, ab_le_iff, ab_le_iff] at g
      obtain ⟨n9, ht, h2, h3⟩ := fw_to_ok h0
      obtain ⟨st1, rfl, hS1⟩ := fw_pop0 hS
      rcases Int.lt_or_le (fw_c c9) lo9 with q1 | q1
      · exact lv_tableOut hx hb hdg (Or.inl q1) ht (kk _ _ _ (h2 q1) hS1)
      · rcases Int.lt_or_le hi9 (fw_c c9) with q2 | q2
        · exact lv_tableOut hx hb hdg (Or.inr q2) ht (kk _ _ _ (h3 q2) hS1)
        · have hj : (fw_c c9 - lo9).toNat < of9.size := by omega
          obtain ⟨n, a1, a2⟩ := fw_tab_ok of9.toList lo9 h1 (fw_c c9 - lo9).toNat of9[(fw_c c9 - lo9).toNat] (by rw [Array.getElem?_toList]; exact Array.getElem?_eq_getElem hj) (by omega)
          refine lv_tableIn (off := of9[(fw_c c9 - lo9).toNat]) hx hb hdg ?_ ?_ ?_ a1 (kk _ _ _ a2 hS1)
          · show ¬ fw_c c9 < lo9
            omega
          · show ¬ hi9 < fw_c c9
            omega
          · show of9[(fw_c c9 - lo9).toNat]? = _
            exact Array.getElem?_eq_getElem hj
    · exact h.elim
  · split at h
    · rename_i df9 ps9 x9 s9 c9 S9
      have h0 := fw_if_ok h
      clear h
      obtain ⟨g, h⟩ := h0
      obtain ⟨n9, ht, h⟩ := fw_lus_ok ps9.toList h
      obtain ⟨st1, rfl, hS1⟩ := fw_pop0 hS
      exact lv_lookup hx hb (x := Int32.ofInt c9) (off := Op.lookupswitch.offset ps9.toList df9 (fw_c c9)) hdg g rfl ht (kk _ _ _ h hS1)
    · exact h.elim
  · split at h
    · rename_i r9 o9 t9 d9 s9 c9 S9 hi9
      have h0 := fw_to_ok h
      clear h
      obtain ⟨n9, ht, h⟩ := h0
      have h0 := fw_if_ok h
      clear h
      obtain ⟨g, h⟩ := h0
      have := ab_beq g; subst this
      obtain ⟨st1, rfl, hS1⟩ := fw_pop0 hS
      obtain ⟨st2, rfl, hS2⟩ := fw_pop0 hS1
      exact ab_ic_row hx hb hi9 hdg ht (fun q => kk _ _ _ (h.1 q) hS2) (fun q => kk _ _ _ (h.2 q) hS2)
    · split at h
      · rename_i r9 o9 s9 c9 S9 hi9 hneg9
        have h0 := fw_to_ok h
        clear h
        obtain ⟨n9, ht, h⟩ := h0
        have h0 := fw_if_ok h
        clear h
        obtain ⟨g, h⟩ := h0
        have := ab_beq g; subst this
        obtain ⟨st1, rfl, hS1⟩ := fw_pop0 hS
        exact ab_iz_row hx hb hi9 hdg ht (fun q => kk _ _ _ (h.1 q) hS1) (fun q => kk _ _ _ (h.2 q) hS1)
      · exact h.elim
end
