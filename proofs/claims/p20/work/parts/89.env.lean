/-! the tables' words by their places, held by one reading -/
def nn_TT : List Jvm.Cond := lw_tbl.filter goodWord
theorem nn_TT_good : ∀ w ∈ nn_TT, goodWord w = true := fun w hw => (List.mem_filter.mp hw).2
def nn_ch (k : Nat) : List Jvm.Cond := match k with
  | 0 => k2_sels lw_privs
  | 1 => tables_1_1
  | 2 => tables_1_2
  | 3 => tables_1_3
  | 4 => tables_1_4
  | 5 => tables_1_5
  | 6 => tables_1_6
  | 7 => tables_1_7
  | 8 => tables_1_8
  | 9 => tables_1_9
  | _ => tables_1_10
theorem nn_ch_in (k : Nat) : ∀ w ∈ nn_ch k, w ∈ lw_tbl := by
  intro w hw
  show w ∈ k2_sels lw_privs ++ (tables_1_1 ++ (tables_1_2 ++ (tables_1_3 ++ (tables_1_4 ++ (tables_1_5 ++ (tables_1_6 ++ (tables_1_7 ++ (tables_1_8 ++ (tables_1_9 ++ tables_1_10)))))))))
  simp only [List.mem_append]
  match k, hw with
  | 0, hw => exact Or.inl hw
  | 1, hw => exact Or.inr (Or.inl hw)
  | 2, hw => exact Or.inr (Or.inr (Or.inl hw))
  | 3, hw => exact Or.inr (Or.inr (Or.inr (Or.inl hw)))
  | 4, hw => exact Or.inr (Or.inr (Or.inr (Or.inr (Or.inl hw))))
  | 5, hw => exact Or.inr (Or.inr (Or.inr (Or.inr (Or.inr (Or.inl hw)))))
  | 6, hw => exact Or.inr (Or.inr (Or.inr (Or.inr (Or.inr (Or.inr (Or.inl hw))))))
  | 7, hw => exact Or.inr (Or.inr (Or.inr (Or.inr (Or.inr (Or.inr (Or.inr (Or.inl hw)))))))
  | 8, hw => exact Or.inr (Or.inr (Or.inr (Or.inr (Or.inr (Or.inr (Or.inr (Or.inr (Or.inl hw))))))))
  | 9, hw => exact Or.inr (Or.inr (Or.inr (Or.inr (Or.inr (Or.inr (Or.inr (Or.inr (Or.inr (Or.inl hw)))))))))
  | n + 10, hw => exact Or.inr (Or.inr (Or.inr (Or.inr (Or.inr (Or.inr (Or.inr (Or.inr (Or.inr (Or.inr hw)))))))))
/-- the place i is 1000 times the list's number and the place in it -/
def nn_at (i : Nat) (w : Jvm.Cond) : Bool := decide ((nn_ch (i / 1000))[i % 1000]? = some w) && goodWord w
theorem nn_at_ok {i : Nat} {w : Jvm.Cond} (h : nn_at i w = true) : w ∈ nn_TT := by
  unfold nn_at at h
  rw [Bool.and_eq_true, decide_eq_true_eq] at h
  exact List.mem_filter.mpr ⟨nn_ch_in _ _ (List.mem_of_getElem? h.1), h.2⟩
/-- a method link by its places: the pool's number, the kind, which method; the places of code, initialized, the two that say how it is called, the link -/
abbrev nn_LK : Type := (Nat × Nat × Nat) × Nat × Nat × Nat × Nat × Nat
def nn_lkB (MT : List ab_MR) (NW : ab_NW) (own : String) (q : nn_LK) : Bool := match MT[q.1.2.2]? with
  | some mr => nn_at q.2.2.1 (Jvm.Cond.initialized mr.1.cls) && decide (mr.1.cls ≠ "java/lang/invoke/MethodHandle") && decide (mr.1.cls ≠ "java/lang/invoke/VarHandle") && decide ((parseMethodDescriptor mr.1.desc).map (fun d => d.parameters.length) = some mr.2.2.2.2.1) &&
    (cond mr.2.2.2.2.2.1 (nn_at q.2.2.2.1 (Jvm.Cond.instanceMethod mr.1) && nn_at q.2.2.2.2.1 (Jvm.Cond.selects mr.1.cls mr.1 mr.1)) (nn_at q.2.2.2.1 (Jvm.Cond.static mr.1))) &&
    (cond (q.1.2.1.beq 0) (nn_at q.2.2.2.2.2 (Jvm.Cond.methodLink own q.1.1 mr.1)) (match NW[q.2.2.2.2.2]? with | some x => decide (x.1 = own) && x.2.1.beq q.1.1 && decide (x.2.2.1 = mr.1) | none => false))
  | none => false
theorem nn_lk_ok {MT : List ab_MR} {NW : ab_NW} {own : String} {l : List nn_LK} (hmc : ∀ mr ∈ MT, Jvm.Cond.code mr.1 mr.2.1 mr.2.2.1 mr.2.2.2.1 ∈ nn_TT) (h : l.all (nn_lkB MT NW own) = true) : ∀ q ∈ l.map (fun x => x.1), ab_mlk MT nn_TT NW own q := by
  intro q hq
  obtain ⟨x, hx, rfl⟩ := List.mem_map.mp hq
  have hb := List.all_eq_true.mp h x hx
  intro mr hmr
  unfold nn_lkB at hb
  rw [hmr] at hb
  replace hb : (nn_at x.2.2.1 (Jvm.Cond.initialized mr.1.cls) && decide (mr.1.cls ≠ "java/lang/invoke/MethodHandle") && decide (mr.1.cls ≠ "java/lang/invoke/VarHandle") && decide ((parseMethodDescriptor mr.1.desc).map (fun d => d.parameters.length) = some mr.2.2.2.2.1) &&
    (cond mr.2.2.2.2.2.1 (nn_at x.2.2.2.1 (Jvm.Cond.instanceMethod mr.1) && nn_at x.2.2.2.2.1 (Jvm.Cond.selects mr.1.cls mr.1 mr.1)) (nn_at x.2.2.2.1 (Jvm.Cond.static mr.1))) &&
    (cond (x.1.2.1.beq 0) (nn_at x.2.2.2.2.2 (Jvm.Cond.methodLink own x.1.1 mr.1)) (match NW[x.2.2.2.2.2]? with | some y => decide (y.1 = own) && y.2.1.beq x.1.1 && decide (y.2.2.1 = mr.1) | none => false))) = true := hb
  rw [Bool.and_eq_true, Bool.and_eq_true, Bool.and_eq_true, Bool.and_eq_true, Bool.and_eq_true, decide_eq_true_eq, decide_eq_true_eq, decide_eq_true_eq] at hb
  obtain ⟨⟨⟨⟨⟨h2, h3⟩, h4⟩, h5⟩, h6⟩, h7⟩ := hb
  refine ⟨hmc mr (List.mem_of_getElem? hmr), nn_at_ok h2, ⟨h3, h4⟩, h5, fun g => ?_, fun g => ?_, ?_⟩
  · rw [g] at h6
    replace h6 : (nn_at x.2.2.2.1 (Jvm.Cond.instanceMethod mr.1) && nn_at x.2.2.2.2.1 (Jvm.Cond.selects mr.1.cls mr.1 mr.1)) = true := h6
    rw [Bool.and_eq_true] at h6
    exact ⟨nn_at_ok h6.1, nn_at_ok h6.2⟩
  · rw [g] at h6
    exact nn_at_ok h6
  · cases hc : x.1.2.1.beq 0 with
    | true =>
      rw [hc] at h7
      exact Or.inl ⟨ab_beq hc, nn_at_ok h7⟩
    | false =>
      rw [hc] at h7
      replace h7 : (match NW[x.2.2.2.2.2]? with | some y => decide (y.1 = own) && y.2.1.beq x.1.1 && decide (y.2.2.1 = mr.1) | none => false) = true := h7
      split at h7
      · rename_i y hy
        rw [Bool.and_eq_true, Bool.and_eq_true, decide_eq_true_eq, decide_eq_true_eq] at h7
        obtain ⟨⟨g1, g2⟩, g3⟩ := h7
        have g2 := ab_beq g2
        refine Or.inr ⟨y.2.2.2, ?_⟩
        rw [← g1, ← g2, ← g3]
        exact List.mem_of_getElem? hy
      · cases h7
theorem nn_lk_app {MT : List ab_MR} {NW : ab_NW} {own : String} {a b : List nn_LK} (ha : ∀ q ∈ a.map (fun x => x.1), ab_mlk MT nn_TT NW own q) (hb : ∀ q ∈ b.map (fun x => x.1), ab_mlk MT nn_TT NW own q) : ∀ q ∈ (a ++ b).map (fun x => x.1), ab_mlk MT nn_TT NW own q := by
  intro q hq
  rw [List.map_append] at hq
  rcases List.mem_append.mp hq with h | h
  · exact ha q h
  · exact hb q h
def nn_cw (mr : ab_MR) : Jvm.Cond := Jvm.Cond.code mr.1 mr.2.1 mr.2.2.1 mr.2.2.2.1
theorem nn_inR {k i : Nat} {w : Jvm.Cond} (h : (nn_ch k)[i]? = some w) (g : goodWord w = true) : w ∈ nn_TT := List.mem_filter.mpr ⟨nn_ch_in _ _ (List.mem_of_getElem? h), g⟩
/-- the three methods of Math -/
def nn_mH1 (y : MethodName) (code : ByteArray) (n : Nat) (r : FieldType) : Prop := Jvm.Cond.static y ∈ nn_TT ∧ Jvm.Cond.initialized "java/lang/Math" ∈ nn_TT ∧ Jvm.Cond.code y code n (some r) ∈ nn_TT
def nn_mH : Prop := nn_mH1 Lib.Math.max.name Lib.Math.max.code 2 .int ∧ nn_mH1 Lib.Math.min.name Lib.Math.min.code 2 .int ∧ nn_mH1 Lib.MathLoose.abs_long.x Lib.MathLoose.abs_long.code 2 .long
theorem nn_mw {own : String} {x : Nat} {y : MethodName} {code : ByteArray} {n : Nat} {r : FieldType} {i : Nat} (h : nn_mH1 y code n r) (g : nn_at i (Jvm.Cond.methodLink own x y) = true) : ab_mw nn_TT own x y code n r := ⟨nn_at_ok g, h.1, h.2.1, h.2.2⟩
/-- a static's link by its place: in the tables, or in the list of nest mates' -/
def nn_psB (kd : ab_KD) (own : String) (q : (Nat × Nat) × Nat × Bool) : Bool :=
  cond (q.1.2.beq 1000) (nn_at q.2.1 (Jvm.Cond.fieldLink own q.1.1 "NameNotes$Word" "code" "J"))
    (cond (q.1.2.beq 1001) (nn_at q.2.1 (Jvm.Cond.methodLink own q.1.1 Lib.Math.max.name)) (cond (q.1.2.beq 1002) (nn_at q.2.1 (Jvm.Cond.methodLink own q.1.1 Lib.Math.min.name)) (cond (q.1.2.beq 1003) (nn_at q.2.1 (Jvm.Cond.methodLink own q.1.1 Lib.MathLoose.abs_long.x))
    (cond ((2000 : Nat).ble q.1.2) (match kd.2.2.2[q.2.1]? with | some y => decide (y.1 = own) && y.2.1.beq q.1.1 && y.2.2.2.beq (q.1.2 - 2000) | none => false) (q.1.2.ble 999 && match kd.1[q.1.2]? with
      | some x => cond q.2.2 (match kd.2.2.1[q.2.1]? with | some y => decide (y.1 = own) && y.2.1.beq q.1.1 && decide (y.2.2.1 = x.1) && decide (y.2.2.2.1 = x.2.1) && decide (y.2.2.2.2.1 = x.2.2.1) | none => false) (nn_at q.2.1 (Jvm.Cond.fieldLink own q.1.1 x.1 x.2.1 x.2.2.1))
      | none => false)))))
theorem nn_ps_ok (hm : nn_mH) {kd : ab_KD} {own : String} {l : List ((Nat × Nat) × Nat × Bool)} (h : l.all (nn_psB kd own) = true) : ∀ q ∈ l.map (fun x => x.1), ab_psok nn_TT kd own q := by
  intro q hq
  obtain ⟨z, hz, rfl⟩ := List.mem_map.mp hq
  have hb := List.all_eq_true.mp h z hz
  unfold nn_psB at hb
  cases hc : z.1.2.beq 1000 with
  | true =>
    rw [hc] at hb
    exact Or.inl ⟨ab_beq hc, nn_at_ok hb⟩
  | false =>
    rw [hc] at hb
    have cq : ∀ {b : Bool} {x y : Bool}, (cond b x y) = true → (b = true ∧ x = true) ∨ y = true := fun {b x y} h => by
      cases b with
      | true => exact Or.inl ⟨rfl, h⟩
      | false => exact Or.inr h
    rcases cq hb with ⟨g1, -⟩ | hb
    · cases g1
    rcases cq hb with ⟨g1, g2⟩ | hb
    · exact Or.inr (Or.inr (Or.inl ⟨ab_beq g1, nn_mw hm.1 g2⟩))
    rcases cq hb with ⟨g1, g2⟩ | hb
    · exact Or.inr (Or.inr (Or.inr (Or.inl ⟨ab_beq g1, nn_mw hm.2.1 g2⟩)))
    rcases cq hb with ⟨g1, g2⟩ | hb
    · exact Or.inr (Or.inr (Or.inr (Or.inr (Or.inl ⟨ab_beq g1, nn_mw hm.2.2 g2⟩))))
    rcases cq hb with ⟨g1, g2⟩ | hb
    · split at g2
      · rename_i y hy
        rw [Bool.and_eq_true, Bool.and_eq_true, decide_eq_true_eq] at g2
        obtain ⟨⟨e1, e2⟩, e3⟩ := g2
        have e2 := ab_beq e2
        have e3 := ab_beq e3
        refine Or.inr (Or.inr (Or.inr (Or.inr (Or.inr ⟨Nat.le_of_ble_eq_true g1, y.2.2.1, ?_⟩))))
        rw [← e1, ← e2, ← e3]
        exact List.mem_of_getElem? hy
      · cases g2
    rw [Bool.and_eq_true] at hb
    have hne : z.1.2 < 1000 := Nat.lt_succ_of_le (Nat.le_of_ble_eq_true hb.1)
    replace hb := hb.2
    split at hb
    · rename_i x hx
      refine Or.inr (Or.inl ⟨hne, x, hx, ?_⟩)
      cases hd : z.2.2 with
      | false =>
        rw [hd] at hb
        exact Or.inl (nn_at_ok hb)
      | true =>
        rw [hd] at hb
        split at hb
        · rename_i y hy
          rw [cond_true] at hb
          rw [Bool.and_eq_true, Bool.and_eq_true, Bool.and_eq_true, Bool.and_eq_true, decide_eq_true_eq, decide_eq_true_eq, decide_eq_true_eq, decide_eq_true_eq] at hb
          obtain ⟨⟨⟨⟨g1, g2⟩, g3⟩, g4⟩, g5⟩ := hb
          have g2 := ab_beq g2
          refine Or.inr ⟨y.2.2.2.2.2, ?_⟩
          rw [← g1, ← g2, ← g3, ← g4, ← g5]
          exact List.mem_of_getElem? hy
        · cases hb
    · cases hb
theorem nn_ki_ok {own : String} {l : List ((Nat × Int) × Nat)} (h : l.all (fun x => nn_at x.2 (Jvm.Cond.constant own x.1.1 (Int32.ofInt x.1.2))) = true) : ∀ q ∈ l.map (fun x => x.1), Jvm.Cond.constant own q.1 (Int32.ofInt q.2) ∈ nn_TT := by
  intro q hq
  obtain ⟨x, hx, rfl⟩ := List.mem_map.mp hq
  exact nn_at_ok (List.all_eq_true.mp h x hx)
theorem nn_kj_ok {own : String} {l : List ((Nat × Int) × Nat)} (h : l.all (fun x => nn_at x.2 (Jvm.Cond.constantLong own x.1.1 (Int64.ofInt x.1.2))) = true) : ∀ q ∈ l.map (fun x => x.1), Jvm.Cond.constantLong own q.1 (Int64.ofInt q.2) ∈ nn_TT := by
  intro q hq
  obtain ⟨x, hx, rfl⟩ := List.mem_map.mp hq
  exact nn_at_ok (List.all_eq_true.mp h x hx)
/-- a class's layout words by their places -/
def nn_layB (C : String) (T : u_T) : List Nat → Nat → Bool
  | [], _ => true
  | i :: l, k => nn_at i (u_lay C T k) && nn_layB C T l (k + 1)
theorem nn_lay_ok {C : String} {T : u_T} : ∀ (l : List Nat) (k : Nat), nn_layB C T l k = true → ∀ j, j < l.length → u_lay C T (k + j) ∈ nn_TT := by
  intro l
  induction l with
  | nil => intro k _ j hj; exact absurd hj (Nat.not_lt_zero _)
  | cons i l ih =>
    intro k h j hj
    unfold nn_layB at h
    rw [Bool.and_eq_true] at h
    cases j with
    | zero => exact nn_at_ok h.1
    | succ j =>
      have := ih (k + 1) h.2 j (by rw [List.length_cons] at hj; omega)
      rw [show k + 1 + j = k + (j + 1) by omega] at this
      exact this
theorem nn_ws_ok {C : String} {T : u_T} {N : Nat} {l : List Nat} (h : nn_layB C T l 0 = true) (hl : l.length = N) : ∀ w ∈ u_ws C T N, w ∈ nn_TT := by
  intro w hw
  obtain ⟨k, hk, rfl⟩ := List.mem_map.mp hw
  have := nn_lay_ok l 0 h k (by rw [hl]; exact List.mem_range.mp hk)
  rw [Nat.zero_add] at this
  exact this
/-- what is the same for all links to a class's fields -/
def nn_cls (cl : List vw_C) (ci : Nat) : Prop := ∃ (C : String) (T : u_T) (N : Nat), cl[ci]? = some (C, T, N) ∧ (∀ w ∈ u_ws C T N, w ∈ nn_TT) ∧ (∃ ty0 : Nat → FieldType, ∀ k, k < N → parseFieldDescriptor (T k).2.2.1 = some (ty0 k)) ∧ (∀ a, a < N → ∀ b, b < N → a ≠ b → (T a).2.1 ≠ (T b).2.1)
def nn_fB (cl : List vw_C) (own : String) (q : (Nat × Nat × Nat × Nat) × Nat) : Bool := match cl[q.1.2.1]? with
  | some c => (q.1.2.2.1 + 1).ble c.2.2 && nn_at q.2 (Jvm.Cond.fieldLink own q.1.1 (c.2.1 q.1.2.2.1).1 (c.2.1 q.1.2.2.1).2.1 (c.2.1 q.1.2.2.1).2.2.1) && ((c.2.1 q.1.2.2.1).2.2.2 || decide (parseFieldDescriptor (c.2.1 q.1.2.2.1).2.2.1 = some (ab_ft q.1.2.2.2)))
  | none => false
theorem nn_f_ok {cl : List vw_C} {own : String} {l : List ((Nat × Nat × Nat × Nat) × Nat)} (hc : ∀ ci, ci < cl.length → nn_cls cl ci) (h : l.all (nn_fB cl own) = true) : ∀ q ∈ l.map (fun x => x.1), ab_fok cl nn_TT own q := by
  intro q hq
  obtain ⟨x, hx, rfl⟩ := List.mem_map.mp hq
  have hb := List.all_eq_true.mp h x hx
  unfold nn_fB at hb
  split at hb
  · rename_i c9 hc9
    rw [Bool.and_eq_true, Bool.and_eq_true, Bool.or_eq_true, decide_eq_true_eq] at hb
    obtain ⟨C, T, N, g1, g2, g3, g4⟩ := hc x.1.2.1 (List.getElem?_eq_some_iff.mp hc9).1
    rw [hc9] at g1
    cases g1
    obtain ⟨⟨h1, h2⟩, h3⟩ := hb
    refine ⟨C, T, N, hc9, Nat.le_of_ble_eq_true h1, g2, nn_at_ok h2, g3, g4, fun hf => ?_⟩
    rcases h3 with h3 | h3
    · replace h3 : (T x.1.2.2.1).2.2.2 = true := h3
      rw [hf] at h3
      cases h3
    · exact h3
  · cases hb
/-- the methods' decoded instructions, one beside the other -/
def ab_dtP : List ab_MR → List ab_DT → Prop
  | m :: M, d :: D => ab_dtok m.2.1 d = true ∧ ab_dtP M D
  | [], [] => True
  | _, _ => False
theorem ab_dtP_app : ∀ {A : List ab_MR} {A' : List ab_DT} {B : List ab_MR} {B' : List ab_DT}, ab_dtP A A' → ab_dtP B B' → ab_dtP (A ++ B) (A' ++ B') := by
  intro A
  induction A with
  | nil =>
    intro A' B B' h1 h2
    cases A' with
    | nil => exact h2
    | cons d D => cases h1
  | cons m M ih =>
    intro A' B B' h1 h2
    cases A' with
    | nil => cases h1
    | cons d D => exact ⟨h1.1, ih h1.2 h2⟩
theorem ab_dtP_get : ∀ {A : List ab_MR} {A' : List ab_DT} {n : Nat} {mr : ab_MR} {dt : ab_DT}, ab_dtP A A' → A[n]? = some mr → A'[n]? = some dt → ab_dtok mr.2.1 dt = true := by
  intro A
  induction A with
  | nil => intro A' n mr dt _ h; cases h
  | cons m M ih =>
    intro A' n mr dt h h1 h2
    cases A' with
    | nil => cases h
    | cons d D =>
      cases n with
      | zero =>
        cases h1
        cases h2
        exact h.1
      | succ n => exact ih h.2 h1 h2
