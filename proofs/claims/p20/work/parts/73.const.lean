/-! what never changes: static fields and what they hold, the arrays behind them, the codes of the words -/
abbrev ab_SV : Type := List (String × String × String × ab_AV)
abbrev ab_NF : Type := List (String × Nat × String × String × String × String)
/-- texts: whose pool, the number there, the text, which cell -/
abbrev ab_TX : Type := List (String × Nat × String × Nat)
abbrev ab_KD : Type := ab_SV × List (Nat × Nat) × ab_NF × ab_TX
/-- an array that never changes: what it is, how long, where -/
def ab_xk (wr : Nat → Nat) (t n q : Nat) (A : Nat → Prop) (U : State) : Prop := match t with
  | 0 => ∃ f : Nat → Int32, va_T .int q n (fun j => .int (f j)) A U U.heap
  | 1 => ∃ f : Nat → Int64, va_T .long q n (fun j => .long (f j)) A U U.heap
  | 4 => va_T (.object "NameNotes$Word") q n (fun j => .ref (wr j)) A U U.heap
  | _ => False
theorem ab_xk_go {wr : Nat → Nat} {t n q : Nat} {A B : Nat → Prop} {s U : State} (h : ab_xk wr t n q A s) (hvm : s.vm.Alike U.vm) (hq : ∀ a : Nat, a < s.heap.size → ¬ A a → U.heap[a]? = s.heap[a]?) (hAB : ∀ q, B q → A q) : ab_xk wr t n q B U := by
  match t, h with
  | 0, h =>
    obtain ⟨f, h⟩ := h
    exact ⟨f, ((va_T.moved hvm h).kept hq).narrow hAB⟩
  | 1, h =>
    obtain ⟨f, h⟩ := h
    exact ⟨f, ((va_T.moved hvm h).kept hq).narrow hAB⟩
  | 4, h => exact ((va_T.moved hvm h).kept hq).narrow hAB
def ab_CB (cy : Nat → ClassId) (ad wr cr : Nat → Nat) (kd : ab_KD) (A : Nat → Prop) (U : State) : Prop :=
  (∀ q ∈ kd.1, va_Z q.1 q.2.1 q.2.2.1 (ab_V ad wr cr (fun _ => 0) q.2.2.2) A U U.heap) ∧
  (∀ (k : Nat) (x : Nat × Nat), kd.2.1[k]? = some x → ab_xk wr x.1 x.2 (cr k) A U) ∧
  (∀ i : Nat, i < 17 → ∃ v : Int64, va_OF "NameNotes$Word" "code" "J" (.long v) (wr i) A U U.heap) ∧
  (∀ q ∈ kd.2.2.1, va_Nw (.fieldLinkNest q.1 q.2.1 q.2.2.1 q.2.2.2.1 q.2.2.2.2.1 q.2.2.2.2.2) U) ∧
  (∀ q ∈ kd.2.2.2, vk_R q.1 q.2.1 q.2.2.1 (cr q.2.2.2) U)
theorem ab_CB_go {cy : Nat → ClassId} {ad wr cr : Nat → Nat} {kd : ab_KD} {A B : Nat → Prop} {s U : State} (h : ab_CB cy ad wr cr kd A s) (hW : s.WarmedH U.vm) (hq : ∀ a : Nat, a < s.heap.size → ¬ A a → U.heap[a]? = s.heap[a]?) (hAB : ∀ q, B q → A q) : ab_CB cy ad wr cr kd B U := by
  obtain ⟨h1, h2, h3, h4, h5⟩ := h
  refine ⟨fun q hq9 => ?_, fun k x hx => ?_, fun i hi => ?_, fun q hq9 => va_Nw.warmF hW (h4 q hq9), fun q hq9 => vk_R.warm hW (h5 q hq9)⟩
  · exact ((va_Z.moved hW.alike (h1 q hq9)).kept hq).narrow hAB
  · exact ab_xk_go (h2 k x hx) hW.alike hq hAB
  · obtain ⟨v, hv⟩ := h3 i hi
    exact ⟨v, ((va_OF.moved hW.alike hv).kept hq).narrow hAB⟩
theorem ab_CB_blind {cy : Nat → ClassId} {ad wr cr : Nat → Nat} {kd : ab_KD} {A : Nat → Prop} {U : State} {g : JFrame} {mk : MethodId} {a : Array Value} (h : ab_CB cy ad wr cr kd A U) : ab_CB cy ad wr cr kd A (U.calling g mk a) := by
  obtain ⟨h1, h2, h3, h4, h5⟩ := h
  refine ⟨fun q hq9 => va_Z.moved (u := U) (U := U.calling g mk a) (Vm.Alike.refl U.vm) (h1 q hq9), fun k x hx => ab_xk_go (s := U) (U := U.calling g mk a) (h2 k x hx) (Vm.Alike.refl U.vm) (fun _ _ _ => rfl) (fun _ h => h), fun i hi => ?_, fun q hq9 => va_Nw.same rfl (u := U) (U := U.calling g mk a) rfl (h4 q hq9), fun q hq9 => vk_R.same (u := U) (U := U.calling g mk a) rfl (h5 q hq9)⟩
  obtain ⟨v, hv⟩ := h3 i hi
  exact ⟨v, va_OF.moved (u := U) (U := U.calling g mk a) (Vm.Alike.refl U.vm) hv⟩
/-- what a call of a method of Math stands on -/
def ab_mw (Ts : List Jvm.Cond) (own : String) (x : Nat) (y : MethodName) (code : ByteArray) (n : Nat) (r : FieldType) : Prop :=
  Jvm.Cond.methodLink own x y ∈ Ts ∧ Jvm.Cond.static y ∈ Ts ∧ Jvm.Cond.initialized "java/lang/Math" ∈ Ts ∧ Jvm.Cond.code y code n (some r) ∈ Ts
/-- a class's links to them: the pool's number, the place in the list (1000: the code of a word; 1001..1003: Math's max, min, abs; 2000 and on: a text) -/
abbrev ab_PS : Type := List (Nat × Nat)
def ab_psok (Ts : List Jvm.Cond) (kd : ab_KD) (own : String) (q : Nat × Nat) : Prop :=
  (q.2 = 1000 ∧ Jvm.Cond.fieldLink own q.1 "NameNotes$Word" "code" "J" ∈ Ts) ∨ (q.2 < 1000 ∧ ∃ x, kd.1[q.2]? = some x ∧ (Jvm.Cond.fieldLink own q.1 x.1 x.2.1 x.2.2.1 ∈ Ts ∨ ∃ host, (own, q.1, x.1, x.2.1, x.2.2.1, host) ∈ kd.2.2.1)) ∨
  (q.2 = 1001 ∧ ab_mw Ts own q.1 Lib.Math.max.name Lib.Math.max.code 2 .int) ∨ (q.2 = 1002 ∧ ab_mw Ts own q.1 Lib.Math.min.name Lib.Math.min.code 2 .int) ∨ (q.2 = 1003 ∧ ab_mw Ts own q.1 Lib.MathLoose.abs_long.x Lib.MathLoose.abs_long.code 2 .long) ∨
  (2000 ≤ q.2 ∧ ∃ tx, (own, q.1, tx, q.2 - 2000) ∈ kd.2.2.2)
def ab_pk : ab_PS → Nat → Option Nat
  | [], _ => none
  | q :: l, i => cond (q.1.beq i) (some q.2) (ab_pk l i)
theorem ab_pk_mem : ∀ {l : ab_PS} {i a : Nat}, ab_pk l i = some a → (i, a) ∈ l := by
  intro l
  induction l with
  | nil => intro i a h; cases h
  | cons q l ih =>
    intro i a h
    unfold ab_pk at h
    cases hc : q.1.beq i with
    | true =>
      rw [hc] at h
      have h1 := Nat.eq_of_beq_eq_true hc
      have h2 : q.2 = a := Option.some.inj h
      rw [← h1, ← h2]
      exact List.mem_cons_self
    | false => rw [hc] at h; exact List.mem_cons_of_mem _ (ih h)
def ab_is0 (a : ab_AV) : Bool := ((a.1.beq 4 || a.1.beq 0) && a.2.1.beq 0) || a.1.beq 5
def ab_ca (kd : ab_KD) (t k : Nat) : Option Nat := match kd.2.1[k]? with
  | some x => cond (x.1.beq t) (some x.2) none
  | none => none
def ab_ks (kd : ab_KD) (PS : ab_PS) (i : Instr) (len : Nat) (S : List ab_AV) (B : ab_BD) : Option (List ab_AV × ab_BD) := match i with
  | .getstatic x => match ab_pk PS x with
    | some z => match kd.1[z]? with
      | some q => cond (len.beq 3 && ab_is0 q.2.2.2 && z.ble 999) (some (q.2.2.2 :: S, B)) none
      | none => none
    | none => none
  | .iaload => match S with
    | (0, s, c) :: (5, k, _) :: S => match ab_ca kd 0 k with
      | some n => match ab_ix B s c n with
        | some _ => cond (len.beq 1) (some ((0, B.length, 0) :: S, B ++ [(-2147483648, 2147483647)])) none
        | none => none
      | none => none
    | _ => none
  | .laload => match S with
    | (0, s, c) :: (5, k, _) :: S => match ab_ca kd 1 k with
      | some n => match ab_ix B s c n with
        | some _ => cond (len.beq 1) (some ((1, B.length, 0) :: S, B ++ [(-9223372036854775808, 9223372036854775807)])) none
        | none => none
      | none => none
    | _ => none
  | .aaload => match S with
    | (0, s, c) :: (5, k, _) :: S => match ab_ca kd 4 k with
      | some n => match ab_ix B s c n with
        | some _ => cond (len.beq 1) (some ((4, s, c) :: S, B)) none
        | none => none
      | none => none
    | _ => none
  | .arraylength => match S with
    | (5, k, _) :: S => match kd.2.1[k]? with
      | some x => cond (len.beq 1) (some ((0, 0, (x.2 : Int)) :: S, B)) none
      | none => none
    | _ => none
  | .getfield x => match S with
    | (4, s, c) :: S => match ab_pk PS x with
      | some z => cond (len.beq 3 && z.beq 1000 && ab_le 0 (ab_lo B s + c) && ab_le (ab_hi B s + c) 16) (some ((1, B.length, 0) :: S, B ++ [(-9223372036854775808, 9223372036854775807)])) none
      | none => none
    | _ => none
  | .i2c => match S with
    | (0, _, _) :: S => cond (len.beq 1) (some ((0, B.length, 0) :: S, B ++ [(-2147483648, 2147483647)])) none
    | _ => none
  | _ => none
theorem ab_ca_ok {kd : ab_KD} {t k n : Nat} (h : ab_ca kd t k = some n) : kd.2.1[k]? = some (t, n) := by
  unfold ab_ca at h
  split at h
  · rename_i x hx
    obtain ⟨h1, h2⟩ := ab_cs h
    have h1 := ab_beq h1
    obtain ⟨a, b⟩ := x
    have h1 : a = t := h1
    have h2 : b = n := h2
    subst h1; subst h2
    exact hx
  · cases h
theorem ab_is0_ok {ad wr cr : Nat → Nat} {ρ : Nat → Int} {n : Nat} {a : ab_AV} (h0 : ρ 0 = 0) (hn : 0 < n) (h : ab_is0 a = true) : ab_V ad wr cr (fun _ => 0) a = ab_V ad wr cr ρ a ∧ ab_sy n a := by
  obtain ⟨t, s, c⟩ := a
  unfold ab_is0 at h
  rw [Bool.or_eq_true, Bool.and_eq_true, Bool.or_eq_true] at h
  rcases h with ⟨h1 | h1, h2⟩ | h1
  · have e1 : t = 4 := ab_beq h1
    have e2 : s = 0 := ab_beq h2
    subst e1; subst e2
    exact ⟨by show ab_wv wr (0 + c) = ab_wv wr (ρ 0 + c); rw [h0], hn⟩
  · have e1 : t = 0 := ab_beq h1
    have e2 : s = 0 := ab_beq h2
    subst e1; subst e2
    exact ⟨by show Value.int (Int32.ofInt (0 + c)) = Value.int (Int32.ofInt (ρ 0 + c)); rw [h0], hn⟩
  · have e1 : t = 5 := ab_beq h1
    subst e1
    exact ⟨rfl, trivial⟩
section
variable {p : Program} {l : Launch} {e : Env} {R : Room} {s : State} {m : MethodId} {args : Array Value} {below : List Frame} {meth : Method} {c : Code} {H : Heap} {locs : List Loc} {cells slots : Nat} {Q : State → Prop} {cc : ByteArray} {pc : Nat} {ls : Array Slot} {st : List Value}
variable {ad wr cr : Nat → Nat} {cy : Nat → ClassId} {T : ab_RG} {C : ab_CT} {σ0 σ : ab_SG} {B B' : ab_BD} {F : ab_FT} {Dl : ab_DL} {M : ab_ML} {ρ : Nat → Int} {S S' : List ab_AV} {own : String} {i : Instr} {len : Nat} {D : va_G} {cl : List vw_C} {A : Nat → Prop} {Ts : List Jvm.Cond} {kd : ab_KD} {PS : ab_PS}
set_option maxHeartbeats 4000000 in
theorem ab_ks_ok (hx : p.tables.exec = Jvm.exec) (hb : c.code = cc) (hown : s.vm.findClass own = some m.cls) (hts : ∀ w ∈ Ts, w.before args s = true) (hKK : va_K D cl (ab_tys cy) s) (hCB : ab_CB cy ad wr cr kd A s) (hPS : ∀ q ∈ PS, ab_psok Ts kd own q)
    (h : ab_ks kd PS i len S B = some (S', B')) (hdg : decode cc pc = .ok (i, len)) (hK : ab_K T C σ0 B F Dl M ρ σ) (hS : ab_okS ad wr cr B.length ρ S st) (hSS : va_S A s.heap H locs)
    (kk : ∀ (ρ' : Nat → Int) (st' : List Value), ab_K T C σ0 B' F Dl M ρ' σ → B.length ≤ B'.length → (∀ i, i < B.length → ρ' i = ρ i) → ab_okS ad wr cr B'.length ρ' S' st' → W p l e R s m args below meth c H locs cells slots Q (F0 m (pc + len) ls st')) : W p l e R s m args below meth c H locs cells slots Q (F0 m pc ls st) := by
  obtain ⟨b1, b2, b3, b4, -⟩ := hCB
  have fr32 : ∀ (z : Int32) (S1 : List ab_AV) (st1 : List Value), S' = (0, B.length, 0) :: S1 → B' = B ++ [(-2147483648, 2147483647)] → ab_okS ad wr cr B.length ρ S1 st1 → W p l e R s m args below meth c H locs cells slots Q (F0 m (pc + len) ls (.int z :: st1)) := by
    intro z S1 st1 e1 e2 hS1
    subst e1; subst e2
    have hl : (B ++ [((-2147483648 : Int), (2147483647 : Int))]).length = B.length + 1 := by rw [List.length_append, List.length_singleton]
    have hρ : ∀ i, i < B.length → (fun i => if i = B.length then z.toInt else ρ i) i = ρ i := fun i hi => if_neg (by omega)
    have hk := ab_okS_push (a := (0, B.length, 0)) (ab_okS_ext hS1 (Nat.le_of_lt (by omega : B.length < (B ++ [((-2147483648 : Int), (2147483647 : Int))]).length)) hρ) (by show B.length < _; omega)
    rw [show ab_V ad wr cr (fun i => if i = B.length then z.toInt else ρ i) (0, B.length, 0) = .int z from congrArg Value.int (by show Int32.ofInt ((if B.length = B.length then z.toInt else _) + 0) = z; rw [if_pos rfl, Int.add_zero, Int32.ofInt_toInt])] at hk
    exact kk _ _ (ab_K_fresh hK (ab_r32 z).1 (ab_r32 z).2 [] (fun f hf => by cases hf)) (by omega) hρ hk
  have fr64 : ∀ (z : Int64) (S1 : List ab_AV) (st1 : List Value), S' = (1, B.length, 0) :: S1 → B' = B ++ [(-9223372036854775808, 9223372036854775807)] → ab_okS ad wr cr B.length ρ S1 st1 → W p l e R s m args below meth c H locs cells slots Q (F0 m (pc + len) ls (.long z :: st1)) := by
    intro z S1 st1 e1 e2 hS1
    subst e1; subst e2
    have hl : (B ++ [((-9223372036854775808 : Int), (9223372036854775807 : Int))]).length = B.length + 1 := by rw [List.length_append, List.length_singleton]
    have hρ : ∀ i, i < B.length → (fun i => if i = B.length then z.toInt else ρ i) i = ρ i := fun i hi => if_neg (by omega)
    have hk := ab_okS_push (a := (1, B.length, 0)) (ab_okS_ext hS1 (Nat.le_of_lt (by omega : B.length < (B ++ [((-9223372036854775808 : Int), (9223372036854775807 : Int))]).length)) hρ) (by show B.length < _; omega)
    rw [show ab_V ad wr cr (fun i => if i = B.length then z.toInt else ρ i) (1, B.length, 0) = .long z from congrArg Value.long (by show Int64.ofInt ((if B.length = B.length then z.toInt else _) + 0) = z; rw [if_pos rfl, Int.add_zero, Int64.ofInt_toInt])] at hk
    exact kk _ _ (ab_K_fresh hK (ab_r64 z).1 (ab_r64 z).2 [] (fun f hf => by cases hf)) (by omega) hρ hk
  unfold ab_ks at h
  split at h
  · split at h
    · rename_i z9 hz9
      split at h
      · rename_i q9 hq9
        obtain ⟨g, h2⟩ := ab_cs h
        rw [Bool.and_eq_true, Bool.and_eq_true] at g
        have g9 := Nat.le_of_ble_eq_true g.2
        have := ab_beq g.1.1; subst this
        cases h2
        obtain ⟨i1, i2⟩ := ab_is0_ok (ad := ad) (wr := wr) (cr := cr) hK.2.2.1 hK.2.2.2.1 g.1.2
        have hZ := b1 q9 (List.mem_of_getElem? hq9)
        rw [i1] at hZ
        have hk := kk ρ _ hK (Nat.le_refl _) (fun _ _ => rfl) (ab_okS_push hS i2)
        rcases hPS _ (ab_pk_mem hz9) with ⟨r1, -⟩ | ⟨-, x9, r1, r2⟩ | ⟨r1, -⟩ | ⟨r1, -⟩ | ⟨r1, -⟩ | ⟨r1, -⟩
        · replace r1 : z9 = 1000 := r1
          omega
        · replace r1 : kd.1[z9]? = some x9 := r1
          rw [hq9] at r1
          cases r1
          rcases r2 with r2 | ⟨host, r2⟩
          · exact va_gets hx hb hZ hSS hown (hts _ r2) (fun _ h9 => h9) hdg hk
          · exact va_getsN hx hb hZ hSS hown (va_Nw.use rfl (b4 _ r2)) (fun _ h9 => h9) hdg hk
        · replace r1 : z9 = 1001 := r1
          omega
        · replace r1 : z9 = 1002 := r1
          omega
        · replace r1 : z9 = 1003 := r1
          omega
        · replace r1 : 2000 ≤ z9 := r1
          omega
      · cases h
    · cases h
  · split at h
    · rename_i s9 c9 k9 z9 S9
      split at h
      · rename_i n9 hn9
        split at h
        · rename_i ab9 hab9
          obtain ⟨g, h2⟩ := ab_cs h
          have := ab_beq g; subst this
          cases h2
          obtain ⟨st1, rfl, hs1, hS1⟩ := ab_okS_pop hS
          obtain ⟨st2, rfl, hs2, hS2⟩ := ab_okS_pop hS1
          obtain ⟨i1, i2, i3, i4⟩ := ab_ix_ok hK.1 hs1 hab9
          obtain ⟨f, hT⟩ := b2 k9 _ (ab_ca_ok hn9)
          exact va_ti hx hb hT hSS i1 rfl hdg (fr32 _ _ _ rfl rfl hS2)
        · cases h
      · cases h
    · cases h
  · split at h
    · rename_i s9 c9 k9 z9 S9
      split at h
      · rename_i n9 hn9
        split at h
        · rename_i ab9 hab9
          obtain ⟨g, h2⟩ := ab_cs h
          have := ab_beq g; subst this
          cases h2
          obtain ⟨st1, rfl, hs1, hS1⟩ := ab_okS_pop hS
          obtain ⟨st2, rfl, hs2, hS2⟩ := ab_okS_pop hS1
          obtain ⟨i1, i2, i3, i4⟩ := ab_ix_ok hK.1 hs1 hab9
          obtain ⟨f, hT⟩ := b2 k9 _ (ab_ca_ok hn9)
          exact va_tl hx hb hT hSS i1 rfl hdg (fr64 _ _ _ rfl rfl hS2)
        · cases h
      · cases h
    · cases h
  · split at h
    · rename_i s9 c9 k9 z9 S9
      split at h
      · rename_i n9 hn9
        split at h
        · rename_i ab9 hab9
          obtain ⟨g, h2⟩ := ab_cs h
          have := ab_beq g; subst this
          cases h2
          obtain ⟨st1, rfl, hs1, hS1⟩ := ab_okS_pop hS
          obtain ⟨st2, rfl, hs2, hS2⟩ := ab_okS_pop hS1
          obtain ⟨i1, i2, i3, i4⟩ := ab_ix_ok hK.1 hs1 hab9
          have hT : va_T (.object "NameNotes$Word") (cr k9) n9 (fun j => .ref (wr j)) A s s.heap := b2 k9 _ (ab_ca_ok hn9)
          have hs1 : s9 < B.length := hs1
          have hk := kk ρ _ hK (Nat.le_refl _) (fun _ _ => rfl) (ab_okS_push (a := (4, s9, c9)) hS2 hs1)
          have h0 : 0 ≤ ρ s9 + c9 := by
            unfold ab_ix at hab9
            obtain ⟨g1, -⟩ := ab_cs hab9
            rw [Bool.and_eq_true, Bool.and_eq_true, ab_le_iff] at g1
            have := hK.1 s9 hs1
            omega
          have e1 : ab_V ad wr cr ρ (4, s9, c9) = va_rf (some (wr (ρ s9 + c9).toNat)) := by
            show ab_wv wr (ρ s9 + c9) = _
            cases hc : ρ s9 + c9 with
            | ofNat n => rfl
            | negSucc n => rw [hc] at h0; exact absurd h0 (by omega)
          rw [e1, ← i2] at hk
          exact vb_tq hx hb hT hSS i1 rfl hdg hk
        · cases h
      · cases h
    · cases h
  · split at h
    · rename_i k9 z9 S9
      split at h
      · rename_i x9 hx9
        obtain ⟨g, h2⟩ := ab_cs h
        have := ab_beq g; subst this
        cases h2
        obtain ⟨st1, rfl, hs1, hS1⟩ := ab_okS_pop hS
        have ha := b2 k9 _ hx9
        obtain ⟨t9, n9⟩ := x9
        have hz : ρ 0 = 0 := hK.2.2.1
        have hk := kk ρ _ hK (Nat.le_refl _) (fun _ _ => rfl) (ab_okS_push (a := (0, 0, (n9 : Int))) hS1 hK.2.2.2.1)
        rw [show ab_V ad wr cr ρ (0, 0, (n9 : Int)) = .int (Int32.ofNat n9) from congrArg Value.int (by show Int32.ofInt (ρ 0 + (n9 : Int)) = _; rw [hz, Int.zero_add]; rfl)] at hk
        match t9, ha with
        | 0, ha =>
          obtain ⟨f, hT⟩ := ha
          exact va_tlen hx hb hT hSS rfl hdg hk
        | 1, ha =>
          obtain ⟨f, hT⟩ := ha
          exact va_tlen hx hb hT hSS rfl hdg hk
        | 4, ha =>
          have hT : va_T (.object "NameNotes$Word") (cr k9) n9 (fun j => .ref (wr j)) A s s.heap := ha
          exact va_tlen hx hb hT hSS rfl hdg hk
      · cases h
    · cases h
  · split at h
    · rename_i x9 w9 s9 c9 S9
      split at h
      · rename_i z9 hz9
        obtain ⟨g, h2⟩ := ab_cs h
        rw [Bool.and_eq_true, Bool.and_eq_true, Bool.and_eq_true, ab_le_iff, ab_le_iff] at g
        obtain ⟨⟨⟨g1, g2⟩, g3⟩, g4⟩ := g
        have := ab_beq g1; subst this
        have g2 := ab_beq g2
        subst g2
        cases h2
        obtain ⟨st1, rfl, hs1, hS1⟩ := ab_okS_pop hS
        have hs1 : s9 < B.length := hs1
        have hb9 := hK.1 s9 hs1
        obtain ⟨v, hv⟩ := b3 (ρ s9 + c9).toNat (by omega)
        have e1 : ab_V ad wr cr ρ (4, s9, c9) = .ref (wr (ρ s9 + c9).toNat) := by
          show ab_wv wr (ρ s9 + c9) = _
          cases hc : ρ s9 + c9 with
          | ofNat n => rfl
          | negSucc n => exfalso; have := Int.negSucc_lt_zero n; omega
        rw [e1]
        rcases hPS _ (ab_pk_mem hz9) with ⟨-, r1⟩ | ⟨r1, -⟩ | ⟨r1, -⟩ | ⟨r1, -⟩ | ⟨r1, -⟩ | ⟨r1, -⟩
        · exact vk_getf hx hb hv hSS hown (hts _ r1) (fun _ h9 => h9) hdg (fr64 _ _ _ rfl rfl hS1)
        · exact absurd (show 1000 < 1000 from r1) (by decide)
        · exact absurd (show 1000 = 1001 from r1) (by decide)
        · exact absurd (show 1000 = 1002 from r1) (by decide)
        · exact absurd (show 1000 = 1003 from r1) (by decide)
        · exact absurd (show 2000 ≤ 1000 from r1) (by decide)
      · cases h
    · cases h
  · split at h
    · rename_i s9 c9 S9
      obtain ⟨g, h2⟩ := ab_cs h
      have := ab_beq g; subst this
      cases h2
      obtain ⟨st1, rfl, hs1, hS1⟩ := ab_okS_pop hS
      exact lv_i2c hx hb hdg rfl (fr32 _ _ _ rfl rfl hS1)
    · cases h
  · cases h
end
