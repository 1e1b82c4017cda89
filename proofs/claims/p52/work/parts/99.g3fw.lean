/-! what never changes, with what it holds; calls by what they do; a method gone through -/
def fw_xk (kv : Nat → Nat → Int) (k t n q : Nat) (A : Nat → Prop) (U : State) : Prop := match t with
  | 0 => va_T .int q n (fun j => .int (Int32.ofInt (kv k j))) A U U.heap
  | 1 => va_T .long q n (fun j => .long (Int64.ofInt (kv k j))) A U U.heap
  | _ => True
theorem fw_xk_go {kv : Nat → Nat → Int} {k t n q : Nat} {A B : Nat → Prop} {s U : State} (h : fw_xk kv k t n q A s) (hvm : s.vm.Alike U.vm) (hq : ∀ a : Nat, a < s.heap.size → ¬ A a → U.heap[a]? = s.heap[a]?) (hAB : ∀ q, B q → A q) : fw_xk kv k t n q B U := by
  match t, h with
  | 0, h => exact ((va_T.moved hvm h).kept hq).narrow hAB
  | 1, h => exact ((va_T.moved hvm h).kept hq).narrow hAB
  | n + 2, _ => trivial
def fw_CB (cy : Nat → ClassId) (ad wr cr : Nat → Nat) (kd : ab_KD) (kv : Nat → Nat → Int) (wc : Nat → Int) (A : Nat → Prop) (U : State) : Prop :=
  ab_CB cy ad wr cr kd A U ∧ (∀ (k : Nat) (x : Nat × Nat), kd.2.1[k]? = some x → fw_xk kv k x.1 x.2 (cr k) A U) ∧
  (∀ i : Nat, i < 17 → va_OF "NameNotes$Word" "code" "J" (.long (Int64.ofInt (wc i))) (wr i) A U U.heap) ∧ ∀ i j : Nat, i < 17 → j < 17 → wr i = wr j → i = j
theorem fw_CB_go {cy : Nat → ClassId} {ad wr cr : Nat → Nat} {kd : ab_KD} {kv : Nat → Nat → Int} {wc : Nat → Int} {A B : Nat → Prop} {s U : State} (h : fw_CB cy ad wr cr kd kv wc A s) (hW : s.WarmedH U.vm) (hq : ∀ a : Nat, a < s.heap.size → ¬ A a → U.heap[a]? = s.heap[a]?) (hAB : ∀ q, B q → A q) : fw_CB cy ad wr cr kd kv wc B U :=
  ⟨ab_CB_go h.1 hW hq hAB, fun k x hx => fw_xk_go (h.2.1 k x hx) hW.alike hq hAB, fun i hi => ((va_OF.moved hW.alike (h.2.2.1 i hi)).kept hq).narrow hAB, h.2.2.2⟩
theorem fw_CB_blind {cy : Nat → ClassId} {ad wr cr : Nat → Nat} {kd : ab_KD} {kv : Nat → Nat → Int} {wc : Nat → Int} {A : Nat → Prop} {U : State} {g : JFrame} {mk : MethodId} {a : Array Value} (h : fw_CB cy ad wr cr kd kv wc A U) : fw_CB cy ad wr cr kd kv wc A (U.calling g mk a) :=
  ⟨ab_CB_blind h.1, fun k x hx => fw_xk_go (s := U) (U := U.calling g mk a) (h.2.1 k x hx) (Vm.Alike.refl U.vm) (fun _ _ _ => rfl) (fun _ h => h), fun i hi => va_OF.moved (u := U) (U := U.calling g mk a) (Vm.Alike.refl U.vm) (h.2.2.1 i hi), h.2.2.2⟩
abbrev fw_KS : Type := List ab_AV → Prop
def fw_ch (x : Int) : Int := (((Int32.ofInt x).toUInt32 % 65536).toInt32).toInt
def fw_ks (kd : ab_KD) (kv : Nat → Nat → Int) (wc : Nat → Int) (PS : ab_PS) (i : Instr) (len : Nat) (S : List ab_AV) (K : fw_KS) : Prop := match i with
  | .getstatic x => match ab_pk PS x with
    | some z => match kd.1[z]? with
      | some q => fw_if (len.beq 3 && ab_is0 q.2.2.2 && z.ble 999) (K (q.2.2.2 :: S))
      | none => False
    | none => False
  | .iaload => match S with
    | (0, _, x) :: (5, k, _) :: S => match ab_ca kd 0 k with
      | some n => fw_if (len.beq 1 && n.ble 2147483647) ((0 ≤ fw_c x ∧ fw_c x < (n : Int)) ∧ K ((0, 0, kv k (fw_c x).toNat) :: S))
      | none => False
    | _ => False
  | .laload => match S with
    | (0, _, x) :: (5, k, _) :: S => match ab_ca kd 1 k with
      | some n => fw_if (len.beq 1 && n.ble 2147483647) ((0 ≤ fw_c x ∧ fw_c x < (n : Int)) ∧ K ((1, 0, kv k (fw_c x).toNat) :: S))
      | none => False
    | _ => False
  | .aaload => match S with
    | (0, _, x) :: (5, k, _) :: S => match ab_ca kd 4 k with
      | some n => fw_if (len.beq 1 && n.ble 2147483647) ((0 ≤ fw_c x ∧ fw_c x < (n : Int)) ∧ K ((4, 0, fw_c x) :: S))
      | none => False
    | _ => False
  | .arraylength => match S with
    | (5, k, _) :: S => match kd.2.1[k]? with
      | some x => fw_if (len.beq 1) (K ((0, 0, (x.2 : Int)) :: S))
      | none => False
    | _ => False
  | .getfield x => match S with
    | (4, _, c) :: S => match ab_pk PS x with
      | some z => fw_if (len.beq 3 && z.beq 1000) ((0 ≤ c ∧ c ≤ 16) ∧ K ((1, 0, wc c.toNat) :: S))
      | none => False
    | _ => False
  | .i2c => match S with
    | (0, s, c) :: S => fw_if (len.beq 1) (K ((0, s, fw_ch c) :: S))
    | _ => False
  | _ => False
def fw_mth (z lev len : Nat) (S : List ab_AV) (K : fw_KS) : Prop := match z, S with
  | 1001, (0, _, d) :: (0, s, c) :: S => fw_if (len.beq 3 && (1 : Nat).ble lev && (ab_cat S).ble 8) (K ((0, s, if fw_c c < fw_c d then fw_c d else fw_c c) :: S))
  | 1002, (0, _, d) :: (0, s, c) :: S => fw_if (len.beq 3 && (1 : Nat).ble lev && (ab_cat S).ble 8) (K ((0, s, if fw_c d < fw_c c then fw_c d else fw_c c) :: S))
  | 1003, (1, s, c) :: S => fw_if (len.beq 3 && (1 : Nat).ble lev && (ab_cat S).ble 8) (-9223372036854775807 ≤ fw_d c ∧ K ((1, s, if 0 < fw_d c then fw_d c else -fw_d c) :: S))
  | _, _ => False
section
variable {p : Program} {l : Launch} {e : Env} {R : Room} {s : State} {m : MethodId} {args : Array Value} {below : List Frame} {meth : Method} {c : Code} {H : Heap} {locs : List Loc} {cells slots : Nat} {Q : State → Prop} {cc : ByteArray} {pc : Nat} {ls : Array Slot} {st : List Value}
variable {ad wr cr : Nat → Nat} {cy : Nat → ClassId} {S : List ab_AV} {own : String} {i : Instr} {len lev : Nat} {D : va_G} {cl : List vw_C} {A : Nat → Prop} {Ts : List Jvm.Cond} {kd : ab_KD} {PS : ab_PS} {kv : Nat → Nat → Int} {wc : Nat → Int} {K : fw_KS}
set_option maxHeartbeats 4000000 in
theorem fw_ks_ok (hx : p.tables.exec = Jvm.exec) (hb : c.code = cc) (hown : s.vm.findClass own = some m.cls) (hts : ∀ w ∈ Ts, w.before args s = true) (hCB : fw_CB cy ad wr cr kd kv wc A s) (hPS : ∀ q ∈ PS, ab_psok Ts kd own q)
    (h : fw_ks kd kv wc PS i len S K) (hdg : decode cc pc = .ok (i, len)) (hS : fw_okS ad wr cr S st) (hSS : va_S A s.heap H locs)
    (kk : ∀ (S' : List ab_AV) (st' : List Value), K S' → fw_okS ad wr cr S' st' → W p l e R s m args below meth c H locs cells slots Q (F0 m (pc + len) ls st')) : W p l e R s m args below meth c H locs cells slots Q (F0 m pc ls st) := by
  obtain ⟨⟨b1, b2, b3, b4, -⟩, x2, x3, -⟩ := hCB
  unfold fw_ks at h
  split at h
  · split at h
    · rename_i z9 hz9
      split at h
      · rename_i q9 hq9
        have h0 := fw_if_ok h
        clear h
        obtain ⟨g, h⟩ := h0
        rw [Bool.and_eq_true, Bool.and_eq_true] at g
        have g9 := Nat.le_of_ble_eq_true g.2
        have := ab_beq g.1.1; subst this
        obtain ⟨i1, -⟩ := ab_is0_ok (ad := ad) (wr := wr) (cr := cr) (ρ := fw_z) (n := 1) rfl (Nat.zero_lt_one) g.1.2
        have hZ := b1 q9 (List.mem_of_getElem? hq9)
        rw [i1] at hZ
        have hk := kk _ _ h (fw_push hS)
        rcases hPS _ (ab_pk_mem hz9) with ⟨r1, -⟩ | ⟨-, x9, r1, r2⟩ | ⟨r1, -⟩ | ⟨r1, -⟩ | ⟨r1, -⟩ | ⟨r1, -⟩
        · replace r1 : z9 = 1000 := r1
          omega
        · replace r1 : kd.1[z9]? = some x9 := r1
          rw [hq9] at r1
          cases r1
          rcases r2 with r2 | ⟨host, r2⟩
          · exact va_gets hx hb hZ hSS hown (hts _ r2) (fun _ h9 => h9) hdg hk
          · have zN := b4 _ r2
            dsimp only at zN
            exact va_getsN hx hb hZ hSS hown (va_Nw.use rfl zN) (fun _ h9 => h9) hdg hk
        · replace r1 : z9 = 1001 := r1
          omega
        · replace r1 : z9 = 1002 := r1
          omega
        · replace r1 : z9 = 1003 := r1
          omega
        · replace r1 : 2000 ≤ z9 := r1
          omega
      · exact h.elim
    · exact h.elim
  · split at h
    · rename_i s9 x9 k9 z9 S9
      split at h
      · rename_i n9 hn9
        have h0 := fw_if_ok h
        clear h
        obtain ⟨g, hin, h⟩ := h0
        rw [Bool.and_eq_true] at g
        have := ab_beq g.1; subst this
        obtain ⟨st1, rfl, hS1⟩ := fw_pop0 hS
        obtain ⟨st2, rfl, hS2⟩ := fw_pop hS1
        obtain ⟨i1, i2⟩ := fw_idx g.2 hin
        have hT : va_T .int (cr k9) n9 (fun j => .int (Int32.ofInt (kv k9 j))) A s s.heap := x2 k9 _ (ab_ca_ok hn9)
        exact va_ti hx hb hT hSS i1 (by rw [i2]) hdg (kk _ _ h (fw_push0 hS2))
      · exact h.elim
    · exact h.elim
  · split at h
    · rename_i s9 x9 k9 z9 S9
      split at h
      · rename_i n9 hn9
        have h0 := fw_if_ok h
        clear h
        obtain ⟨g, hin, h⟩ := h0
        rw [Bool.and_eq_true] at g
        have := ab_beq g.1; subst this
        obtain ⟨st1, rfl, hS1⟩ := fw_pop0 hS
        obtain ⟨st2, rfl, hS2⟩ := fw_pop hS1
        obtain ⟨i1, i2⟩ := fw_idx g.2 hin
        have hT : va_T .long (cr k9) n9 (fun j => .long (Int64.ofInt (kv k9 j))) A s s.heap := x2 k9 _ (ab_ca_ok hn9)
        exact va_tl hx hb hT hSS i1 (by rw [i2]) hdg (kk _ _ h (fw_push1 hS2))
      · exact h.elim
    · exact h.elim
  · split at h
    · rename_i s9 x9 k9 z9 S9
      split at h
      · rename_i n9 hn9
        have h0 := fw_if_ok h
        clear h
        obtain ⟨g, hin, h⟩ := h0
        rw [Bool.and_eq_true] at g
        have := ab_beq g.1; subst this
        obtain ⟨st1, rfl, hS1⟩ := fw_pop0 hS
        obtain ⟨st2, rfl, hS2⟩ := fw_pop hS1
        obtain ⟨i1, i2⟩ := fw_idx g.2 hin
        have hT : va_T (.object "NameNotes$Word") (cr k9) n9 (fun j => .ref (wr j)) A s s.heap := b2 k9 _ (ab_ca_ok hn9)
        have hk := kk _ _ h (fw_push (a := (4, 0, fw_c x9)) hS2)
        have e1 : ab_V ad wr cr fw_z (4, 0, fw_c x9) = va_rf (some (wr (fw_c x9).toNat)) := by
          rw [fw_V4]
          cases hc : fw_c x9 with
          | ofNat n => rfl
          | negSucc n => exfalso; have := hin.1; rw [hc] at this; exact absurd this (by omega)
        rw [e1, ← i2] at hk
        exact vb_tq hx hb hT hSS i1 rfl hdg hk
      · exact h.elim
    · exact h.elim
  · split at h
    · rename_i k9 z9 S9
      split at h
      · rename_i x9 hx9
        have h0 := fw_if_ok h
        clear h
        obtain ⟨g, h⟩ := h0
        have := ab_beq g; subst this
        obtain ⟨st1, rfl, hS1⟩ := fw_pop hS
        have ha := b2 k9 _ hx9
        obtain ⟨t9, n9⟩ := x9
        have hk := kk _ _ h (fw_push0 (c := (n9 : Int)) hS1)
        match t9, ha with
        | 0, ha =>
          obtain ⟨f, hT⟩ := ha
          exact va_tlen hx hb hT hSS rfl hdg hk
        | 1, ha =>
          obtain ⟨f, hT⟩ := ha
          exact va_tlen hx hb hT hSS rfl hdg hk
        | 4, ha =>
          have hT : va_T (.object "NameNotes$Word") (cr k9) n9 (fun j => .ref (wr j)) A s s.heap := ha
          exact va_tlen hx hb hT hSS rfl hdg hk
      · exact h.elim
    · exact h.elim
  · split at h
    · rename_i x9 w9 s9 c9 S9
      split at h
      · rename_i z9 hz9
        have h0 := fw_if_ok h
        clear h
        obtain ⟨g, hin, h⟩ := h0
        rw [Bool.and_eq_true] at g
        have := ab_beq g.1; subst this
        have g2 := ab_beq g.2
        subst g2
        obtain ⟨st1, rfl, hS1⟩ := fw_pop hS
        have hv := x3 c9.toNat (by omega)
        have e1 : ab_V ad wr cr fw_z (4, s9, c9) = .ref (wr c9.toNat) := by
          rw [fw_V4]
          cases hc : c9 with
          | ofNat n => rfl
          | negSucc n => exfalso; have := hin.1; rw [hc] at this; exact absurd this (by omega)
        rw [e1]
        rcases hPS _ (ab_pk_mem hz9) with ⟨-, r1⟩ | ⟨r1, -⟩ | ⟨r1, -⟩ | ⟨r1, -⟩ | ⟨r1, -⟩ | ⟨r1, -⟩
        · exact vk_getf hx hb hv hSS hown (hts _ r1) (fun _ h9 => h9) hdg (kk _ _ h (fw_push1 hS1))
        · exact absurd (show 1000 < 1000 from r1) (by decide)
        · exact absurd (show 1000 = 1001 from r1) (by decide)
        · exact absurd (show 1000 = 1002 from r1) (by decide)
        · exact absurd (show 1000 = 1003 from r1) (by decide)
        · exact absurd (show 2000 ≤ 1000 from r1) (by decide)
      · exact h.elim
    · exact h.elim
  · split at h
    · have h0 := fw_if_ok h
      clear h
      obtain ⟨g, h⟩ := h0
      have := ab_beq g; subst this
      obtain ⟨st1, rfl, hS1⟩ := fw_pop0 hS
      exact lv_i2c hx hb hdg rfl (kk _ _ h (fw_pushi hS1 (Int32.ofInt_toInt _)))
    · exact h.elim
  · exact h.elim
set_option maxHeartbeats 4000000 in
theorem fw_mth_ok {z9 x9 : Nat} (hx : p.tables.exec = Jvm.exec) (hb : c.code = cc) (hml : c.maxLocals = ls.size) (hown : s.vm.findClass own = some m.cls) (hts : ∀ w ∈ Ts, w.before args s = true) (hPS : ab_psok Ts kd own (x9, z9)) (hR : lev ≤ R.frames ∧ 40 * lev ≤ R.locals) (hc9 : cells ≤ R.cells) (hs9 : slots ≤ R.slots)
    (h : fw_mth z9 lev len S K) (hdg : decode cc pc = .ok (.invokestatic x9, len)) (hS : fw_okS ad wr cr S st)
    (kk : ∀ (S' : List ab_AV) (st' : List Value), K S' → fw_okS ad wr cr S' st' → W p l e R s m args below meth c H locs cells slots Q (F0 m (pc + 3) ls st')) : W p l e R s m args below meth c H locs cells slots Q (F0 m pc ls st) := by
  unfold fw_mth at h
  split at h
  · rename_i t9 d9 s9 c9 S9
    have h0 := fw_if_ok h
    clear h
    obtain ⟨g, h⟩ := h0
    rw [Bool.and_eq_true, Bool.and_eq_true] at g
    obtain ⟨⟨g1, g2⟩, g3⟩ := g
    have := ab_beq g1; subst this
    have g2 := Nat.le_of_ble_eq_true g2
    have g3 := Nat.le_of_ble_eq_true g3
    obtain ⟨st1, rfl, hS1⟩ := fw_pop0 hS
    obtain ⟨st2, rfl, hS2⟩ := fw_pop0 hS1
    have hcat : (st2.map fun v => v.category).sum + 13 ≤ R.locals := by
      rw [show st2 = _ from hS2, ← ab_catS]
      omega
    rcases hPS with ⟨r1, -⟩ | ⟨r1, -⟩ | ⟨r1, r2⟩ | ⟨r1, r2⟩ | ⟨r1, r2⟩ | ⟨r1, -⟩
    · exact absurd (show 1001 = 1000 from r1) (by decide)
    · exact absurd (show 1001 < 1000 from r1) (by decide)
    · obtain ⟨w1, w2, w3, w4⟩ := r2
      exact va_mmax hx hb hml hown (hts _ w1) (hts _ w2) (hts _ w3) (hts _ w4) (Nat.le_trans g2 hR.1) hcat hc9 hs9 hdg (kk _ _ h (fw_pushi hS2 (ab_max32 rfl rfl).symm))
    · exact absurd (show 1001 = 1002 from r1) (by decide)
    · exact absurd (show 1001 = 1003 from r1) (by decide)
    · exact absurd (show 2000 ≤ 1001 from r1) (by decide)
  · rename_i t9 d9 s9 c9 S9
    have h0 := fw_if_ok h
    clear h
    obtain ⟨g, h⟩ := h0
    rw [Bool.and_eq_true, Bool.and_eq_true] at g
    obtain ⟨⟨g1, g2⟩, g3⟩ := g
    have := ab_beq g1; subst this
    have g2 := Nat.le_of_ble_eq_true g2
    have g3 := Nat.le_of_ble_eq_true g3
    obtain ⟨st1, rfl, hS1⟩ := fw_pop0 hS
    obtain ⟨st2, rfl, hS2⟩ := fw_pop0 hS1
    have hcat : (st2.map fun v => v.category).sum + 13 ≤ R.locals := by
      rw [show st2 = _ from hS2, ← ab_catS]
      omega
    rcases hPS with ⟨r1, -⟩ | ⟨r1, -⟩ | ⟨r1, r2⟩ | ⟨r1, r2⟩ | ⟨r1, r2⟩ | ⟨r1, -⟩
    · exact absurd (show 1002 = 1000 from r1) (by decide)
    · exact absurd (show 1002 < 1000 from r1) (by decide)
    · exact absurd (show 1002 = 1001 from r1) (by decide)
    · obtain ⟨w1, w2, w3, w4⟩ := r2
      exact va_mmin hx hb hml hown (hts _ w1) (hts _ w2) (hts _ w3) (hts _ w4) (Nat.le_trans g2 hR.1) hcat hc9 hs9 hdg (kk _ _ h (fw_pushi hS2 (ab_min32 rfl rfl).symm))
    · exact absurd (show 1002 = 1003 from r1) (by decide)
    · exact absurd (show 2000 ≤ 1002 from r1) (by decide)
  · rename_i s9 c9 S9
    have h0 := fw_if_ok h
    clear h
    obtain ⟨g, hlo, h⟩ := h0
    rw [Bool.and_eq_true, Bool.and_eq_true] at g
    obtain ⟨⟨g1, g2⟩, g3⟩ := g
    have := ab_beq g1; subst this
    have g2 := Nat.le_of_ble_eq_true g2
    have g3 := Nat.le_of_ble_eq_true g3
    obtain ⟨st1, rfl, hS1⟩ := fw_pop1 hS
    have hcat : (st1.map fun v => v.category).sum + 13 ≤ R.locals := by
      rw [show st1 = _ from hS1, ← ab_catS]
      omega
    rcases hPS with ⟨r1, -⟩ | ⟨r1, -⟩ | ⟨r1, r2⟩ | ⟨r1, r2⟩ | ⟨r1, r2⟩ | ⟨r1, -⟩
    · exact absurd (show 1003 = 1000 from r1) (by decide)
    · exact absurd (show 1003 < 1000 from r1) (by decide)
    · exact absurd (show 1003 = 1001 from r1) (by decide)
    · exact absurd (show 1003 = 1002 from r1) (by decide)
    · obtain ⟨w1, w2, w3, w4⟩ := r2
      exact va_mabs_long hx hb hml hown (hts _ w1) (hts _ w2) (hts _ w3) (hts _ w4) (Nat.le_trans g2 hR.1) hcat hc9 hs9 hdg (kk _ _ h (fw_pushl hS1 (ab_abs64 rfl hlo).symm))
    · exact absurd (show 2000 ≤ 1003 from r1) (by decide)
  · exact h.elim
end
/-- what a method does, by what holds behind it -/
abbrev fw_KR : Type := Option ab_AV → ab_SG → Prop
abbrev fw_SP : Type := List ab_AV → ab_SG → fw_KR → Prop
def fw_QC (cy : Nat → ClassId) (ad wr cr : Nat → Nat) (D : va_G) (cl : List vw_C) (sh : List ab_SP) (K : fw_KR) (A : Nat → Prop) : Array Value → State → Outcome → State → Prop := fun _ st oc t =>
  (∃ (rv : Option ab_AV) (σ' : ab_SG), oc = .returned (rv.map (ab_V ad wr cr fw_z)) ∧ K rv σ' ∧ va_P D cl (ab_WD cy ad wr sh σ') t.heap) ∧ va_F A st t
def fw_PC (cy : Nat → ClassId) (ad wr cr : Nat → Nat) (D : va_G) (cl : List vw_C) (sh : List ab_SP) (NW : ab_NW) (kd : ab_KD) (kv : Nat → Nat → Int) (wc : Nat → Int) (σ : ab_SG) (av : List Value) (sz : Nat) : Array Value → State → Prop :=
  va_Pc av (fun U => U.heap.size = sz ∧ va_P D cl (ab_WD cy ad wr sh σ) U.heap ∧ va_K D cl (ab_tys cy) U ∧ ab_okN NW U ∧ fw_CB cy ad wr cr kd kv wc (ab_A ad sh.length sz) U)
theorem fw_PC_blind {cy : Nat → ClassId} {ad wr cr : Nat → Nat} {D : va_G} {cl : List vw_C} {sh : List ab_SP} {NW : ab_NW} {kd : ab_KD} {kv : Nat → Nat → Int} {wc : Nat → Int} {σ : ab_SG} {av : List Value} {sz : Nat} : FrameBlind (fw_PC cy ad wr cr D cl sh NW kd kv wc σ av sz) := by
  intro a U g mk h
  obtain ⟨h1, h2, h3, h4, h5, h6⟩ := h
  exact ⟨h1, h2, h3, va_K.moved (u := U) (U := U.calling g mk a) (Vm.Alike.refl U.vm) h4, fun q hq => va_Nw.same rfl (u := U) (U := U.calling g mk a) rfl (h5 q hq), fw_CB_blind h6⟩
def fw_hold (l : Launch) (cy : Nat → ClassId) (ad wr cr : Nat → Nat) (D : va_G) (cl : List vw_C) (sh : List ab_SP) (NW : ab_NW) (kd : ab_KD) (kv : Nat → Nat → Int) (wc : Nat → Int) (TT : List Jvm.Cond) (MT : List ab_MR) (mn lev : Nat) (sp : fw_SP) : Prop :=
  ∀ mr : ab_MR, MT[mn]? = some mr → ∀ (as : List ab_AV) (σ : ab_SG) (sz : Nat) (K : fw_KR), sp as σ K →
    Met l mr.1 (Jvm.Cond.code mr.1 mr.2.1 mr.2.2.1 mr.2.2.2.1 :: TT) (ab_room lev) (fw_PC cy ad wr cr D cl sh NW kd kv wc σ (as.map (ab_V ad wr cr fw_z)) sz) (fw_QC cy ad wr cr D cl sh K (ab_A ad sh.length sz)) 0 0 (ab_A ad sh.length sz)
/-- a call's row: the pool's number, how many it is given, has it an object, the object's kind, how deep, what it does -/
abbrev fw_CR : Type := Nat × Nat × Bool × Nat × Nat × fw_SP
def fw_rok (l : Launch) (cy : Nat → ClassId) (ad wr cr : Nat → Nat) (D : va_G) (cl : List vw_C) (sh : List ab_SP) (NW : ab_NW) (kd : ab_KD) (kv : Nat → Nat → Int) (wc : Nat → Int) (Ts TT : List Jvm.Cond) (MT : List ab_MR) (own : String) (q : fw_CR) : Prop :=
  ∃ (mn k : Nat) (mr : ab_MR), MT[mn]? = some mr ∧ mr.2.2.2.2.1 = q.2.1 ∧ mr.2.2.2.2.2.1 = q.2.2.1 ∧ mr.2.2.1 ≤ 21 ∧ (q.2.2.1 = true → ∃ (T9 : u_T) (N9 : Nat), cl[q.2.2.2.1]? = some (mr.1.cls, T9, N9)) ∧
    ab_mlk MT Ts NW own (q.1, k, mn) ∧ fw_hold l cy ad wr cr D cl sh NW kd kv wc TT MT mn q.2.2.2.2.1 q.2.2.2.2.2
def fw_fk : List fw_CR → Nat → Option fw_CR
  | [], _ => none
  | q :: l, x => match q.1.beq x with
    | true => some q
    | false => fw_fk l x
theorem fw_fk_mem : ∀ {l : List fw_CR} {x : Nat} {q : fw_CR}, fw_fk l x = some q → q ∈ l ∧ q.1 = x := by
  intro l
  induction l with
  | nil => intro x q h; cases h
  | cons a l ih =>
    intro x q h
    unfold fw_fk at h
    cases hc : a.1.beq x with
    | true =>
      rw [hc] at h
      cases h
      exact ⟨List.mem_cons_self, ab_beq hc⟩
    | false =>
      rw [hc] at h
      obtain ⟨h1, h2⟩ := ih h
      exact ⟨List.mem_cons_of_mem _ h1, h2⟩
def fw_rc (sh : List ab_SP) (ob : Bool) (ci : Nat) (as : List ab_AV) : Bool := match ob with
  | false => true
  | true => match as with
    | (2, k, _) :: _ => match sh[k]? with
      | some (.inl o) => o.1.beq ci
      | _ => false
    | _ => false
theorem fw_rc_ok {sh : List ab_SP} {ci : Nat} {as : List ab_AV} (h : fw_rc sh true ci as = true) : ∃ (k9 : Nat) (z9 : Int) (fs9 : List (Nat × Nat)) (as2 : List ab_AV), as = (2, k9, z9) :: as2 ∧ sh[k9]? = some (.inl (ci, fs9)) := by
  unfold fw_rc at h
  dsimp only at h
  split at h
  · rename_i k9 z9 as9
    split at h
    · rename_i o9 ho9
      obtain ⟨o1, o2⟩ := o9
      have e : o1 = ci := ab_beq h
      subst e
      exact ⟨k9, z9, o2, as9, rfl, ho9⟩
    · cases h
  · cases h
def fw_bq (a b : Bool) : Bool := match a with
  | true => b
  | false => !b
theorem fw_bq_ok {a b : Bool} (h : fw_bq a b = true) : a = b := by
  cases a <;> cases b <;> first | rfl | cases h
def fw_cl (sh : List ab_SP) (FK : List fw_CR) (lev : Nat) (i : Instr) (len : Nat) (S : List ab_AV) (σ : ab_SG) (K : fw_KH) : Prop := match ab_iv i with
  | some (ob, x) => match fw_fk FK x with
    | some q => match ab_pop (q.2.1 + cond ob 1 0) S [] with
      | some (as, rest) => fw_if (len.beq 3 && fw_bq ob q.2.2.1 && (ab_cat rest).ble 8 && (q.2.2.2.2.1 + 1).ble lev && fw_rc sh ob q.2.2.2.1 as) (q.2.2.2.2.2 as σ (fun rv σ' => K (rv.toList ++ rest) σ'))
      | none => False
    | none => False
  | none => False
section
variable {p : Program} {l : Launch} {e : Env} {R : Room} {s : State} {m : MethodId} {args : Array Value} {below : List Frame} {meth : Method} {c : Code} {H : Heap} {locs : List Loc} {cells slots : Nat} {Q : State → Prop} {cc : ByteArray} {pc : Nat} {ls : Array Slot} {st st0 rest : List Value}
variable {ad wr cr : Nat → Nat} {cy : Nat → ClassId} {nL lev : Nat} {S : List ab_AV} {own : String} {i : Instr} {len : Nat} {D : va_G} {cl : List vw_C} {sh : List ab_SP} {A A0 A1 : Nat → Prop} {H0 : Heap} {Ts TT : List Jvm.Cond} {NW : ab_NW} {kd : ab_KD} {kv : Nat → Nat → Int} {wc : Nat → Int} {MT : List ab_MR} {FK : List fw_CR} {σ : ab_SG}
theorem fw_callQ {K : fw_KR} {a : Array Value} {free : Addr → Prop} (hr : va_Run p l e R s m args below meth c H locs cells slots 0 0 (F0 m pc ls st0) rest (fw_QC cy ad wr cr D cl sh K A1 a) free) (hS : va_S A0 H0 H locs) (hA : ∀ q, q < H.size → A1 q → A0 q) (hf : ∀ q, free q → A0 q)
    (kk : ∀ (rv : Option ab_AV) (σ' : ab_SG) (H1 : Heap) (locs1 : List Loc), K rv σ' → va_P D cl (ab_WD cy ad wr sh σ') H1 → va_S A0 H0 H1 locs1 → W p l e R s m args below meth c H1 locs1 cells slots Q (F0 m (pc + 3) ls ((rv.map (ab_V ad wr cr fw_z)).toList ++ rest))) : W p l e R s m args below meth c H locs cells slots Q (F0 m pc ls st0) := by
  intro T9 hT X
  obtain ⟨v, st₀, t, T', L, h0, X', hL, e1, e2, ⟨⟨rv, σ', hv, hK, hP⟩, hz, hk⟩, stp⟩ := hr T9 hT X
  cases hv
  rw [h0] at hz hk
  obtain ⟨t2, a1, b1⟩ := kk rv σ' T'.heap (locs ++ L) hK (by rw [e1]; exact hP)
    ⟨Nat.le_trans hS.1 (by rw [e1]; exact hz), fun q h1 h2 => by rw [e1, hk q (Nat.lt_of_lt_of_le h1 hS.1) (fun z => h2 (hA q (Nat.lt_of_lt_of_le h1 hS.1) z))]; exact hS.2.1 q h1 h2, fun q hq => by
      rcases List.mem_append.mp hq with h | h
      · exact hS.2.2 q h
      · exact hf _ (hL q h)⟩ T' rfl X'
  exact ⟨t2, stp t2 a1, b1⟩
theorem fw_toList {rv : Option ab_AV} {S9 : List ab_AV} {st9 : List Value} (h : fw_okS ad wr cr S9 st9) : fw_okS ad wr cr (rv.toList ++ S9) ((rv.map (ab_V ad wr cr fw_z)).toList ++ st9) := by
  cases rv with
  | none => exact h
  | some a => exact fw_push h
set_option maxHeartbeats 4000000 in
theorem fw_cl_ok {K : fw_KH} (hcs : cells ≤ R.cells ∧ slots ≤ R.slots) (hx : p.tables.exec = Jvm.exec) (hb : c.code = cc) (hml : c.maxLocals = nL) (hown : s.vm.findClass own = some m.cls) (hts : ∀ w ∈ Ts, w.before args s = true) (hKK : va_K D cl (ab_tys cy) s) (hN : ab_okN NW s) (hCB : fw_CB cy ad wr cr kd kv wc A s) (hH0 : H0 = s.heap) (hTT : ∀ w ∈ TT, w ∈ Ts ∧ goodWord w = true) (hcode : ∀ mr ∈ MT, goodWord (Jvm.Cond.code mr.1 mr.2.1 mr.2.2.1 mr.2.2.2.1) = true)
    (hA : ∀ k, k < sh.length → A (ad k)) (hA2 : ∀ q, H0.size ≤ q → A q) (hFK : ∀ q ∈ FK, fw_rok l cy ad wr cr D cl sh NW kd kv wc Ts TT MT own q) (hR : lev ≤ R.frames ∧ 40 * lev ≤ R.locals)
    (h : fw_cl sh FK lev i len S σ K) (hdg : decode cc pc = .ok (i, len)) (hS : fw_okS ad wr cr S st) (hlz : ls.size = nL) (hP : va_P D cl (ab_WD cy ad wr sh σ) H) (hSS : va_S A H0 H locs)
    (kk : fw_go p l e R s m args below meth c cells slots Q ad wr cr cy D cl sh A H0 K (pc + 3) ls) : W p l e R s m args below meth c H locs cells slots Q (F0 m pc ls st) := by
  unfold fw_cl at h
  split at h
  · rename_i ob x9 hiv
    split at h
    · rename_i q9 hq9
      split at h
      · rename_i as rest9 hpop
        have h0 := fw_if_ok h
        clear h
        obtain ⟨g, h⟩ := h0
        rw [Bool.and_eq_true, Bool.and_eq_true, Bool.and_eq_true, Bool.and_eq_true] at g
        obtain ⟨⟨⟨⟨g1, g2⟩, g3⟩, g4⟩, g5⟩ := g
        have := ab_beq g1; subst this
        have g2 := fw_bq_ok g2
        have g3 := Nat.le_of_ble_eq_true g3
        have g4 := Nat.le_of_ble_eq_true g4
        obtain ⟨hq1, hq2⟩ := fw_fk_mem hq9
        obtain ⟨mn, k8, mr, hmr, r1, r2, r3, r4, hmlk, hh⟩ := hFK q9 hq1
        obtain ⟨c1, c2, c3, c4, c5, c6, c7⟩ := hmlk mr hmr
        obtain ⟨p1, p2⟩ := ab_pop_ok _ _ _ hpop
        rw [List.reverse_nil, List.nil_append] at p1
        have hst : st = (as.map (ab_V ad wr cr fw_z)).reverse ++ rest9.map (ab_V ad wr cr fw_z) := by
          rw [show st = _ from hS, show S = as.reverse ++ rest9 from p1, List.map_append, List.map_reverse]
        have hM := hh mr hmr as σ H.size _ h
        have hws : ∀ w ∈ (Jvm.Cond.code mr.1 mr.2.1 mr.2.2.1 mr.2.2.2.1 :: TT), ∀ (a' : Array Value) (U : State), s.WarmedH U.vm → w.before a' U = true := by
          intro w hw a' U hW
          rcases List.mem_cons.mp hw with rfl | hw
          · exact word_at hW (good_of_word (hcode mr (List.mem_of_getElem? hmr))) (hts _ c1)
          · exact word_at hW (good_of_word (hTT w hw).2) (hts _ (hTT w hw).1)
        have hcat : ((rest9.map (ab_V ad wr cr fw_z)).map fun v => v.category).sum ≤ 8 := by
          have := ab_cat_ok (ad := ad) (wr := wr) (cr := cr) (ρ := fw_z) rest9 0
          unfold ab_cat at g3
          rw [this] at g3
          omega
        have hfree : ∀ q, ab_A ad sh.length H.size q → A q := by
          rintro q (⟨k, hk, rfl⟩ | hk)
          · exact hA k hk
          · exact hA2 q (Nat.le_trans hSS.1 hk)
        have hpre : ∀ U : State, U.heap = H → s.WarmedH U.vm → fw_PC cy ad wr cr D cl sh NW kd kv wc σ (as.map (ab_V ad wr cr fw_z)) H.size (as.map (ab_V ad wr cr fw_z)).toArray U := fun U hU hW => ⟨rfl, by rw [hU], by rw [hU]; exact hP, va_K.moved hW.alike hKK, ab_okN_moved hW hN, fw_CB_go hCB hW (fun a ha hna => by rw [hU, hSS.2.1 a (by rw [hH0]; exact ha) hna, hH0]) hfree⟩
        have hsig : ∀ sig, parseMethodDescriptor mr.1.desc = some sig → mr.2.2.2.2.1 = sig.parameters.length := fun sig hsg => by
          rw [hsg] at c4
          exact (Option.some.inj c4).symm
        have hfr : (ab_room q9.2.2.2.2.1).frames + 1 ≤ R.frames := by show q9.2.2.2.2.1 + 1 ≤ _; omega
        have hlo : 8 + (mr.2.2.1 + 11) + (ab_room q9.2.2.2.2.1).locals ≤ R.locals := by show 8 + (mr.2.2.1 + 11) + 40 * q9.2.2.2.2.1 ≤ _; omega
        have hfix : CallFix p m c cc nL s args Ts own := ⟨hx, hb, hml, hown, hts⟩
        have hA3 : ∀ q, q < H.size → ab_A ad sh.length H.size q → A q := by
          rintro q hq (⟨k, hk, rfl⟩ | hk)
          · exact hA k hk
          · exact absurd hq (Nat.not_lt.mpr hk)
        have fin : va_Run p l e R s m args below meth c H locs cells slots 0 0 (F0 m pc ls st) (rest9.map (ab_V ad wr cr fw_z)) (fw_QC cy ad wr cr D cl sh (fun rv σ' => K (rv.toList ++ rest9) σ') (ab_A ad sh.length H.size) (as.map (ab_V ad wr cr fw_z)).toArray) (ab_A ad sh.length H.size) → W p l e R s m args below meth c H locs cells slots Q (F0 m pc ls st) := by
          intro hrun
          exact fw_callQ hrun hSS hA3 hfree (fun rv σ' H1 locs1 hk hP1 hSS1 => kk _ σ' H1 locs1 _ hk hP1 hSS1 (fw_toList rfl))
        have hall : (ab_room q9.2.2.2.2.1).cells = 0 ∧ (ab_room q9.2.2.2.2.1).slots = 0 ∧ (ab_room q9.2.2.2.2.1).frames + 1 ≤ R.frames ∧ 8 + (mr.2.2.1 + 11) + (ab_room q9.2.2.2.2.1).locals ≤ R.locals ∧ (∀ w ∈ (Jvm.Cond.code mr.1 mr.2.1 mr.2.2.1 mr.2.2.2.1 :: TT), ∀ (a' : Array Value) (U : State), s.WarmedH U.vm → w.before a' U = true) ∧ Jvm.Cond.code mr.1 mr.2.1 mr.2.2.1 mr.2.2.2.1 ∈ (Jvm.Cond.code mr.1 mr.2.1 mr.2.2.1 mr.2.2.2.1 :: TT) := ⟨rfl, rfl, hfr, hlo, hws, List.mem_cons_self⟩
        have hroom : 2 * (F0 m pc ls st).monitorRoom + ((rest9.map (ab_V ad wr cr fw_z)).map fun v => v.category).sum ≤ 8 := lv_room (rest := st) hcat
        have hz : cells + 0 ≤ R.cells ∧ slots + 0 ≤ R.slots := hcs
        unfold ab_iv at hiv
        split at hiv
        · cases hiv
          obtain ⟨T9, N9, hcl⟩ := r4 g2.symm
          obtain ⟨d1, d2⟩ := c5 (r2.trans g2.symm)
          obtain ⟨k9, z9, fs9, as2, rfl, hsh⟩ := fw_rc_ok g5
          have has2 : as2.length = mr.2.2.2.2.1 := by
            rw [List.length_cons] at p2
            have : as2.length + 1 = q9.2.1 + 1 + 0 := p2
            omega
          have has1 : ((2, k9, z9) :: as2).map (ab_V ad wr cr fw_z) = .ref (ad k9) :: as2.map (ab_V ad wr cr fw_z) := rfl
          rw [has1] at hM hpre fin hst
          rw [List.reverse_cons, List.append_assoc] at hst
          have hrecv := va_recv hKK hP hcl (ab_cell_f (σ := σ) (cy := cy) (ad := ad) (wr := wr) hsh)
          have hpv : PreV s H mr.1.cls (ad k9) (fw_PC cy ad wr cr D cl sh NW kd kv wc σ (.ref (ad k9) :: as2.map (ab_V ad wr cr fw_z)) H.size) (as2.map (ab_V ad wr cr fw_z)) := ⟨fw_PC_blind, hrecv, hpre⟩
          rcases c7 with ⟨-, c7⟩ | ⟨host, c7⟩
          · rw [hq2] at c7
            exact fin (va_runV (As := as2.map (ab_V ad wr cr fw_z)) hfix hM ⟨⟨rfl, rfl, hfr, hlo, hws, List.mem_cons_self, hts _ c1, hts _ c2, c3, hsig, hts _ c7⟩, hts _ d1, hts _ d2⟩ hpv rfl (by rw [List.length_map]; exact has2) hlz hst hroom hdg hz)
          · rw [hq2] at c7
            have zN := hN _ c7
            dsimp only at zN
            exact fin (va_runVN (As := as2.map (ab_V ad wr cr fw_z)) hfix hM ⟨⟨hall, hts _ c1, hts _ c2, c3, hsig, va_Nw.use rfl zN⟩, hts _ d1, hts _ d2⟩ hpv rfl (by rw [List.length_map]; exact has2) hlz hst hroom hdg hz)
        · cases hiv
          have d1 := c6 (r2.trans g2.symm)
          have hps : PreS s H (fw_PC cy ad wr cr D cl sh NW kd kv wc σ (as.map (ab_V ad wr cr fw_z)) H.size) (as.map (ab_V ad wr cr fw_z)) := ⟨fw_PC_blind, hpre⟩
          have hlen : (as.map (ab_V ad wr cr fw_z)).length = mr.2.2.2.2.1 := by
            rw [List.length_map]
            have : as.length = q9.2.1 + 0 + 0 := p2
            omega
          rcases c7 with ⟨-, c7⟩ | ⟨host, c7⟩
          · rw [hq2] at c7
            exact fin (va_runS (As := as.map (ab_V ad wr cr fw_z)) hfix hM ⟨⟨rfl, rfl, hfr, hlo, hws, List.mem_cons_self, hts _ c1, hts _ c2, c3, hsig, hts _ c7⟩, hts _ d1⟩ hps rfl hlen hlz hst hroom hdg hz)
          · rw [hq2] at c7
            have zN := hN _ c7
            dsimp only at zN
            exact fin (va_runSN (As := as.map (ab_V ad wr cr fw_z)) hfix hM ⟨⟨hall, hts _ c1, hts _ c2, c3, hsig, va_Nw.use rfl zN⟩, hts _ d1, trivial⟩ hps rfl hlen hlz hst hroom hdg hz)
        · cases hiv
      · exact h.elim
    · exact h.elim
  · exact h.elim
end
