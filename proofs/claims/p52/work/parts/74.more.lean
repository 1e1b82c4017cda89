/-! what is left of the single instructions: the switch over a list, Math's max, min and abs, a text out of the pool -/
def ab_lus (sp : Bool) (pc : Nat) (S : List ab_AV) (B : ab_BD) (F : ab_FT) (s : Nat) (c : Int) : List (Int × Int) → Option (List ab_SU)
  | [] => some []
  | q :: r => match ab_tg pc q.2, ab_lus sp pc S B F s c r with
    | some n, some l => some (ab_put n S (ab_as sp B F 0 s c 0 q.1) ++ l)
    | _, _ => none
theorem ab_lus_ok {sp : Bool} {pc : Nat} {S : List ab_AV} {B : ab_BD} {F : ab_FT} {ρ : Nat → Int} {s9 : Nat} {c9 d : Int} (hB : ab_okB B ρ) (hF : ab_okF B.length F ρ) (h0 : ρ 0 = 0) (hn : 0 < B.length) (hs : s9 < B.length) : ∀ (ps : List (Int × Int)) (l : List ab_SU), ab_lus sp pc S B F s9 c9 ps = some l →
    Op.lookupswitch.offset ps d (ρ s9 + c9) = d ∨ ∃ n q, ab_tg pc (Op.lookupswitch.offset ps d (ρ s9 + c9)) = some n ∧ (n, S, q) ∈ l ∧ ab_okBF B.length ρ q := by
  intro ps
  induction ps with
  | nil => intro l h; exact Or.inl rfl
  | cons p ps ih =>
    intro l h
    obtain ⟨a, o⟩ := p
    unfold ab_lus at h
    split at h
    · rename_i n9 l9 g1 g2
      cases h
      rw [Op.lookupswitch.offset_cons]
      by_cases e : a = ρ s9 + c9
      · rw [if_pos e]
        obtain ⟨q, hq, hq2⟩ := ab_as_ok (sp := sp) (r := 0) (c := c9) (t := 0) (d := a) hB hF hs hn (by show ρ s9 + c9 = ρ 0 + a; omega)
        exact Or.inr ⟨n9, q, g1, List.mem_append_left _ (ab_put_in hq), hq2⟩
      · rw [if_neg e]
        rcases ih l9 g2 with h1 | ⟨n, q, h1, h2, h3⟩
        · exact Or.inl h1
        · exact Or.inr ⟨n, q, h1, List.mem_append_right _ h2, h3⟩
    · cases h
def ab_cat (S : List ab_AV) : Nat := S.foldl (fun n a => n + cond (a.1.beq 1) 2 1) 0
theorem ab_cat_ok {ad wr cr : Nat → Nat} {ρ : Nat → Int} : ∀ (S : List ab_AV) (n : Nat), S.foldl (fun n a => n + cond (a.1.beq 1) 2 1) n = n + ((S.map (ab_V ad wr cr ρ)).map (fun v => v.category)).sum := by
  intro S
  induction S with
  | nil => intro n; rfl
  | cons a S ih =>
    intro n
    rw [List.foldl_cons, ih]
    have e : (ab_V ad wr cr ρ a).category = cond (a.1.beq 1) 2 1 := by
      cases hc : a.1.beq 1 with
      | false => exact ab_V_cat1 hc
      | true =>
        obtain ⟨t, s, c⟩ := a
        have := ab_beq hc
        subst this
        rfl
    rw [List.map_cons, List.map_cons, List.sum_cons, e]
    omega
theorem ab_max32 {x y : Int32} {X Y : Int} (ex : x.toInt = X) (ey : y.toInt = Y) : (if x < y then y else x) = Int32.ofInt (if X < Y then Y else X) := by
  subst ex; subst ey
  by_cases h : x < y
  · rw [if_pos h, if_pos (Int32.lt_iff_toInt_lt.mp h), Int32.ofInt_toInt]
  · rw [if_neg h, if_neg (fun q => h (Int32.lt_iff_toInt_lt.mpr q)), Int32.ofInt_toInt]
theorem ab_min32 {x y : Int32} {X Y : Int} (ex : x.toInt = X) (ey : y.toInt = Y) : (if y < x then y else x) = Int32.ofInt (if Y < X then Y else X) := by
  subst ex; subst ey
  by_cases h : y < x
  · rw [if_pos h, if_pos (Int32.lt_iff_toInt_lt.mp h), Int32.ofInt_toInt]
  · rw [if_neg h, if_neg (fun q => h (Int32.lt_iff_toInt_lt.mpr q)), Int32.ofInt_toInt]
theorem ab_abs64 {x : Int64} {X : Int} (ex : x.toInt = X) (hX : -9223372036854775807 ≤ X) : (if 0 < x then x else -x) = Int64.ofInt (if 0 < X then X else -X) := by
  subst ex
  by_cases h : 0 < x
  · rw [if_pos h, if_pos (show 0 < x.toInt from Int64.lt_iff_toInt_lt.mp h), Int64.ofInt_toInt]
  · rw [if_neg h, if_neg (show ¬ 0 < x.toInt from fun q => h (Int64.lt_iff_toInt_lt.mpr q)), Int64.ofInt_neg, Int64.ofInt_toInt]
def ab_mx (a b : Int) : Int := cond (ab_le a b) b a
def ab_mn (a b : Int) : Int := cond (ab_le a b) a b
theorem ab_lef {a b : Int} (h : ab_le a b = false) : b ≤ a := by
  rcases Int.lt_or_le b a with q | q
  · exact Int.le_of_lt q
  · rw [ab_le_iff.mpr q] at h
    cases h
theorem ab_mx_ok (a b : Int) : a ≤ ab_mx a b ∧ b ≤ ab_mx a b := by
  unfold ab_mx
  cases h : ab_le a b with
  | true => have := ab_le_iff.mp h; exact ⟨this, Int.le_refl _⟩
  | false => exact ⟨Int.le_refl _, ab_lef h⟩
theorem ab_mn_ok (a b : Int) : ab_mn a b ≤ a ∧ ab_mn a b ≤ b := by
  unfold ab_mn
  cases h : ab_le a b with
  | true => have := ab_le_iff.mp h; exact ⟨Int.le_refl _, this⟩
  | false => exact ⟨ab_lef h, Int.le_refl _⟩
def ab_mth (z lev pc len : Nat) (S : List ab_AV) (B : ab_BD) (F : ab_FT) : Option (List ab_SU) := match z, S with
  | 1001, (0, t, d) :: (0, s, c) :: S => cond (len.beq 3 && (1 : Nat).ble lev && (ab_cat S).ble 8 && ab_in B s c && ab_in B t d)
      (some [(pc + 3, (0, B.length, 0) :: S, B ++ [(ab_mn (ab_lo B s + c) (ab_lo B t + d), ab_mx (ab_hi B s + c) (ab_hi B t + d))], F)]) none
  | 1002, (0, t, d) :: (0, s, c) :: S => cond (len.beq 3 && (1 : Nat).ble lev && (ab_cat S).ble 8 && ab_in B s c && ab_in B t d)
      (some [(pc + 3, (0, B.length, 0) :: S, B ++ [(ab_mn (ab_lo B s + c) (ab_lo B t + d), ab_mx (ab_hi B s + c) (ab_hi B t + d))], (B.length, s, c) :: (B.length, t, d) :: F)]) none
  | 1003, (1, _, _) :: S => cond (len.beq 3 && (1 : Nat).ble lev && (ab_cat S).ble 8)
      (some [(pc + 3, (1, B.length, 0) :: S, B ++ [(-9223372036854775808, 9223372036854775807)], F)]) none
  | _, _ => none
def ab_mo (sp : Bool) (PS : ab_PS) (lev pc : Nat) (i : Instr) (len : Nat) (S : List ab_AV) (B : ab_BD) (F : ab_FT) : Option (List ab_SU) := match i with
  | .lookupswitch dflt ps => match S with
    | (0, s, c) :: S => match ab_tg pc dflt, ab_lus sp pc S B F s c ps.toList with
      | some n, some l => cond (ab_in B s c && (ps.toList.zip (ps.toList.drop 1)).all (fun (a, next) => a.1 < next.1)) (some ((n, S, B, F) :: l)) none
      | _, _ => none
    | _ => none
  | .ldc x => match ab_pk PS x with
    | some z => cond (len.beq 2 && (2000 : Nat).ble z) (some [(pc + 2, (5, z - 2000, 0) :: S, B, F)]) none
    | none => none
  | .invokestatic x => match ab_pk PS x with
    | some z => ab_mth z lev pc len S B F
    | none => none
  | _ => none
section
variable {p : Program} {l : Launch} {e : Env} {R : Room} {s : State} {m : MethodId} {args : Array Value} {below : List Frame} {meth : Method} {c : Code} {H : Heap} {locs : List Loc} {cells slots : Nat} {Q : State → Prop} {cc : ByteArray} {pc : Nat} {ls : Array Slot} {st : List Value}
variable {ad wr cr : Nat → Nat} {cy : Nat → ClassId} {T : ab_RG} {C : ab_CT} {σ0 σ : ab_SG} {B B' : ab_BD} {F : ab_FT} {Dl : ab_DL} {M : ab_ML} {ρ : Nat → Int} {S S' : List ab_AV} {own : String} {i : Instr} {len lev : Nat} {A : Nat → Prop} {Ts : List Jvm.Cond} {kd : ab_KD} {PS : ab_PS}
theorem ab_catS (S : List ab_AV) : ab_cat S = ((S.map (ab_V ad wr cr ρ)).map (fun v => v.category)).sum := by
  have := ab_cat_ok (ad := ad) (wr := wr) (cr := cr) (ρ := ρ) S 0
  unfold ab_cat
  omega
set_option maxHeartbeats 4000000 in
theorem ab_mth_ok {sp9 : Nat} {x9 : Nat} {l9 : List ab_SU} (hx : p.tables.exec = Jvm.exec) (hb : c.code = cc) (hml : c.maxLocals = ls.size) (hown : s.vm.findClass own = some m.cls) (hts : ∀ w ∈ Ts, w.before args s = true) (hPS : ab_psok Ts kd own (x9, sp9)) (hR : lev ≤ R.frames ∧ 40 * lev ≤ R.locals) (hc9 : cells ≤ R.cells) (hs9 : slots ≤ R.slots)
    (h : ab_mth sp9 lev pc len S B F = some l9) (hdg : decode cc pc = .ok (.invokestatic x9, len)) (hK : ab_K T C σ0 B F Dl M ρ σ) (hS : ab_okS ad wr cr B.length ρ S st)
    (kk : ∀ q ∈ l9, ∀ (ρ' : Nat → Int) (st' : List Value), ab_K T C σ0 q.2.2.1 q.2.2.2 Dl M ρ' σ → B.length ≤ q.2.2.1.length → (∀ i, i < B.length → ρ' i = ρ i) → ab_okS ad wr cr q.2.2.1.length ρ' q.2.1 st' → W p l e R s m args below meth c H locs cells slots Q (F0 m q.1 ls st')) : W p l e R s m args below meth c H locs cells slots Q (F0 m pc ls st) := by
  unfold ab_mth at h
  have hl : ∀ b : Int × Int, (B ++ [b]).length = B.length + 1 := fun b => by rw [List.length_append, List.length_singleton]
  split at h
  · rename_i t9 d9 s9 c9 S9
    obtain ⟨g, h2⟩ := ab_cs h
    rw [Bool.and_eq_true, Bool.and_eq_true, Bool.and_eq_true, Bool.and_eq_true] at g
    obtain ⟨⟨⟨⟨g1, g2⟩, g3⟩, g4⟩, g5⟩ := g
    have := ab_beq g1; subst this
    have g2 := Nat.le_of_ble_eq_true g2
    have g3 := Nat.le_of_ble_eq_true g3
    cases h2
    obtain ⟨st1, rfl, hs1, hS1⟩ := ab_okS_pop hS
    obtain ⟨st2, rfl, hs2, hS2⟩ := ab_okS_pop hS1
    have hs1 : t9 < B.length := hs1
    have hs2 : s9 < B.length := hs2
    have ex := ab_in_ok hK.1 hs2 g4
    have ey := ab_in_ok hK.1 hs1 g5
    have bx := hK.1 s9 hs2
    have b_y := hK.1 t9 hs1
    have m1 := ab_mn_ok (ab_lo B s9 + c9) (ab_lo B t9 + d9)
    have m2 := ab_mx_ok (ab_hi B s9 + c9) (ab_hi B t9 + d9)
    have hcat : (st2.map fun v => v.category).sum + 13 ≤ R.locals := by
      rw [hS2.1, ← ab_catS]
      omega
    rcases hPS with ⟨r1, -⟩ | ⟨r1, -⟩ | ⟨r1, r2⟩ | ⟨r1, r2⟩ | ⟨r1, r2⟩ | ⟨r1, -⟩
    · exact absurd (show 1001 = 1000 from r1) (by decide)
    · exact absurd (show 1001 < 1000 from r1) (by decide)
    · obtain ⟨w1, w2, w3, w4⟩ := r2
      refine va_mmax hx hb hml hown (hts _ w1) (hts _ w2) (hts _ w3) (hts _ w4) (Nat.le_trans g2 hR.1) hcat hc9 hs9 hdg ?_
      have hv := ab_K_fresh hK (v := (if ρ s9 + c9 < ρ t9 + d9 then ρ t9 + d9 else ρ s9 + c9)) (l := ab_mn (ab_lo B s9 + c9) (ab_lo B t9 + d9)) (u := ab_mx (ab_hi B s9 + c9) (ab_hi B t9 + d9)) (by split <;> omega) (by split <;> omega) [] (by intro f hf; cases hf)
      have hρ : ∀ i, i < B.length → (fun i => if i = B.length then (if ρ s9 + c9 < ρ t9 + d9 then ρ t9 + d9 else ρ s9 + c9) else ρ i) i = ρ i := fun i hi => if_neg (by omega)
      have hk := ab_okS_push (a := (0, B.length, 0)) (ab_okS_ext hS2 (Nat.le_of_lt (by rw [hl]; omega : B.length < (B ++ [(ab_mn (ab_lo B s9 + c9) (ab_lo B t9 + d9), ab_mx (ab_hi B s9 + c9) (ab_hi B t9 + d9))]).length)) hρ) (by show B.length < _; rw [hl]; omega)
      rw [show ab_V ad wr cr (fun i => if i = B.length then (if ρ s9 + c9 < ρ t9 + d9 then ρ t9 + d9 else ρ s9 + c9) else ρ i) (0, B.length, 0) = .int (if Int32.ofInt (ρ s9 + c9) < Int32.ofInt (ρ t9 + d9) then Int32.ofInt (ρ t9 + d9) else Int32.ofInt (ρ s9 + c9)) from by
        show Value.int (Int32.ofInt ((if B.length = B.length then (if ρ s9 + c9 < ρ t9 + d9 then ρ t9 + d9 else ρ s9 + c9) else _) + 0)) = _
        rw [if_pos rfl, Int.add_zero, ← ab_max32 ex ey]] at hk
      exact kk _ List.mem_cons_self _ _ hv (by rw [hl]; omega) hρ hk
    · exact absurd (show 1001 = 1002 from r1) (by decide)
    · exact absurd (show 1001 = 1003 from r1) (by decide)
    · exact absurd (show 2000 ≤ 1001 from r1) (by decide)
  · rename_i t9 d9 s9 c9 S9
    obtain ⟨g, h2⟩ := ab_cs h
    rw [Bool.and_eq_true, Bool.and_eq_true, Bool.and_eq_true, Bool.and_eq_true] at g
    obtain ⟨⟨⟨⟨g1, g2⟩, g3⟩, g4⟩, g5⟩ := g
    have := ab_beq g1; subst this
    have g2 := Nat.le_of_ble_eq_true g2
    have g3 := Nat.le_of_ble_eq_true g3
    cases h2
    obtain ⟨st1, rfl, hs1, hS1⟩ := ab_okS_pop hS
    obtain ⟨st2, rfl, hs2, hS2⟩ := ab_okS_pop hS1
    have hs1 : t9 < B.length := hs1
    have hs2 : s9 < B.length := hs2
    have ex := ab_in_ok hK.1 hs2 g4
    have ey := ab_in_ok hK.1 hs1 g5
    have bx := hK.1 s9 hs2
    have b_y := hK.1 t9 hs1
    have m1 := ab_mn_ok (ab_lo B s9 + c9) (ab_lo B t9 + d9)
    have m2 := ab_mx_ok (ab_hi B s9 + c9) (ab_hi B t9 + d9)
    have hcat : (st2.map fun v => v.category).sum + 13 ≤ R.locals := by
      rw [hS2.1, ← ab_catS]
      omega
    rcases hPS with ⟨r1, -⟩ | ⟨r1, -⟩ | ⟨r1, r2⟩ | ⟨r1, r2⟩ | ⟨r1, r2⟩ | ⟨r1, -⟩
    · exact absurd (show 1002 = 1000 from r1) (by decide)
    · exact absurd (show 1002 < 1000 from r1) (by decide)
    · exact absurd (show 1002 = 1001 from r1) (by decide)
    · obtain ⟨w1, w2, w3, w4⟩ := r2
      refine va_mmin hx hb hml hown (hts _ w1) (hts _ w2) (hts _ w3) (hts _ w4) (Nat.le_trans g2 hR.1) hcat hc9 hs9 hdg ?_
      have hv := ab_K_fresh hK (v := (if ρ t9 + d9 < ρ s9 + c9 then ρ t9 + d9 else ρ s9 + c9)) (l := ab_mn (ab_lo B s9 + c9) (ab_lo B t9 + d9)) (u := ab_mx (ab_hi B s9 + c9) (ab_hi B t9 + d9)) (by split <;> omega) (by split <;> omega) [(s9, c9), (t9, d9)] (by intro f hf; rcases List.mem_cons.mp hf with rfl | hf; exact ⟨hs2, by show (if ρ t9 + d9 < ρ s9 + c9 then ρ t9 + d9 else ρ s9 + c9) - ρ s9 ≤ c9; split <;> omega⟩; rcases List.mem_cons.mp hf with rfl | hf; exact ⟨hs1, by show (if ρ t9 + d9 < ρ s9 + c9 then ρ t9 + d9 else ρ s9 + c9) - ρ t9 ≤ d9; split <;> omega⟩; cases hf)
      have hρ : ∀ i, i < B.length → (fun i => if i = B.length then (if ρ t9 + d9 < ρ s9 + c9 then ρ t9 + d9 else ρ s9 + c9) else ρ i) i = ρ i := fun i hi => if_neg (by omega)
      have hk := ab_okS_push (a := (0, B.length, 0)) (ab_okS_ext hS2 (Nat.le_of_lt (by rw [hl]; omega : B.length < (B ++ [(ab_mn (ab_lo B s9 + c9) (ab_lo B t9 + d9), ab_mx (ab_hi B s9 + c9) (ab_hi B t9 + d9))]).length)) hρ) (by show B.length < _; rw [hl]; omega)
      rw [show ab_V ad wr cr (fun i => if i = B.length then (if ρ t9 + d9 < ρ s9 + c9 then ρ t9 + d9 else ρ s9 + c9) else ρ i) (0, B.length, 0) = .int (if Int32.ofInt (ρ t9 + d9) < Int32.ofInt (ρ s9 + c9) then Int32.ofInt (ρ t9 + d9) else Int32.ofInt (ρ s9 + c9)) from by
        show Value.int (Int32.ofInt ((if B.length = B.length then (if ρ t9 + d9 < ρ s9 + c9 then ρ t9 + d9 else ρ s9 + c9) else _) + 0)) = _
        rw [if_pos rfl, Int.add_zero, ← ab_min32 ex ey]] at hk
      exact kk _ List.mem_cons_self _ _ hv (by rw [hl]; omega) hρ hk
    · exact absurd (show 1002 = 1003 from r1) (by decide)
    · exact absurd (show 2000 ≤ 1002 from r1) (by decide)
  · rename_i s9 c9 S9
    obtain ⟨g, h2⟩ := ab_cs h
    rw [Bool.and_eq_true, Bool.and_eq_true] at g
    obtain ⟨⟨g1, g2⟩, g3⟩ := g
    have := ab_beq g1; subst this
    have g2 := Nat.le_of_ble_eq_true g2
    have g3 := Nat.le_of_ble_eq_true g3
    cases h2
    obtain ⟨st1, rfl, hs1, hS1⟩ := ab_okS_pop hS
    have hs1 : s9 < B.length := hs1
    have hcat : (st1.map fun v => v.category).sum + 13 ≤ R.locals := by
      rw [hS1.1, ← ab_catS]
      omega
    rcases hPS with ⟨r1, -⟩ | ⟨r1, -⟩ | ⟨r1, r2⟩ | ⟨r1, r2⟩ | ⟨r1, r2⟩ | ⟨r1, -⟩
    · exact absurd (show 1003 = 1000 from r1) (by decide)
    · exact absurd (show 1003 < 1000 from r1) (by decide)
    · exact absurd (show 1003 = 1001 from r1) (by decide)
    · exact absurd (show 1003 = 1002 from r1) (by decide)
    · obtain ⟨w1, w2, w3, w4⟩ := r2
      refine va_mabs_long hx hb hml hown (hts _ w1) (hts _ w2) (hts _ w3) (hts _ w4) (Nat.le_trans g2 hR.1) hcat hc9 hs9 hdg ?_
      generalize (if 0 < Int64.ofInt (ρ s9 + c9) then Int64.ofInt (ρ s9 + c9) else -Int64.ofInt (ρ s9 + c9)) = z
      have hz := ab_r64 z
      have hv := ab_K_fresh hK (v := z.toInt) (l := -9223372036854775808) (u := 9223372036854775807) hz.1 hz.2 [] (by intro f hf; cases hf)
      have hρ : ∀ i, i < B.length → (fun i => if i = B.length then z.toInt else ρ i) i = ρ i := fun i hi => if_neg (by omega)
      have hk := ab_okS_push (a := (1, B.length, 0)) (ab_okS_ext hS1 (Nat.le_of_lt (by rw [hl]; omega : B.length < (B ++ [((-9223372036854775808 : Int), (9223372036854775807 : Int))]).length)) hρ) (by show B.length < _; rw [hl]; omega)
      rw [show ab_V ad wr cr (fun i => if i = B.length then z.toInt else ρ i) (1, B.length, 0) = .long z from by
        show Value.long (Int64.ofInt ((if B.length = B.length then z.toInt else _) + 0)) = _
        rw [if_pos rfl, Int.add_zero, Int64.ofInt_toInt]] at hk
      exact kk _ List.mem_cons_self _ _ hv (by rw [hl]; omega) hρ hk
    · exact absurd (show 2000 ≤ 1003 from r1) (by decide)
  · cases h
set_option maxHeartbeats 4000000 in
theorem ab_mo_ok {sp : Bool} {l9 : List ab_SU} (hx : p.tables.exec = Jvm.exec) (hb : c.code = cc) (hml : c.maxLocals = ls.size) (hown : s.vm.findClass own = some m.cls) (hts : ∀ w ∈ Ts, w.before args s = true) (hCB : ab_CB cy ad wr cr kd A s) (hPS : ∀ q ∈ PS, ab_psok Ts kd own q) (hR : lev ≤ R.frames ∧ 40 * lev ≤ R.locals) (hc9 : cells ≤ R.cells) (hs9 : slots ≤ R.slots)
    (h : ab_mo sp PS lev pc i len S B F = some l9) (hdg : decode cc pc = .ok (i, len)) (hK : ab_K T C σ0 B F Dl M ρ σ) (hS : ab_okS ad wr cr B.length ρ S st)
    (kk : ∀ q ∈ l9, ∀ (ρ' : Nat → Int) (st' : List Value), ab_K T C σ0 q.2.2.1 q.2.2.2 Dl M ρ' σ → B.length ≤ q.2.2.1.length → (∀ i, i < B.length → ρ' i = ρ i) → ab_okS ad wr cr q.2.2.1.length ρ' q.2.1 st' → W p l e R s m args below meth c H locs cells slots Q (F0 m q.1 ls st')) : W p l e R s m args below meth c H locs cells slots Q (F0 m pc ls st) := by
  unfold ab_mo at h
  split at h
  · split at h
    · rename_i df9 ps9 x9 s9 c9 S9
      split at h
      · rename_i n9 l8 hn9 hl9
        obtain ⟨g, h2⟩ := ab_cs h
        rw [Bool.and_eq_true] at g
        cases h2
        obtain ⟨st1, rfl, hs1, hS1⟩ := ab_okS_pop hS
        have hs1 : s9 < B.length := hs1
        have ex : (Int32.ofInt (ρ s9 + c9)).toInt = ρ s9 + c9 := ab_in_ok hK.1 hs1 g.1
        rcases ab_lus_ok (sp := sp) (d := df9) hK.1 hK.2.1 hK.2.2.1 hK.2.2.2.1 hs1 ps9.toList l8 hl9 with h1 | ⟨n, q, h1, h2, h3⟩
        · exact lv_lookup hx hb (x := Int32.ofInt (ρ s9 + c9)) hdg g.2 (by rw [ex]; exact h1) (ab_tg_ok hn9) (kk (n9, S9, B, F) List.mem_cons_self ρ st1 hK (Nat.le_refl _) (fun _ _ => rfl) hS1)
        · have e1 : q.1.length = B.length := h3.1
          refine lv_lookup hx hb (x := Int32.ofInt (ρ s9 + c9)) (off := Op.lookupswitch.offset ps9.toList df9 (ρ s9 + c9)) hdg g.2 (by rw [ex]) (ab_tg_ok h1) (kk (n, S9, q) (List.mem_cons_of_mem _ h2) ρ st1 ?_ (by show B.length ≤ q.1.length; omega) (fun _ _ => rfl) (by show ab_okS _ _ _ q.1.length _ _ _; rw [e1]; exact hS1))
          show ab_K T C σ0 q.1 q.2 Dl M ρ σ
          exact ⟨h3.2.1, by rw [e1]; exact h3.2.2, hK.2.2.1, by rw [e1]; exact hK.2.2.2.1, by rw [e1]; exact hK.2.2.2.2.1, hK.2.2.2.2.2⟩
      · cases h
    · cases h
  · split at h
    · rename_i x9 z9 hz9
      obtain ⟨g, h2⟩ := ab_cs h
      rw [Bool.and_eq_true] at g
      have := ab_beq g.1; subst this
      have g2 := Nat.le_of_ble_eq_true g.2
      cases h2
      have hk := kk _ List.mem_cons_self ρ (.ref (cr (z9 - 2000)) :: st) hK (Nat.le_refl _) (fun _ _ => rfl) (ab_okS_push (a := (5, z9 - 2000, 0)) hS trivial)
      rcases hPS _ (ab_pk_mem hz9) with ⟨r1, -⟩ | ⟨r1, -⟩ | ⟨r1, -⟩ | ⟨r1, -⟩ | ⟨r1, -⟩ | ⟨-, tx, r2⟩
      · replace r1 : z9 = 1000 := r1
        omega
      · replace r1 : z9 < 1000 := r1
        omega
      · replace r1 : z9 = 1001 := r1
        omega
      · replace r1 : z9 = 1002 := r1
        omega
      · replace r1 : z9 = 1003 := r1
        omega
      · have zz := hCB.2.2.2.2 _ r2
        dsimp only at zz hk
        exact va_ldcS hx hb hown zz hdg hk
    · cases h
  · split at h
    · rename_i x9 z9 hz9
      exact ab_mth_ok hx hb hml hown hts (hPS _ (ab_pk_mem hz9)) hR hc9 hs9 h hdg hK hS kk
    · cases h
  · cases h
end
