/-! instructions that touch locals and stack alone -/
def ab_bo (i : Instr) : Option Nat := match i with
  | .iadd => some 0
  | .isub => some 1
  | .imul => some 2
  | .idiv => some 3
  | .irem => some 4
  | .ishl => some 5
  | .ishr => some 6
  | .iushr => some 7
  | .iand => some 8
  | .ior => some 9
  | .ixor => some 10
  | _ => none
def ab_bl (i : Instr) : Option Nat := match i with
  | .ladd => some 0
  | .lsub => some 1
  | .lmul => some 2
  | .ldiv => some 3
  | .lrem => some 4
  | .land => some 5
  | _ => none
abbrev ab_PU : Type := ab_LS × List ab_AV × ab_BD × ab_FT
def ab_ri (tag : Nat) (r : ab_RS) (L : ab_LS) (S : List ab_AV) (B : ab_BD) (F : ab_FT) : ab_PU := match r with
  | .inl q => (L, (tag, q.1, q.2) :: S, B, F)
  | .inr q => (L, (tag, B.length, 0) :: S, B ++ [(q.1, q.2.1)], q.2.2.map (fun f => (B.length, f.1, f.2)) ++ F)
def ab_kc : List (Nat × Int) → Nat → Option Int
  | [], _ => none
  | q :: l, i => cond (q.1.beq i) (some q.2) (ab_kc l i)
theorem ab_kc_mem : ∀ {l : List (Nat × Int)} {i : Nat} {v : Int}, ab_kc l i = some v → (i, v) ∈ l := by
  intro l
  induction l with
  | nil => intro i v h; cases h
  | cons q l ih =>
    intro i v h
    unfold ab_kc at h
    cases hc : q.1.beq i with
    | true =>
      rw [hc] at h
      have h1 := Nat.eq_of_beq_eq_true hc
      have h2 : q.2 = v := Option.some.inj h
      rw [← h1, ← h2]
      exact List.mem_cons_self
    | false => rw [hc] at h; exact List.mem_cons_of_mem _ (ih h)
/-- a read of a place: its row is pushed -/
def ab_ld (f : ab_AV → Bool) (L : ab_LS) (i : Nat) (S : List ab_AV) (B : ab_BD) (F : ab_FT) : Option ab_PU := match ab_lk L i with
  | some a => cond (f a) (some (L, a :: S, B, F)) none
  | none => none
def ab_pu (KI KJ : List (Nat × Int)) (nL : Nat) (i : Instr) (len : Nat) (L : ab_LS) (S : List ab_AV) (B : ab_BD) (F : ab_FT) : Option ab_PU := match i with
  | .iconst n => cond (len.beq 1) (some (L, (0, 0, n) :: S, B, F)) none
  | .bipush n => cond (len.beq 2) (some (L, (0, 0, ((Int8.ofInt n).toInt32).toInt) :: S, B, F)) none
  | .sipush n => cond (len.beq 3) (some (L, (0, 0, ((Int16.ofInt n).toInt32).toInt) :: S, B, F)) none
  | .lconst n => cond (len.beq 1) (some (L, (1, 0, ((n : Nat) : Int)) :: S, B, F)) none
  | .aconst_null => cond (len.beq 1) (some (L, (3, 0, 0) :: S, B, F)) none
  | .ldc x => cond (len.beq 2) (match ab_kc KI x with | some v => some (L, (0, 0, v) :: S, B, F) | none => none) none
  | .ldc_w x => cond (len.beq 3) (match ab_kc KI x with | some v => some (L, (0, 0, v) :: S, B, F) | none => none) none
  | .ldc2_w x => cond (len.beq 3) (match ab_kc KJ x with | some v => some (L, (1, 0, v) :: S, B, F) | none => none) none
  | .iload_n k => cond (len.beq 1) (ab_ld (fun a => a.1.beq 0) L k S B F) none
  | .iload k => cond (len.beq 2) (ab_ld (fun a => a.1.beq 0) L k S B F) none
  | .lload_n k => cond (len.beq 1) (ab_ld (fun a => a.1.beq 1) L k S B F) none
  | .lload k => cond (len.beq 2) (ab_ld (fun a => a.1.beq 1) L k S B F) none
  | .aload_n k => cond (len.beq 1) (ab_ld (fun a => (2 : Nat).ble a.1) L k S B F) none
  | .aload k => cond (len.beq 2) (ab_ld (fun a => (2 : Nat).ble a.1) L k S B F) none
  | .istore_n k => match S with
    | (0, s, c) :: S => cond (len.beq 1 && (k + 1 : Nat).ble nL) (some (ab_st1 L k (0, s, c), S, B, F)) none
    | _ => none
  | .istore k => match S with
    | (0, s, c) :: S => cond (len.beq 2 && (k + 1).ble nL) (some (ab_st1 L k (0, s, c), S, B, F)) none
    | _ => none
  | .lstore_n k => match S with
    | (1, s, c) :: S => cond (len.beq 1 && (k + 2 : Nat).ble nL) (some (ab_st2 L k (1, s, c), S, B, F)) none
    | _ => none
  | .lstore k => match S with
    | (1, s, c) :: S => cond (len.beq 2 && (k + 2).ble nL) (some (ab_st2 L k (1, s, c), S, B, F)) none
    | _ => none
  | .astore_n k => match S with
    | a :: S => cond (len.beq 1 && (k + 1 : Nat).ble nL && (2 : Nat).ble a.1) (some (ab_st1 L k a, S, B, F)) none
    | _ => none
  | .astore k => match S with
    | a :: S => cond (len.beq 2 && (k + 1).ble nL && (2 : Nat).ble a.1) (some (ab_st1 L k a, S, B, F)) none
    | _ => none
  | .dup => match S with
    | a :: S => cond (len.beq 1 && !(a.1.beq 1)) (some (L, a :: a :: S, B, F)) none
    | _ => none
  | .dup2 => match S with
    | a :: b :: S => cond (len.beq 1 && !(a.1.beq 1) && !(b.1.beq 1)) (some (L, a :: b :: a :: b :: S, B, F)) none
    | _ => none
  | .pop => match S with
    | a :: S => cond (len.beq 1 && !(a.1.beq 1)) (some (L, S, B, F)) none
    | _ => none
  | .iinc k n => match ab_lk L k with
    | some (0, s, c) => cond (len.beq 3 && (k + 1).ble nL) (some (cond (ab_in B s (c + n)) (ab_st1 L k (0, s, c + n), S, B, F) (ab_st1 L k (0, B.length, 0), S, B ++ [(-2147483648, 2147483647)], F))) none
    | _ => none
  | .ineg => match S with
    | (0, s, c) :: S => cond (len.beq 1) (some (cond (s.beq 0) (L, (0, 0, -c) :: S, B, F) (ab_ri 0 ab_full L S B F))) none
    | _ => none
  | .lneg => match S with
    | (1, s, c) :: S => cond (len.beq 1) (some (cond (s.beq 0) (L, (1, 0, -c) :: S, B, F) (ab_ri 1 ab_lfull L S B F))) none
    | _ => none
  | .lushr => match S with
    | (0, _, _) :: (1, _, _) :: S => cond (len.beq 1) (some (ab_ri 1 ab_lfull L S B F)) none
    | _ => none
  | .i2l => match S with
    | (0, s, c) :: S => cond (len.beq 1) (some (cond (ab_in B s c) (L, (1, s, c) :: S, B, F) (ab_ri 1 ab_full L S B F))) none
    | _ => none
  | .l2i => match S with
    | (1, s, c) :: S => cond (len.beq 1) (some (cond (ab_inL B s c && ab_in B s c) (L, (0, s, c) :: S, B, F) (ab_ri 0 ab_full L S B F))) none
    | _ => none
  | .i2b => match S with
    | (0, _, _) :: S => cond (len.beq 1) (some (ab_ri 0 (.inr (-128, 127, [])) L S B F)) none
    | _ => none
  | i => match ab_bo i, S with
    | some o, (0, t, d) :: (0, s, c) :: S => cond (len.beq 1 && (!(o.beq 3 || o.beq 4) || ab_nz B t d)) (some (ab_ri 0 (ab_op o B F s c t d) L S B F)) none
    | _, _ => match ab_bl i, S with
      | some o, (1, t, d) :: (1, s, c) :: S => cond (len.beq 1 && (!(o.beq 3 || o.beq 4) || ab_lnz B t d)) (some (ab_ri 1 (ab_lop o B F s c t d) L S B F)) none
      | _, _ => none
section
variable {p : Program} {l : Launch} {e : Env} {R : Room} {s : State} {m : MethodId} {args : Array Value} {below : List Frame} {meth : Method} {c : Code} {H : Heap} {locs : List Loc} {cells slots : Nat} {Q : State → Prop} {cc : ByteArray} {pc : Nat} {ls : Array Slot} {rest : List Value}
theorem ab_bo_row (hx : p.tables.exec = Jvm.exec) (hb : c.code = cc) {i : Instr} {o : Nat} (ho : ab_bo i = some o) {x y : Int32} (hz : o = 3 ∨ o = 4 → ¬ y = 0) (hdg : decode cc pc = .ok (i, 1)) (k : W p l e R s m args below meth c H locs cells slots Q (F0 m (pc + 1) ls (.int (ab_sem o x y) :: rest))) : W p l e R s m args below meth c H locs cells slots Q (F0 m pc ls (.int y :: .int x :: rest)) := by
  unfold ab_bo at ho
  split at ho
  · cases ho; exact lv_iadd hx hb hdg k
  · cases ho; exact lv_isub hx hb hdg k
  · cases ho; exact lv_imul hx hb hdg k
  · cases ho; exact lv_idiv hx hb hdg (hz (Or.inl rfl)) k
  · cases ho; exact lv_irem hx hb hdg (hz (Or.inr rfl)) k
  · cases ho; exact lv_ishl hx hb hdg k
  · cases ho; exact lv_ishr hx hb hdg k
  · cases ho; exact lv_iushr hx hb hdg rfl k
  · cases ho; exact lv_iand hx hb hdg k
  · cases ho; exact lv_ior hx hb hdg k
  · cases ho; exact lv_ixor hx hb hdg k
  · cases ho
theorem ab_bl_row (hx : p.tables.exec = Jvm.exec) (hb : c.code = cc) {i : Instr} {o : Nat} (ho : ab_bl i = some o) {x y : Int64} (hz : o = 3 ∨ o = 4 → ¬ y = 0) (hdg : decode cc pc = .ok (i, 1)) (k : W p l e R s m args below meth c H locs cells slots Q (F0 m (pc + 1) ls (.long (ab_lsem o x y) :: rest))) : W p l e R s m args below meth c H locs cells slots Q (F0 m pc ls (.long y :: .long x :: rest)) := by
  unfold ab_bl at ho
  split at ho
  · cases ho; exact lv_ladd hx hb hdg k
  · cases ho; exact lv_lsub hx hb hdg k
  · cases ho; exact lv_lmul hx hb hdg k
  · cases ho; exact lv_ldiv hx hb hdg (hz (Or.inl rfl)) k
  · cases ho; exact lv_lrem hx hb hdg (hz (Or.inr rfl)) k
  · cases ho; exact lv_land hx hb hdg k
  · cases ho
end
