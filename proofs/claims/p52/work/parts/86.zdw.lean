/-! a method's code decoded in one walk over its bytes -/
def dw_F (p : Nat) : Nat → Jvm.ClassFile.Decoder Instr := (⟨_, rfl⟩ : {F : Nat → Jvm.ClassFile.Decoder Instr // Jvm.ClassFile.Decoder.instr p = Jvm.ClassFile.Reader.u1 >>= F}).1
theorem dw_Fe (p : Nat) : Jvm.ClassFile.Decoder.instr p = Jvm.ClassFile.Reader.u1 >>= dw_F p := rfl
theorem dw_bind {α β : Type} {r : Jvm.ClassFile.Decoder α} {f : α → Jvm.ClassFile.Decoder β} {cc : ByteArray} {p : Nat} {x : α} {p' : Nat} (h : Jvm.ClassFile.Reader.runAt r cc p = .ok (x, p')) : Jvm.ClassFile.Reader.runAt (r >>= f) cc p = Jvm.ClassFile.Reader.runAt (f x) cc p' := by
  have e : Jvm.ClassFile.Reader.runAt (r >>= f) cc p = (Jvm.ClassFile.Reader.runAt r cc p >>= fun q => Jvm.ClassFile.Reader.runAt (f q.1) cc q.2) := rfl
  rw [e, h]
  rfl
theorem dw_u1 {cc : ByteArray} {p : Nat} {k : UInt8} {r : List UInt8} (h : cc.data.toList.drop p = k :: r) : Jvm.ClassFile.Reader.runAt (Jvm.ClassFile.Reader.u1 : Jvm.ClassFile.Decoder Nat) cc p = .ok (k.toNat, p + 1) ∧ cc.data.toList.drop (p + 1) = r := by
  obtain ⟨⟨l⟩⟩ := cc
  have h0 : l.drop p = k :: r := h
  have h1 : p < l.length := by
    have := congrArg List.length h0
    rw [List.length_drop, List.length_cons] at this
    omega
  rw [List.drop_eq_getElem_cons h1] at h0
  injection h0 with h2 h3
  refine ⟨?_, h3⟩
  have hs : p < (ByteArray.mk (Array.mk l)).size := h1
  have e : Jvm.ClassFile.Reader.runAt (Jvm.ClassFile.Reader.u1 : Jvm.ClassFile.Decoder Nat) (ByteArray.mk (Array.mk l)) p = Jvm.ClassFile.Reader.runAt (dite (p < (ByteArray.mk (Array.mk l)).size) (fun h => (do set (p + 1); pure ((ByteArray.mk (Array.mk l))[p]'h).toNat : Jvm.ClassFile.Decoder Nat)) (fun _ => throw (Jvm.ClassFile.HasTruncated.truncated p))) (ByteArray.mk (Array.mk l)) p := rfl
  rw [e, dif_pos hs, ← h2]
  rfl
theorem dw_u2 {cc : ByteArray} {p : Nat} {x y : UInt8} {r : List UInt8} (h : cc.data.toList.drop p = x :: y :: r) : Jvm.ClassFile.Reader.runAt (Jvm.ClassFile.Reader.u2 : Jvm.ClassFile.Decoder Nat) cc p = .ok (x.toNat * 256 + y.toNat, p + 2) := by
  obtain ⟨a, b⟩ := dw_u1 h
  obtain ⟨c, -⟩ := dw_u1 b
  show Jvm.ClassFile.Reader.runAt (Jvm.ClassFile.Reader.u1 >>= fun hi => Jvm.ClassFile.Reader.u1 >>= fun lo => (Pure.pure (hi * 256 + lo) : Jvm.ClassFile.Decoder Nat)) cc p = _
  rw [dw_bind a, dw_bind c]
  rfl
theorem dw_map {α β : Type} {r : Jvm.ClassFile.Decoder α} {f : α → β} {cc : ByteArray} {p : Nat} {x : α} {p' : Nat} (h : Jvm.ClassFile.Reader.runAt r cc p = .ok (x, p')) : Jvm.ClassFile.Reader.runAt (f <$> r) cc p = .ok (f x, p') := by
  have e : Jvm.ClassFile.Reader.runAt (f <$> r) cc p = (Jvm.ClassFile.Reader.runAt r cc p >>= fun q => .ok (f q.1, q.2)) := rfl
  rw [e, h]
  rfl
theorem dw_dc {cc : ByteArray} {p n : Nat} {I : Instr} (h : Jvm.ClassFile.Reader.runAt (Jvm.ClassFile.Decoder.instr p) cc p = .ok (I, p + n)) : decode cc p = .ok (I, n) := by
  unfold decode
  rw [h]
  show Except.ok (I, p + n - p) = _
  rw [Nat.add_sub_cancel_left]
theorem dw_in {cc : ByteArray} {p : Nat} {k : UInt8} {r : List UInt8} (h : cc.data.toList.drop p = k :: r) : Jvm.ClassFile.Reader.runAt (Jvm.ClassFile.Decoder.instr p) cc p = Jvm.ClassFile.Reader.runAt (dw_F p k.toNat) cc (p + 1) := by
  rw [dw_Fe]
  exact dw_bind (dw_u1 h).1
def dw_1 : List (Nat × Instr) := [(42, .aload_n 0), (43, .aload_n 1), (44, .aload_n 2), (45, .aload_n 3), (4, .iconst 1), (3, .iconst 0), (5, .iconst 2), (6, .iconst 3), (7, .iconst 4), (8, .iconst 5), (2, .iconst (-1)), (26, .iload_n 0), (27, .iload_n 1), (28, .iload_n 2), (29, .iload_n 3), (172, .ireturn), (96, .iadd), (46, .iaload), (87, .pop), (100, .isub), (79, .iastore), (173, .lreturn), (104, .imul), (177, .return_), (89, .dup), (148, .lcmp), (105, .lmul), (47, .laload), (133, .i2l), (190, .arraylength), (80, .lastore), (126, .iand), (101, .lsub), (120, .ishl), (97, .ladd), (128, .ior), (109, .ldiv), (191, .athrow), (92, .dup2), (112, .irem), (124, .iushr), (130, .ixor), (108, .idiv), (122, .ishr), (51, .baload), (113, .lrem), (117, .lneg), (136, .l2i), (146, .i2c), (84, .bastore), (176, .areturn), (1, .aconst_null), (50, .aaload), (125, .lushr), (127, .land), (116, .ineg), (145, .i2b), (59, .istore_n 0), (60, .istore_n 1), (61, .istore_n 2), (62, .istore_n 3), (9, .lconst 0), (10, .lconst 1), (30, .lload_n 0), (31, .lload_n 1), (32, .lload_n 2), (33, .lload_n 3), (63, .lstore_n 0), (64, .lstore_n 1), (65, .lstore_n 2), (66, .lstore_n 3), (75, .astore_n 0), (76, .astore_n 1), (77, .astore_n 2), (78, .astore_n 3)]
def dw_a : List (Nat × (Nat → Instr)) := [(21, fun x => .iload x), (54, fun x => .istore x), (22, fun x => .lload x), (55, fun x => .lstore x), (18, fun x => .ldc x), (58, fun x => .astore x), (25, fun x => .aload x)]
def dw_b : List (Nat × (Int → Instr)) := [(16, fun x => .bipush x)]
def dw_c : List (Nat × (Nat → Instr)) := [(180, fun x => .getfield x), (182, fun x => .invokevirtual x), (184, fun x => .invokestatic x), (181, fun x => .putfield x), (20, fun x => .ldc2_w x), (178, fun x => .getstatic x), (187, fun x => .new x), (183, fun x => .invokespecial x), (19, fun x => .ldc_w x), (179, fun x => .putstatic x)]
def dw_d : List (Nat × (Int → Instr)) := [(167, fun x => .goto x), (17, fun x => .sipush x), (153, fun x => .ifCond .eq x), (154, fun x => .ifCond .ne x), (155, fun x => .ifCond .lt x), (156, fun x => .ifCond .ge x), (157, fun x => .ifCond .gt x), (158, fun x => .ifCond .le x), (159, fun x => .if_icmp .eq x), (160, fun x => .if_icmp .ne x), (161, fun x => .if_icmp .lt x), (162, fun x => .if_icmp .ge x), (163, fun x => .if_icmp .gt x), (164, fun x => .if_icmp .le x), (165, fun x => .if_acmp .eq x), (166, fun x => .if_acmp .ne x), (198, fun x => .ifnull x), (199, fun x => .ifnonnull x)]
def dw_e : List (Nat × (Nat → Int → Instr)) := [(132, fun x y => .iinc x y)]
theorem dw_1k : ∀ q ∈ dw_1, ∀ p : Nat, dw_F p q.1 = (Pure.pure q.2 : Jvm.ClassFile.Decoder Instr) := List.forall_mem_cons.mpr ⟨fun _ => rfl, List.forall_mem_cons.mpr ⟨fun _ => rfl, List.forall_mem_cons.mpr ⟨fun _ => rfl, List.forall_mem_cons.mpr ⟨fun _ => rfl, List.forall_mem_cons.mpr ⟨fun _ => rfl, List.forall_mem_cons.mpr ⟨fun _ => rfl, List.forall_mem_cons.mpr ⟨fun _ => rfl, List.forall_mem_cons.mpr ⟨fun _ => rfl, List.forall_mem_cons.mpr ⟨fun _ => rfl, List.forall_mem_cons.mpr ⟨fun _ => rfl, List.forall_mem_cons.mpr ⟨fun _ => rfl, List.forall_mem_cons.mpr ⟨fun _ => rfl, List.forall_mem_cons.mpr ⟨fun _ => rfl, List.forall_mem_cons.mpr ⟨fun _ => rfl, List.forall_mem_cons.mpr ⟨fun _ => rfl, List.forall_mem_cons.mpr ⟨fun _ => rfl, List.forall_mem_cons.mpr ⟨fun _ => rfl, List.forall_mem_cons.mpr ⟨fun _ => rfl, List.forall_mem_cons.mpr ⟨fun _ => rfl, List.forall_mem_cons.mpr ⟨fun _ => rfl, List.forall_mem_cons.mpr ⟨fun _ => rfl, List.forall_mem_cons.mpr ⟨fun _ => rfl, List.forall_mem_cons.mpr ⟨fun _ => rfl, List.forall_mem_cons.mpr ⟨fun _ => rfl, List.forall_mem_cons.mpr ⟨fun _ => rfl, List.forall_mem_cons.mpr ⟨fun _ => rfl, List.forall_mem_cons.mpr ⟨fun _ => rfl, List.forall_mem_cons.mpr ⟨fun _ => rfl, List.forall_mem_cons.mpr ⟨fun _ => rfl, List.forall_mem_cons.mpr ⟨fun _ => rfl, List.forall_mem_cons.mpr ⟨fun _ => rfl, List.forall_mem_cons.mpr ⟨fun _ => rfl, List.forall_mem_cons.mpr ⟨fun _ => rfl, List.forall_mem_cons.mpr ⟨fun _ => rfl, List.forall_mem_cons.mpr ⟨fun _ => rfl, List.forall_mem_cons.mpr ⟨fun _ => rfl, List.forall_mem_cons.mpr ⟨fun _ => rfl, List.forall_mem_cons.mpr ⟨fun _ => rfl, List.forall_mem_cons.mpr ⟨fun _ => rfl, List.forall_mem_cons.mpr ⟨fun _ => rfl, List.forall_mem_cons.mpr ⟨fun _ => rfl, List.forall_mem_cons.mpr ⟨fun _ => rfl, List.forall_mem_cons.mpr ⟨fun _ => rfl, List.forall_mem_cons.mpr ⟨fun _ => rfl, List.forall_mem_cons.mpr ⟨fun _ => rfl, List.forall_mem_cons.mpr ⟨fun _ => rfl, List.forall_mem_cons.mpr ⟨fun _ => rfl, List.forall_mem_cons.mpr ⟨fun _ => rfl, List.forall_mem_cons.mpr ⟨fun _ => rfl, List.forall_mem_cons.mpr ⟨fun _ => rfl, List.forall_mem_cons.mpr ⟨fun _ => rfl, List.forall_mem_cons.mpr ⟨fun _ => rfl, List.forall_mem_cons.mpr ⟨fun _ => rfl, List.forall_mem_cons.mpr ⟨fun _ => rfl, List.forall_mem_cons.mpr ⟨fun _ => rfl, List.forall_mem_cons.mpr ⟨fun _ => rfl, List.forall_mem_cons.mpr ⟨fun _ => rfl, List.forall_mem_cons.mpr ⟨fun _ => rfl, List.forall_mem_cons.mpr ⟨fun _ => rfl, List.forall_mem_cons.mpr ⟨fun _ => rfl, List.forall_mem_cons.mpr ⟨fun _ => rfl, List.forall_mem_cons.mpr ⟨fun _ => rfl, List.forall_mem_cons.mpr ⟨fun _ => rfl, List.forall_mem_cons.mpr ⟨fun _ => rfl, List.forall_mem_cons.mpr ⟨fun _ => rfl, List.forall_mem_cons.mpr ⟨fun _ => rfl, List.forall_mem_cons.mpr ⟨fun _ => rfl, List.forall_mem_cons.mpr ⟨fun _ => rfl, List.forall_mem_cons.mpr ⟨fun _ => rfl, List.forall_mem_cons.mpr ⟨fun _ => rfl, List.forall_mem_cons.mpr ⟨fun _ => rfl, List.forall_mem_cons.mpr ⟨fun _ => rfl, List.forall_mem_cons.mpr ⟨fun _ => rfl, List.forall_mem_cons.mpr ⟨fun _ => rfl, List.forall_mem_cons.mpr ⟨fun _ => rfl, fun _ h => absurd h List.not_mem_nil⟩⟩⟩⟩⟩⟩⟩⟩⟩⟩⟩⟩⟩⟩⟩⟩⟩⟩⟩⟩⟩⟩⟩⟩⟩⟩⟩⟩⟩⟩⟩⟩⟩⟩⟩⟩⟩⟩⟩⟩⟩⟩⟩⟩⟩⟩⟩⟩⟩⟩⟩⟩⟩⟩⟩⟩⟩⟩⟩⟩⟩⟩⟩⟩⟩⟩⟩⟩⟩⟩⟩⟩⟩⟩⟩
theorem dw_ak : ∀ q ∈ dw_a, ∀ p : Nat, dw_F p q.1 = (Jvm.ClassFile.Reader.u1 >>= fun z => Pure.pure (q.2 z)) := List.forall_mem_cons.mpr ⟨fun _ => rfl, List.forall_mem_cons.mpr ⟨fun _ => rfl, List.forall_mem_cons.mpr ⟨fun _ => rfl, List.forall_mem_cons.mpr ⟨fun _ => rfl, List.forall_mem_cons.mpr ⟨fun _ => rfl, List.forall_mem_cons.mpr ⟨fun _ => rfl, List.forall_mem_cons.mpr ⟨fun _ => rfl, fun _ h => absurd h List.not_mem_nil⟩⟩⟩⟩⟩⟩⟩
theorem dw_bk : ∀ q ∈ dw_b, ∀ p : Nat, dw_F p q.1 = (Jvm.ClassFile.Reader.s1 >>= fun z => Pure.pure (q.2 z)) := List.forall_mem_cons.mpr ⟨fun _ => rfl, fun _ h => absurd h List.not_mem_nil⟩
theorem dw_ck : ∀ q ∈ dw_c, ∀ p : Nat, dw_F p q.1 = (Jvm.ClassFile.Reader.u2 >>= fun z => Pure.pure (q.2 z)) := List.forall_mem_cons.mpr ⟨fun _ => rfl, List.forall_mem_cons.mpr ⟨fun _ => rfl, List.forall_mem_cons.mpr ⟨fun _ => rfl, List.forall_mem_cons.mpr ⟨fun _ => rfl, List.forall_mem_cons.mpr ⟨fun _ => rfl, List.forall_mem_cons.mpr ⟨fun _ => rfl, List.forall_mem_cons.mpr ⟨fun _ => rfl, List.forall_mem_cons.mpr ⟨fun _ => rfl, List.forall_mem_cons.mpr ⟨fun _ => rfl, List.forall_mem_cons.mpr ⟨fun _ => rfl, fun _ h => absurd h List.not_mem_nil⟩⟩⟩⟩⟩⟩⟩⟩⟩⟩
theorem dw_dk : ∀ q ∈ dw_d, ∀ p : Nat, dw_F p q.1 = (Jvm.ClassFile.Reader.s2 >>= fun z => Pure.pure (q.2 z)) := List.forall_mem_cons.mpr ⟨fun _ => rfl, List.forall_mem_cons.mpr ⟨fun _ => rfl, List.forall_mem_cons.mpr ⟨fun _ => rfl, List.forall_mem_cons.mpr ⟨fun _ => rfl, List.forall_mem_cons.mpr ⟨fun _ => rfl, List.forall_mem_cons.mpr ⟨fun _ => rfl, List.forall_mem_cons.mpr ⟨fun _ => rfl, List.forall_mem_cons.mpr ⟨fun _ => rfl, List.forall_mem_cons.mpr ⟨fun _ => rfl, List.forall_mem_cons.mpr ⟨fun _ => rfl, List.forall_mem_cons.mpr ⟨fun _ => rfl, List.forall_mem_cons.mpr ⟨fun _ => rfl, List.forall_mem_cons.mpr ⟨fun _ => rfl, List.forall_mem_cons.mpr ⟨fun _ => rfl, List.forall_mem_cons.mpr ⟨fun _ => rfl, List.forall_mem_cons.mpr ⟨fun _ => rfl, List.forall_mem_cons.mpr ⟨fun _ => rfl, List.forall_mem_cons.mpr ⟨fun _ => rfl, fun _ h => absurd h List.not_mem_nil⟩⟩⟩⟩⟩⟩⟩⟩⟩⟩⟩⟩⟩⟩⟩⟩⟩⟩
theorem dw_ek : ∀ q ∈ dw_e, ∀ p : Nat, dw_F p q.1 = (Jvm.ClassFile.Reader.u1 >>= fun z => Jvm.ClassFile.Reader.s1 >>= fun w => Pure.pure (q.2 z w)) := List.forall_mem_cons.mpr ⟨fun _ => rfl, fun _ h => absurd h List.not_mem_nil⟩
def dw_s {β : Type} (k : Nat) (P : β → Bool) : List (Nat × β) → Bool
  | [] => false
  | q :: l => cond (q.1.beq k) (P q.2) (dw_s k P l)
theorem dw_sk {β : Type} {k : Nat} {P : β → Bool} : ∀ {l : List (Nat × β)}, dw_s k P l = true → ∃ q ∈ l, q.1 = k ∧ P q.2 = true
  | [], h => Bool.noConfusion h
  | q :: l, h => by
    unfold dw_s at h
    cases hq : q.1.beq k with
    | true =>
      rw [hq] at h
      exact ⟨q, List.mem_cons_self, Nat.eq_of_beq_eq_true hq, h⟩
    | false =>
      rw [hq] at h
      obtain ⟨w, h1, h2⟩ := dw_sk (l := l) h
      exact ⟨w, List.mem_cons_of_mem _ h1, h2⟩
def dw_i (k : Nat) (r : List UInt8) (I : Instr) (len : Nat) : Bool :=
  cond (len.beq 1) (dw_s k (fun J => decide (J = I)) dw_1)
    (match r with
    | [] => false
    | x :: r2 => cond (len.beq 2) (dw_s k (fun f => decide (f x.toNat = I)) dw_a || dw_s k (fun f => decide (f (Jvm.ClassFile.Reader.signed 8 x.toNat) = I)) dw_b)
      (match r2 with
      | [] => false
      | y :: _ => len.beq 3 && (dw_s k (fun f => decide (f (x.toNat * 256 + y.toNat) = I)) dw_c || (dw_s k (fun f => decide (f (Jvm.ClassFile.Reader.signed 16 (x.toNat * 256 + y.toNat)) = I)) dw_d || dw_s k (fun f => decide (f x.toNat (Jvm.ClassFile.Reader.signed 8 y.toNat) = I)) dw_e))))
theorem dw_ik {cc : ByteArray} {p : Nat} {k : UInt8} {r : List UInt8} {I : Instr} {len : Nat} (h : cc.data.toList.drop p = k :: r) (hc : dw_i k.toNat r I len = true) : decode cc p = .ok (I, len) := by
  have h1 := dw_in h
  have h2 := (dw_u1 h).2
  unfold dw_i at hc
  cases q1 : len.beq 1 with
  | true =>
    rw [q1] at hc
    obtain ⟨q, hq, e, hp⟩ := dw_sk hc
    rw [Nat.eq_of_beq_eq_true q1]
    rw [← e, dw_1k q hq p] at h1
    rw [← of_decide_eq_true hp]
    exact dw_dc h1
  | false =>
    rw [q1] at hc
    cases r with
    | nil => exact Bool.noConfusion hc
    | cons x r2 =>
      replace hc : cond (len.beq 2) _ _ = true := hc
      have h3 := dw_u1 h2
      cases q2 : len.beq 2 with
      | true =>
        rw [q2] at hc
        rw [Nat.eq_of_beq_eq_true q2]
        rcases (Bool.or_eq_true _ _).mp hc with hc | hc
        · obtain ⟨q, hq, e, hp⟩ := dw_sk hc
          rw [← e, dw_ak q hq p, dw_bind h3.1] at h1
          rw [← of_decide_eq_true hp]
          exact dw_dc h1
        · obtain ⟨q, hq, e, hp⟩ := dw_sk hc
          have h4 : Jvm.ClassFile.Reader.runAt (Jvm.ClassFile.Reader.s1 : Jvm.ClassFile.Decoder Int) cc (p + 1) = .ok (Jvm.ClassFile.Reader.signed 8 x.toNat, p + 1 + 1) := dw_map h3.1
          rw [← e, dw_bk q hq p, dw_bind h4] at h1
          rw [← of_decide_eq_true hp]
          exact dw_dc h1
      | false =>
        rw [q2] at hc
        cases r2 with
        | nil => exact Bool.noConfusion hc
        | cons y r3 =>
          replace hc : (len.beq 3 && _) = true := hc
          rw [Bool.and_eq_true] at hc
          obtain ⟨q3, hc⟩ := hc
          rw [Nat.eq_of_beq_eq_true q3]
          have h5 := dw_u2 h2
          have h6 := dw_u1 h3.2
          rcases (Bool.or_eq_true _ _).mp hc with hc | hc
          · obtain ⟨q, hq, e, hp⟩ := dw_sk hc
            rw [← e, dw_ck q hq p, dw_bind h5] at h1
            rw [← of_decide_eq_true hp]
            exact dw_dc h1
          · rcases (Bool.or_eq_true _ _).mp hc with hc | hc
            · obtain ⟨q, hq, e, hp⟩ := dw_sk hc
              have h4 : Jvm.ClassFile.Reader.runAt (Jvm.ClassFile.Reader.s2 : Jvm.ClassFile.Decoder Int) cc (p + 1) = .ok (Jvm.ClassFile.Reader.signed 16 (x.toNat * 256 + y.toNat), p + 1 + 2) := dw_map h5
              rw [← e, dw_dk q hq p, dw_bind h4] at h1
              rw [← of_decide_eq_true hp]
              exact dw_dc h1
            · obtain ⟨q, hq, e, hp⟩ := dw_sk hc
              have h4 : Jvm.ClassFile.Reader.runAt (Jvm.ClassFile.Reader.s1 : Jvm.ClassFile.Decoder Int) cc (p + 1 + 1) = .ok (Jvm.ClassFile.Reader.signed 8 y.toNat, p + 1 + 1 + 1) := dw_map h6.1
              rw [← e, dw_ek q hq p, dw_bind h3.1, dw_bind h4] at h1
              rw [← of_decide_eq_true hp]
              exact dw_dc h1
def dw_en (cc : ByteArray) (w : List UInt8) (e : Nat × Instr × Nat × Nat) : Bool := match w with
  | [] => false
  | k :: r => dw_i k.toNat r e.2.1 e.2.2.1 || ab_dte cc e
theorem dw_enk {cc : ByteArray} {e : Nat × Instr × Nat × Nat} {w : List UInt8} (hw : w = cc.data.toList.drop e.1) (h : dw_en cc w e = true) : ab_dte cc e = true := by
  subst hw
  unfold dw_en at h
  split at h
  · exact Bool.noConfusion h
  · rename_i k r hw
    rcases (Bool.or_eq_true _ _).mp h with h | h
    · unfold ab_dte
      rw [dw_ik hw h]
      show (decide (e.2.1 = e.2.1) && e.2.2.1.beq e.2.2.1) = true
      rw [decide_eq_true rfl, Nat.beq_refl]
      rfl
    · exact h
def dw (cc : ByteArray) : ab_DT → Nat → List UInt8 → Bool
  | [], _, _ => true
  | g :: dt, b, l => g.all (fun e => b.ble e.1 && dw_en cc (l.drop (e.1 - b)) e) && dw cc dt (b + 16) (l.drop 16)
theorem dw_k {cc : ByteArray} : ∀ (dt : ab_DT) (b : Nat) (l : List UInt8), l = cc.data.toList.drop b → dw cc dt b l = true → ab_dtok cc dt = true
  | [], _, _, _, _ => rfl
  | g :: dt, b, l, hl, h => by
    unfold dw at h
    rw [Bool.and_eq_true] at h
    unfold ab_dtok
    rw [List.all_cons, Bool.and_eq_true]
    refine ⟨List.all_eq_true.mpr (fun e he => ?_), dw_k dt (b + 16) (l.drop 16) (by rw [hl, List.drop_drop]) h.2⟩
    have g2 := List.all_eq_true.mp h.1 e he
    rw [Bool.and_eq_true] at g2
    have hb : b ≤ e.1 := Nat.le_of_ble_eq_true g2.1
    exact dw_enk (by rw [hl, List.drop_drop, Nat.add_sub_cancel' hb]) g2.2
theorem dw_ok {cc : ByteArray} {dt : ab_DT} (h : dw cc dt 0 cc.data.toList = true) : ab_dtok cc dt = true := dw_k dt 0 _ rfl h
