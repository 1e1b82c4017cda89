/-! the two texts read: String.length and charAt -/
/-- what these calls stand on -/
abbrev ns_B (cr av : Nat → Nat) (A : Nat → Prop) (U : State) : Prop := nt_Z cr av A U
theorem ns_B_go {cr av : Nat → Nat} {A : Nat → Prop} {s U : State} (h : ns_B cr av A s) (hW : s.WarmedH U.vm) (hq : ∀ a : Nat, a < s.heap.size → ¬ A a → U.heap[a]? = s.heap[a]?) : ns_B cr av A U := nt_Z_go h hW hq (fun _ h => h)
theorem ns_B_blind {cr av : Nat → Nat} {A : Nat → Prop} {U : State} {g : JFrame} {mk : MethodId} {a : Array Value} (h : ns_B cr av A U) : ns_B cr av A (U.calling g mk a) := nt_Z_blind h
def ns_PC (cr av : Nat → Nat) (A : Nat → Prop) (as : List Value) : Array Value → State → Prop := va_Pc as (fun U => ns_B cr av A U)
theorem ns_PC_blind {cr av : Nat → Nat} {A : Nat → Prop} {as : List Value} : FrameBlind (ns_PC cr av A as) := by
  intro a U g mk h
  exact ⟨h.1, ns_B_blind h.2⟩
def ns_Q (Rv : Option Value → Prop) : Array Value → State → Outcome → State → Prop := fun _ s o t => ∃ v, o = .returned v ∧ Rv v ∧ va_F (fun _ => False) s t
/-- a method that reads alone: its row, how deep, its arguments, what it returns -/
def ns_M (l : Launch) (cr av : Nat → Nat) (mr : ab_MR) (d : Nat) (as : List Value) (Rv : Option Value → Prop) : Prop :=
  ∀ A : Nat → Prop, Met l mr.1 (Jvm.Cond.code mr.1 mr.2.1 mr.2.2.1 mr.2.2.2.1 :: nn_TT) (np_room d) (ns_PC cr av A as) (ns_Q Rv) 0 0 (fun _ => False)
section
variable {p : Program} {l : Launch} {e : Env} {R : Room} {s : State} {m : MethodId} {args : Array Value} {below : List Frame} {meth : Method} {c : Code} {H : Heap} {locs : List Loc} {cells slots : Nat} {Q : State → Prop} {cc : ByteArray} {pc : Nat} {ls : Array Slot}
variable {cr av : Nat → Nat} {nL : Nat} {own : String} {A : Nat → Prop} {Ts : List Jvm.Cond} {mr : ab_MR} {mn d x9 : Nat} {as rest : List Value} {Rv : Option Value → Prop}
theorem ns_words (hts : ∀ w ∈ Ts, w.before args s = true) (hTT : ∀ w ∈ nn_TT, w ∈ Ts) (hmr : nn_MT[mn]? = some mr) : ∀ w ∈ (Jvm.Cond.code mr.1 mr.2.1 mr.2.2.1 mr.2.2.2.1 :: nn_TT), ∀ (a' : Array Value) (U : State), s.WarmedH U.vm → w.before a' U = true := by
  intro w hw a' U hW
  rcases List.mem_cons.mp hw with rfl | hw
  · exact word_at hW (good_of_word (nn_MT_code mr (List.mem_of_getElem? hmr))) (hts _ (hTT _ (nn_MT_in mr (List.mem_of_getElem? hmr))))
  · exact word_at hW (good_of_word (nn_TT_good w hw)) (hts _ (hTT w hw))
theorem ns_end {g : JFrame} {a : Array Value} (hrun : va_Run p l e R s m args below meth c H locs cells slots 0 0 (F0 m pc ls g.stack) rest (ns_Q Rv a) (fun _ => False)) (hS : va_S A s.heap H locs)
    (kk : ∀ (v : Option Value) (H1 : Heap) (locs1 : List Loc), Rv v → (∀ q : Nat, q < H.size → H1[q]? = H[q]?) → va_S A s.heap H1 locs1 → W p l e R s m args below meth c H1 locs1 cells slots Q (F0 m (pc + 3) ls (v.toList ++ rest))) : W p l e R s m args below meth c H locs cells slots Q (F0 m pc ls g.stack) := by
  intro T9 hT X
  obtain ⟨v, st₀, t, T', L, h0, X', hL, e1, e2, ⟨rv, hv, hR, hF⟩, st⟩ := hrun T9 hT X
  cases hv
  obtain ⟨k1, k2, k3⟩ := vx_keep (A0 := A) (A1 := fun _ => False) (free := fun _ => False) h0 e1 hS (fun _ _ h => False.elim h) (fun _ h => False.elim h) hL hF
  obtain ⟨t2, a1, b1⟩ := kk v T'.heap (locs ++ L) hR (fun q hq => k2 q hq id) k3 T' rfl X'
  exact ⟨t2, st t2 a1, b1⟩
theorem ns_V {b : Nat} (hcs : cells ≤ R.cells ∧ slots ≤ R.slots) (hx : p.tables.exec = Jvm.exec) (hb : c.code = cc) (hml : c.maxLocals = nL) (hown : s.vm.findClass own = some m.cls) (hts : ∀ w ∈ Ts, w.before args s = true) (hTT : ∀ w ∈ nn_TT, w ∈ Ts) (hmr : nn_MT[mn]? = some mr) (hob : mr.2.2.2.2.2.1 = true) (hlk : ab_mlk nn_MT Ts nn_NW own (x9, 0, mn)) (hplain : Jvm.Cond.methodLink own x9 mr.1 ∈ Ts)
    (hM : ns_M l cr av mr d (.ref b :: as) Rv) (hB : ns_B cr av A s) (hrecv : ∃ cell, H[b]? = some cell ∧ cell.vm.isStatics = false ∧ s.vm.findClass mr.1.cls = some cell.cls) (hR : d + 11 ≤ R.frames ∧ 40 * d + 240 ≤ R.locals) (hl21 : mr.2.2.1 ≤ 21) (hn : as.length = mr.2.2.2.2.1) (hsz : ls.size = nL) (hrest : (rest.map fun v => v.category).sum ≤ 8)
    (hdg : decode cc pc = .ok (.invokevirtual x9, 3)) (hS : va_S A s.heap H locs)
    (kk : ∀ (v : Option Value) (H1 : Heap) (locs1 : List Loc), Rv v → (∀ q : Nat, q < H.size → H1[q]? = H[q]?) → va_S A s.heap H1 locs1 → W p l e R s m args below meth c H1 locs1 cells slots Q (F0 m (pc + 3) ls (v.toList ++ rest))) : W p l e R s m args below meth c H locs cells slots Q (F0 m pc ls (as.reverse ++ .ref b :: rest)) := by
  obtain ⟨c1, c2, c3, c4, c5, -, -⟩ := hlk mr hmr
  obtain ⟨d1, d2⟩ := c5 hob
  have hsig : ∀ sig, parseMethodDescriptor mr.1.desc = some sig → mr.2.2.2.2.1 = sig.parameters.length := fun sig hsg => by
    rw [hsg] at c4
    exact (Option.some.inj c4).symm
  have hlo : 8 + (mr.2.2.1 + 11) + (40 * d + 200) ≤ R.locals := by
    have := hR.2
    omega
  have hrun := va_runV (meth := meth) (below := below) (e := e) (R := R) (As := as) (rest := rest) (cells := cells) (slots := slots) (locs := locs) (g := F0 m pc ls (as.reverse ++ .ref b :: rest)) ⟨hx, hb, hml, hown, hts⟩ (hM A) ⟨⟨rfl, rfl, hR.1, hlo, ns_words hts hTT hmr, List.mem_cons_self, hts _ c1, hts _ c2, c3, hsig, hts _ hplain⟩, hts _ d1, hts _ d2⟩
    ⟨ns_PC_blind, hrecv, fun U hU hW => ⟨rfl, ns_B_go hB hW (fun a ha hna => by rw [hU, hS.2.1 a ha hna])⟩⟩ rfl hn hsz rfl (lv_room (rest := (as.reverse ++ .ref b :: rest)) hrest) hdg hcs
  exact ns_end (g := F0 m pc ls (as.reverse ++ .ref b :: rest)) hrun hS kk
theorem ns_S (hcs : cells ≤ R.cells ∧ slots ≤ R.slots) (hx : p.tables.exec = Jvm.exec) (hb : c.code = cc) (hml : c.maxLocals = nL) (hown : s.vm.findClass own = some m.cls) (hts : ∀ w ∈ Ts, w.before args s = true) (hTT : ∀ w ∈ nn_TT, w ∈ Ts) (hmr : nn_MT[mn]? = some mr) (hob : mr.2.2.2.2.2.1 = false) (hlk : ab_mlk nn_MT Ts nn_NW own (x9, 0, mn)) (hplain : Jvm.Cond.methodLink own x9 mr.1 ∈ Ts)
    (hM : ns_M l cr av mr d as Rv) (hB : ns_B cr av A s) (hR : d + 11 ≤ R.frames ∧ 40 * d + 240 ≤ R.locals) (hl21 : mr.2.2.1 ≤ 21) (hn : as.length = mr.2.2.2.2.1) (hsz : ls.size = nL) (hrest : (rest.map fun v => v.category).sum ≤ 8)
    (hdg : decode cc pc = .ok (.invokestatic x9, 3)) (hS : va_S A s.heap H locs)
    (kk : ∀ (v : Option Value) (H1 : Heap) (locs1 : List Loc), Rv v → (∀ q : Nat, q < H.size → H1[q]? = H[q]?) → va_S A s.heap H1 locs1 → W p l e R s m args below meth c H1 locs1 cells slots Q (F0 m (pc + 3) ls (v.toList ++ rest))) : W p l e R s m args below meth c H locs cells slots Q (F0 m pc ls (as.reverse ++ rest)) := by
  obtain ⟨c1, c2, c3, c4, -, c6, -⟩ := hlk mr hmr
  have d1 := c6 hob
  have hsig : ∀ sig, parseMethodDescriptor mr.1.desc = some sig → mr.2.2.2.2.1 = sig.parameters.length := fun sig hsg => by
    rw [hsg] at c4
    exact (Option.some.inj c4).symm
  have hlo : 8 + (mr.2.2.1 + 11) + (40 * d + 200) ≤ R.locals := by
    have := hR.2
    omega
  have hrun := va_runS (meth := meth) (below := below) (e := e) (R := R) (As := as) (rest := rest) (cells := cells) (slots := slots) (locs := locs) (g := F0 m pc ls (as.reverse ++ rest)) ⟨hx, hb, hml, hown, hts⟩ (hM A) ⟨⟨rfl, rfl, hR.1, hlo, ns_words hts hTT hmr, List.mem_cons_self, hts _ c1, hts _ c2, c3, hsig, hts _ hplain⟩, hts _ d1⟩
    ⟨ns_PC_blind, fun U hU hW => ⟨rfl, ns_B_go hB hW (fun a ha hna => by rw [hU, hS.2.1 a ha hna])⟩⟩ rfl hn hsz rfl (lv_room (rest := (as.reverse ++ rest)) hrest) hdg hcs
  exact ns_end (g := F0 m pc ls (as.reverse ++ rest)) hrun hS kk
end
/-- a method that reads alone, out of a run of its body -/
theorem ns_of {l : Launch} {cr av : Nat → Nat} {mr : ab_MR} {d : Nat} {as : List Value} {Rv : Option Value → Prop} (hy : plainName mr.1.cls = true) (hfit : (lg_sl as).length ≤ mr.2.2.1)
    (body : ∀ (p : Program) (e : Env) (s : State) (m : MethodId) (below : List Frame) (meth : Method) (c : Code) (R : Room) (ls : Array Slot), R.frames = d + 10 → R.locals = 40 * d + 200 → p.tables.exec = Jvm.exec → c.code = mr.2.1 → c.maxLocals = mr.2.2.1 → meth.sig.returnType = mr.2.2.2.1 → meth.locks = false → s.vm.findClass mr.1.cls = some m.cls → (∀ w ∈ (Jvm.Cond.code mr.1 mr.2.1 mr.2.2.1 mr.2.2.2.1 :: nn_TT), w.before as.toArray s = true) → ns_B cr av (fun _ => False) s → lv_has ls mr.2.2.1 (lv_args 0 as) →
      W p l e R s m as.toArray below meth c s.heap [] 0 0 (MQ below (ns_Q Rv) as.toArray s 0 0 (fun _ => False)) (F0 m 0 ls [])) : ns_M l cr av mr d as Rv := by
  intro A
  refine Met.ofW (cc := mr.2.1) (maxL := mr.2.2.1) (ret := mr.2.2.2.1) hy rfl ?_
  intro p e s m args below meth c s₁ B hml hv
  obtain ⟨rfl, hB⟩ := hv
  have hts := atoms_spec (ws := Jvm.Cond.code mr.1 mr.2.1 mr.2.2.1 mr.2.2.2.1 :: nn_TT) B.pre
  have hl := lv_entry as (n := mr.2.2.1) hfit
  rw [lg_entry_eq]
  generalize (lg_sl as ++ List.replicate (mr.2.2.1 - (lg_sl as).length) Slot.unset).toArray = ls at hl ⊢
  exact body p e s m below meth c _ ls rfl rfl B.exec B.bytes hml B.returns B.notSynchronized (findClass_of_methodNamed B.named) hts ⟨⟨vk_S.narrow hB.1.1 (fun _ h => False.elim h), va_Z.narrow hB.1.2 (fun _ h => False.elim h)⟩, vx_Zq.narrow hB.2 (fun _ h => False.elim h)⟩ hl
/-! the seven methods -/
abbrev nr_coder : ab_MR := (⟨"java/lang/String", "coder", "()B"⟩, prog_23_method_152_code, 1, (Option.some Jvm.ClassFile.FieldType.byte), 0, true, 5)
abbrev nr_len : ab_MR := (⟨"java/lang/String", "length", "()I"⟩, prog_23_method_54_code, 1, (Option.some Jvm.ClassFile.FieldType.int), 0, true, 0)
abbrev nr_isl : ab_MR := (⟨"java/lang/String", "isLatin1", "()Z"⟩, prog_23_method_154_code, 1, (Option.some Jvm.ClassFile.FieldType.boolean), 0, true, 1)
abbrev nr_chk : ab_MR := (⟨"java/lang/String", "checkIndex", "(II)V"⟩, prog_23_method_155_code, 2, (Option.none : Option Jvm.ClassFile.FieldType), 2, false, 4)
abbrev nr_pre : ab_MR := (⟨"jdk/internal/util/Preconditions", "checkIndex", "(IILjava/util/function/BiFunction;)I"⟩, prog_30_method_11_code, 3, (Option.some Jvm.ClassFile.FieldType.int), 3, false, 0)
abbrev nr_l1 : ab_MR := (⟨"java/lang/StringLatin1", "charAt", "([BI)C"⟩, prog_24_method_2_code, 2, (Option.some Jvm.ClassFile.FieldType.char), 2, false, 6)
abbrev nr_chr : ab_MR := (⟨"java/lang/String", "charAt", "(I)C"⟩, prog_23_method_56_code, 2, (Option.some Jvm.ClassFile.FieldType.char), 1, true, 6)
def ns_in (w : Jvm.Cond) (i : Nat) : Prop := nn_at i w = true
theorem nc_coder (l : Launch) (cr av : Nat → Nat) {i : Nat} (hi : i < 2) : ns_M l cr av nr_coder 1 [.ref (cr (3 + i))] (fun v => v = some (.int 0)) := by
  refine ns_of (by decide) (Nat.le_of_ble_eq_true rfl) ?_
  intro p e s m below meth c R ls hR1 hR2 hx hb hml hr hlocks hown hts hB hl
  have hS : va_S (fun _ => False) s.heap s.heap [] := va_S.rf
  obtain ⟨h1, h2, h3, h4⟩ := hB.1.1.1 i hi
  refine va_gets hx hb hB.1.2 hS hown (hts (.fieldLink "java/lang/String" 38 "java/lang/String" "COMPACT_STRINGS" "Z") (List.mem_cons_of_mem _ (nn_at_ok (i := 4191) (by decide +kernel)))) (fun _ h => h) (show decode prog_23_method_152_code 0 = .ok (.getstatic 38, 3) by decide +kernel) ?_
  refine lv_if_eq (tgt := 13) hx hb (show decode prog_23_method_152_code 3 = .ok (.ifCond .eq 10, 3) by decide +kernel) (by decide) (fun h => absurd h (by decide)) (fun _ => ?_)
  refine lv_aload_n hx hb (show decode prog_23_method_152_code 6 = .ok (.aload_n 0, 1) by decide +kernel) rfl (lv_at hl 0 rfl) ?_
  refine vk_getf hx hb h2 hS hown (hts (.fieldLink "java/lang/String" 15 "java/lang/String" "coder" "B") (List.mem_cons_of_mem _ (nn_at_ok (i := 10100) (by decide +kernel)))) (fun _ h => h) (show decode prog_23_method_152_code 7 = .ok (.getfield 15, 3) by decide +kernel) ?_
  refine lv_goto (tgt := 14) hx hb (show decode prog_23_method_152_code 10 = .ok (.goto 4, 3) by decide +kernel) (by decide) ?_
  exact W.zret (v := 0) hx hb hr (by decide) (fun t ht _ => ⟨_, rfl, rfl, hS.F ht⟩) hS.2.2 (show decode prog_23_method_152_code 14 = .ok (.ireturn, 1) by decide +kernel) hlocks
theorem nc_isl (l : Launch) (cr av : Nat → Nat) {i : Nat} (hi : i < 2) : ns_M l cr av nr_isl 1 [.ref (cr (3 + i))] (fun v => v = some (.int 1)) := by
  refine ns_of (by decide) (Nat.le_of_ble_eq_true rfl) ?_
  intro p e s m below meth c R ls hR1 hR2 hx hb hml hr hlocks hown hts hB hl
  have hS : va_S (fun _ => False) s.heap s.heap [] := va_S.rf
  obtain ⟨h1, h2, h3, h4⟩ := hB.1.1.1 i hi
  refine va_gets hx hb hB.1.2 hS hown (hts (.fieldLink "java/lang/String" 38 "java/lang/String" "COMPACT_STRINGS" "Z") (List.mem_cons_of_mem _ (nn_at_ok (i := 4191) (by decide +kernel)))) (fun _ h => h) (show decode prog_23_method_154_code 0 = .ok (.getstatic 38, 3) by decide +kernel) ?_
  refine lv_if_eq (tgt := 17) hx hb (show decode prog_23_method_154_code 3 = .ok (.ifCond .eq 14, 3) by decide +kernel) (by decide) (fun h => absurd h (by decide)) (fun _ => ?_)
  refine lv_aload_n hx hb (show decode prog_23_method_154_code 6 = .ok (.aload_n 0, 1) by decide +kernel) rfl (lv_at hl 0 rfl) ?_
  refine vk_getf hx hb h2 hS hown (hts (.fieldLink "java/lang/String" 15 "java/lang/String" "coder" "B") (List.mem_cons_of_mem _ (nn_at_ok (i := 10100) (by decide +kernel)))) (fun _ h => h) (show decode prog_23_method_154_code 7 = .ok (.getfield 15, 3) by decide +kernel) ?_
  refine lv_if_ne (tgt := 17) hx hb (show decode prog_23_method_154_code 10 = .ok (.ifCond .ne 7, 3) by decide +kernel) (by decide) (fun h => absurd h (by decide)) (fun _ => ?_)
  refine lv_iconst (v := 1) hx hb (show decode prog_23_method_154_code 13 = .ok (.iconst 1, 1) by decide +kernel) (by decide) ?_
  refine lv_goto (tgt := 18) hx hb (show decode prog_23_method_154_code 14 = .ok (.goto 4, 3) by decide +kernel) (by decide) ?_
  exact W.zret (v := 1) hx hb hr (by decide) (fun t ht _ => ⟨_, rfl, rfl, hS.F ht⟩) hS.2.2 (show decode prog_23_method_154_code 18 = .ok (.ireturn, 1) by decide +kernel) hlocks
theorem ns_recv {cr av : Nat → Nat} {A : Nat → Prop} {s : State} {H : Heap} {locs : List Loc} (hB : ns_B cr av A s) (hS : va_S A s.heap H locs) {i : Nat} (hi : i < 2) : ∃ cell : Cell, H[cr (3 + i)]? = some cell ∧ cell.vm.isStatics = false ∧ s.vm.findClass "java/lang/String" = some cell.cls := vk_recv (adK := fun i => cr (3 + i)) (i := i) hB.1.1 hi hS
theorem ns_five {i : Nat} (hi : i < 2) : ([5, 5] : List Nat).getD i 0 = 5 := by
  rcases (show i = 0 ∨ i = 1 by omega) with rfl | rfl <;> rfl
theorem nc_len (l : Launch) (cr av : Nat → Nat) {i : Nat} (hi : i < 2) : ns_M l cr av nr_len 2 [.ref (cr (3 + i))] (fun v => v = some (.int 5)) := by
  refine ns_of (by decide) (Nat.le_of_ble_eq_true rfl) ?_
  intro p e s m below meth c R ls hR1 hR2 hx hb hml hr hlocks hown hts hB hl
  have hS : va_S (fun _ => False) s.heap s.heap [] := va_S.rf
  obtain ⟨h1, h2, h3, h4⟩ := hB.1.1.1 i hi
  rw [ns_five hi] at h4
  refine lv_aload_n hx hb (show decode prog_23_method_54_code 0 = .ok (.aload_n 0, 1) by decide +kernel) rfl (lv_at hl 0 rfl) ?_
  refine vk_getf hx hb h3 hS hown (hts (.fieldLink "java/lang/String" 9 "java/lang/String" "value" "[B") (List.mem_cons_of_mem _ (nn_at_ok (i := 10099) (by decide +kernel)))) (fun _ h => h) (show decode prog_23_method_54_code 1 = .ok (.getfield 9, 3) by decide +kernel) ?_
  refine va_tlen (v := 5) hx hb h4 hS rfl (show decode prog_23_method_54_code 4 = .ok (.arraylength, 1) by decide +kernel) ?_
  refine lv_aload_n hx hb (show decode prog_23_method_54_code 5 = .ok (.aload_n 0, 1) by decide +kernel) rfl (lv_at hl 0 rfl) ?_
  refine ns_V (as := []) (rest := [.int 5]) (own := "java/lang/String") (mr := nr_coder) (mn := 112) (d := 1) ⟨Nat.zero_le _, Nat.zero_le _⟩ hx hb hml hown hts (fun w hw => List.mem_cons_of_mem _ hw) rfl rfl (ab_mlk_mono (nn_PM13_ok (335, 0, 112) (by decide +kernel)) (fun w hw => List.mem_cons_of_mem _ hw)) (List.mem_cons_of_mem _ (nn_at_ok (i := 4187) (by decide +kernel))) (nc_coder l cr av hi) hB (ns_recv hB hS hi) ⟨by rw [hR1]; decide, by rw [hR2]; decide⟩ (by decide) rfl hl.1 (by decide) (show decode prog_23_method_54_code 6 = .ok (.invokevirtual 335, 3) by decide +kernel) hS ?_
  intro v H1 locs1 hv _ hS
  subst hv
  refine lv_ishr hx hb (show decode prog_23_method_54_code 9 = .ok (.ishr, 1) by decide +kernel) ?_
  exact W.iret (v := 5) hx hb hr (fun t ht _ => ⟨_, rfl, rfl, hS.F ht⟩) hS.2.2 (show decode prog_23_method_54_code 10 = .ok (.ireturn, 1) by decide +kernel) hlocks
theorem ns_j1 {j : Nat} (h : j < 5) : ¬ Int32.ofNat j < 0 := by
  match j, h with
  | 0, _ => decide
  | 1, _ => decide
  | 2, _ => decide
  | 3, _ => decide
  | 4, _ => decide
theorem ns_j2 {j : Nat} (h : j < 5) : Int32.ofNat j < 5 := by
  match j, h with
  | 0, _ => decide
  | 1, _ => decide
  | 2, _ => decide
  | 3, _ => decide
  | 4, _ => decide
theorem ns_j3 {j : Nat} (h : j < 5) : vp_in (Int32.ofNat j) 5 := by
  unfold vp_in
  match j, h with
  | 0, _ => decide
  | 1, _ => decide
  | 2, _ => decide
  | 3, _ => decide
  | 4, _ => decide
theorem ns_nar (x : Int32) : narrow .char (.int ((x.toUInt32 % 65536).toInt32)) = .int ((x.toUInt32 % 65536).toInt32) := by
  have h : x.toUInt32 % 65536 % 65536 = x.toUInt32 % 65536 := by
    apply UInt32.toNat_inj.mp
    simp [UInt32.toNat_mod]
  simp [narrow, h]
theorem nc_pre (l : Launch) (cr av : Nat → Nat) {j : Nat} (hj : j < 5) {w : Value} (hw : w = .null ∨ ∃ t : Nat, w = .ref t) : ns_M l cr av nr_pre 1 [.int (Int32.ofNat j), .int 5, w] (fun v => ∃ z, v = some (.int z)) := by
  refine ns_of (by decide) (by rcases hw with rfl | ⟨t, rfl⟩ <;> exact Nat.le_of_ble_eq_true rfl) ?_
  intro p e s m below meth c R ls hR1 hR2 hx hb hml hr hlocks hown hts hB hl
  have hS : va_S (fun _ => False) s.heap s.heap [] := va_S.rf
  refine lv_iload_n hx hb (show decode prog_30_method_11_code 0 = .ok (.iload_n 0, 1) by decide +kernel) rfl (lv_at hl 0 rfl) ?_
  refine lv_if_lt (tgt := 9) hx hb (show decode prog_30_method_11_code 1 = .ok (.ifCond .lt 8, 3) by decide +kernel) (by decide) (fun h => absurd h (ns_j1 hj)) (fun _ => ?_)
  refine lv_iload_n hx hb (show decode prog_30_method_11_code 4 = .ok (.iload_n 0, 1) by decide +kernel) rfl (lv_at hl 0 rfl) ?_
  refine lv_iload_n hx hb (show decode prog_30_method_11_code 5 = .ok (.iload_n 1, 1) by decide +kernel) rfl (lv_at hl 1 rfl) ?_
  refine lv_icmp_lt (tgt := 16) hx hb (show decode prog_30_method_11_code 6 = .ok (.if_icmp .lt 10, 3) by decide +kernel) (by decide) (fun _ => ?_) (fun h => absurd (ns_j2 hj) h)
  refine lv_iload_n hx hb (show decode prog_30_method_11_code 16 = .ok (.iload_n 0, 1) by decide +kernel) rfl (lv_at hl 0 rfl) ?_
  exact W.iret (v := Int32.ofNat j) hx hb hr (fun t ht _ => ⟨_, rfl, ⟨_, rfl⟩, hS.F ht⟩) hS.2.2 (show decode prog_30_method_11_code 17 = .ok (.ireturn, 1) by decide +kernel) hlocks
theorem nc_chk (l : Launch) (cr av : Nat → Nat) {j : Nat} (hj : j < 5) : ns_M l cr av nr_chk 2 [.int (Int32.ofNat j), .int 5] (fun v => v = none) := by
  refine ns_of (by decide) (Nat.le_of_ble_eq_true rfl) ?_
  intro p e s m below meth c R ls hR1 hR2 hx hb hml hr hlocks hown hts hB hl
  have hS : va_S (fun _ => False) s.heap s.heap [] := va_S.rf
  refine lv_iload_n hx hb (show decode prog_23_method_155_code 0 = .ok (.iload_n 0, 1) by decide +kernel) rfl (lv_at hl 0 rfl) ?_
  refine lv_iload_n hx hb (show decode prog_23_method_155_code 1 = .ok (.iload_n 1, 1) by decide +kernel) rfl (lv_at hl 1 rfl) ?_
  obtain ⟨w, hw, hZ⟩ : ∃ w : Value, (w = .null ∨ ∃ t : Nat, w = .ref t) ∧ va_Z "jdk/internal/util/Preconditions" "SIOOBE_FORMATTER" "Ljava/util/function/BiFunction;" w (fun _ => False) s s.heap := by
    rcases hB.2.1 with h | ⟨t, h⟩
    · exact ⟨_, Or.inl rfl, h⟩
    · exact ⟨_, Or.inr ⟨t, rfl⟩, h⟩
  refine va_gets hx hb hZ hS hown (hts (.fieldLink "java/lang/String" 1053 "jdk/internal/util/Preconditions" "SIOOBE_FORMATTER" "Ljava/util/function/BiFunction;") (List.mem_cons_of_mem _ (nn_at_ok (i := 4207) (by decide +kernel)))) (fun _ h => h) (show decode prog_23_method_155_code 2 = .ok (.getstatic 1053, 3) by decide +kernel) ?_
  refine ns_S (as := [.int (Int32.ofNat j), .int 5, w]) (rest := []) (own := "java/lang/String") (mr := nr_pre) (mn := 117) (d := 1) ⟨Nat.zero_le _, Nat.zero_le _⟩ hx hb hml hown hts (fun w hw => List.mem_cons_of_mem _ hw) rfl rfl (ab_mlk_mono (nn_PM13_ok (1059, 0, 117) (by decide +kernel)) (fun w hw => List.mem_cons_of_mem _ hw)) (List.mem_cons_of_mem _ (nn_at_ok (i := 4209) (by decide +kernel))) (nc_pre l cr av hj hw) hB ⟨by rw [hR1]; decide, by rw [hR2]; decide⟩ (by decide) rfl hl.1 (by decide) (show decode prog_23_method_155_code 5 = .ok (.invokestatic 1059, 3) by decide +kernel) hS ?_
  intro v H1 locs1 hv _ hS
  obtain ⟨z, rfl⟩ := hv
  refine lv_pop hx hb (show decode prog_23_method_155_code 8 = .ok (.pop, 1) by decide +kernel) rfl ?_
  exact W.vret hx hb hr (fun t ht _ => ⟨_, rfl, rfl, hS.F ht⟩) hS.2.2 (show decode prog_23_method_155_code 9 = .ok (.return_, 1) by decide +kernel) hlocks
theorem nc_l1 (l : Launch) (cr av : Nat → Nat) {i j : Nat} (hi : i < 2) (hj : j < 5) : ns_M l cr av nr_l1 3 [.ref (av i), .int (Int32.ofNat j)] (fun v => ∃ z, v = some (.int z) ∧ narrow .char (.int z) = .int z) := by
  refine ns_of (by decide) (Nat.le_of_ble_eq_true rfl) ?_
  intro p e s m below meth c R ls hR1 hR2 hx hb hml hr hlocks hown hts hB hl
  have hS : va_S (fun _ => False) s.heap s.heap [] := va_S.rf
  obtain ⟨h1, h2, h3, h4⟩ := hB.1.1.1 i hi
  rw [ns_five hi] at h4
  refine lv_iload_n hx hb (show decode prog_24_method_2_code 0 = .ok (.iload_n 1, 1) by decide +kernel) rfl (lv_at hl 1 rfl) ?_
  refine lv_aload_n hx hb (show decode prog_24_method_2_code 1 = .ok (.aload_n 0, 1) by decide +kernel) rfl (lv_at hl 0 rfl) ?_
  refine va_tlen (v := 5) hx hb h4 hS rfl (show decode prog_24_method_2_code 2 = .ok (.arraylength, 1) by decide +kernel) ?_
  refine ns_S (as := [.int (Int32.ofNat j), .int 5]) (rest := []) (own := "java/lang/StringLatin1") (mr := nr_chk) (mn := 116) (d := 2) ⟨Nat.zero_le _, Nat.zero_le _⟩ hx hb hml hown hts (fun w hw => List.mem_cons_of_mem _ hw) rfl rfl (ab_mlk_mono (nn_PM14_ok (9, 0, 116) (by decide +kernel)) (fun w hw => List.mem_cons_of_mem _ hw)) (List.mem_cons_of_mem _ (nn_at_ok (i := 4204) (by decide +kernel))) (nc_chk l cr av hj) hB ⟨by rw [hR1]; decide, by rw [hR2]; decide⟩ (by decide) rfl hl.1 (by decide) (show decode prog_24_method_2_code 3 = .ok (.invokestatic 9, 3) by decide +kernel) hS ?_
  intro v H1 locs1 hv _ hS
  subst hv
  refine lv_aload_n hx hb (show decode prog_24_method_2_code 6 = .ok (.aload_n 0, 1) by decide +kernel) rfl (lv_at hl 0 rfl) ?_
  refine lv_iload_n hx hb (show decode prog_24_method_2_code 7 = .ok (.iload_n 1, 1) by decide +kernel) rfl (lv_at hl 1 rfl) ?_
  refine va_tb hx hb h4 hS (ns_j3 hj) rfl (show decode prog_24_method_2_code 8 = .ok (.baload, 1) by decide +kernel) ?_
  refine lv_sipush (v := 255) hx hb (show decode prog_24_method_2_code 9 = .ok (.sipush 255, 3) by decide +kernel) (by decide) ?_
  refine lv_iand hx hb (show decode prog_24_method_2_code 12 = .ok (.iand, 1) by decide +kernel) ?_
  refine lv_i2c hx hb (show decode prog_24_method_2_code 13 = .ok (.i2c, 1) by decide +kernel) rfl ?_
  exact W.zret hx hb hr (ns_nar _) (fun t ht _ => ⟨_, rfl, ⟨_, rfl, ns_nar _⟩, hS.F ht⟩) hS.2.2 (show decode prog_24_method_2_code 14 = .ok (.ireturn, 1) by decide +kernel) hlocks
theorem nc_chr (l : Launch) (cr av : Nat → Nat) {i j : Nat} (hi : i < 2) (hj : j < 5) : ns_M l cr av nr_chr 4 [.ref (cr (3 + i)), .int (Int32.ofNat j)] (fun v => ∃ z, v = some (.int z)) := by
  refine ns_of (by decide) (Nat.le_of_ble_eq_true rfl) ?_
  intro p e s m below meth c R ls hR1 hR2 hx hb hml hr hlocks hown hts hB hl
  have hS : va_S (fun _ => False) s.heap s.heap [] := va_S.rf
  obtain ⟨h1, h2, h3, h4⟩ := hB.1.1.1 i hi
  refine lv_aload_n hx hb (show decode prog_23_method_56_code 0 = .ok (.aload_n 0, 1) by decide +kernel) rfl (lv_at hl 0 rfl) ?_
  refine ns_V (as := []) (rest := []) (own := "java/lang/String") (mr := nr_isl) (mn := 114) (d := 1) ⟨Nat.zero_le _, Nat.zero_le _⟩ hx hb hml hown hts (fun w hw => List.mem_cons_of_mem _ hw) rfl rfl (ab_mlk_mono (nn_PM13_ok (492, 0, 114) (by decide +kernel)) (fun w hw => List.mem_cons_of_mem _ hw)) (List.mem_cons_of_mem _ (nn_at_ok (i := 4197) (by decide +kernel))) (nc_isl l cr av hi) hB (ns_recv hB hS hi) ⟨by rw [hR1]; decide, by rw [hR2]; decide⟩ (by decide) rfl hl.1 (by decide) (show decode prog_23_method_56_code 1 = .ok (.invokevirtual 492, 3) by decide +kernel) hS ?_
  intro v H1 locs1 hv _ hS
  subst hv
  refine lv_if_eq (tgt := 16) hx hb (show decode prog_23_method_56_code 4 = .ok (.ifCond .eq 12, 3) by decide +kernel) (by decide) (fun h => absurd h (by decide)) (fun _ => ?_)
  refine lv_aload_n hx hb (show decode prog_23_method_56_code 7 = .ok (.aload_n 0, 1) by decide +kernel) rfl (lv_at hl 0 rfl) ?_
  refine vk_getf hx hb h3 hS hown (hts (.fieldLink "java/lang/String" 9 "java/lang/String" "value" "[B") (List.mem_cons_of_mem _ (nn_at_ok (i := 10099) (by decide +kernel)))) (fun _ h => h) (show decode prog_23_method_56_code 8 = .ok (.getfield 9, 3) by decide +kernel) ?_
  refine lv_iload_n hx hb (show decode prog_23_method_56_code 11 = .ok (.iload_n 1, 1) by decide +kernel) rfl (lv_at hl 1 rfl) ?_
  refine ns_S (as := [.ref (av i), .int (Int32.ofNat j)]) (rest := []) (own := "java/lang/String") (mr := nr_l1) (mn := 115) (d := 3) ⟨Nat.zero_le _, Nat.zero_le _⟩ hx hb hml hown hts (fun w hw => List.mem_cons_of_mem _ hw) rfl rfl (ab_mlk_mono (nn_PM13_ok (495, 0, 115) (by decide +kernel)) (fun w hw => List.mem_cons_of_mem _ hw)) (List.mem_cons_of_mem _ (nn_at_ok (i := 4201) (by decide +kernel))) (nc_l1 l cr av hi hj) hB ⟨by rw [hR1]; decide, by rw [hR2]; decide⟩ (by decide) rfl hl.1 (by decide) (show decode prog_23_method_56_code 12 = .ok (.invokestatic 495, 3) by decide +kernel) hS ?_
  intro v H1 locs1 hv _ hS
  obtain ⟨z, rfl, hz⟩ := hv
  exact W.zret (v := z) hx hb hr hz (fun t ht _ => ⟨_, rfl, ⟨_, rfl⟩, hS.F ht⟩) hS.2.2 (show decode prog_23_method_56_code 15 = .ok (.ireturn, 1) by decide +kernel) hlocks
