section
/-! a method that reads the two texts -/
/-- the texts "clue " and "name;", and that strings are compact -/
def nt_Z (cr av : Nat → Nat) (A : Nat → Prop) (U : State) : Prop := (vk_S 2 [5, 5] [[99, 108, 117, 101, 32], [110, 97, 109, 101, 59]] (fun i => cr (3 + i)) av A U U.heap ∧ va_Z "java/lang/String" "COMPACT_STRINGS" "Z" (.int 1) A U U.heap) ∧ vx_Zq "jdk/internal/util/Preconditions" "SIOOBE_FORMATTER" "Ljava/util/function/BiFunction;" A U U.heap
theorem nt_Z_go {cr av : Nat → Nat} {A B : Nat → Prop} {s U : State} (h : nt_Z cr av A s) (hW : s.WarmedH U.vm) (hq : ∀ a : Nat, a < s.heap.size → ¬ A a → U.heap[a]? = s.heap[a]?) (hAB : ∀ q, B q → A q) : nt_Z cr av B U :=
  ⟨⟨((vk_S.moved hW.alike h.1.1).kept hq).narrow hAB, ((va_Z.moved hW.alike h.1.2).kept hq).narrow hAB⟩, ((vx_Zq.moved hW.alike h.2).kept hq).narrow hAB⟩
theorem nt_Z_blind {cr av : Nat → Nat} {A : Nat → Prop} {U : State} {g : JFrame} {mk : MethodId} {a : Array Value} (h : nt_Z cr av A U) : nt_Z cr av A (U.calling g mk a) :=
  ⟨⟨vk_S.moved (u := U) (U := U.calling g mk a) (Vm.Alike.refl U.vm) h.1.1, va_Z.moved (u := U) (U := U.calling g mk a) (Vm.Alike.refl U.vm) h.1.2⟩, vx_Zq.moved (u := U) (U := U.calling g mk a) (Vm.Alike.refl U.vm) h.2⟩
def np_PC (cy : Nat → ClassId) (ad wr cr av : Nat → Nat) (D : va_G) (σ : ab_SG) (as : List Value) (sz : Nat) : Array Value → State → Prop :=
  va_Pc as (fun U => U.heap.size = sz ∧ va_P D vwCl (ab_WD cy ad wr nn_sh σ) U.heap ∧ va_K D vwCl (ab_tys cy) U ∧ ab_okN nn_NW U ∧ ab_CB cy ad wr cr nn_kd (ab_A ad nn_sh.length sz) U ∧ nx_Z (ab_A ad nn_sh.length sz) U ∧ nt_Z cr av (ab_A ad nn_sh.length sz) U)
theorem np_PC_blind {cy : Nat → ClassId} {ad wr cr av : Nat → Nat} {D : va_G} {σ : ab_SG} {as : List Value} {sz : Nat} : FrameBlind (np_PC cy ad wr cr av D σ as sz) := by
  intro a U g mk h
  obtain ⟨h1, h2, h3, h4, h5, h6, h7, h8⟩ := h
  exact ⟨h1, h2, h3, va_K.moved (u := U) (U := U.calling g mk a) (Vm.Alike.refl U.vm) h4, fun q hq => va_Nw.same rfl (u := U) (U := U.calling g mk a) rfl (h5 q hq), ab_CB_blind h6, nx_Z_blind h7, nt_Z_blind h8⟩
def np_room (d : Nat) : Room := { frames := d + 10, cells := 0, slots := 0, locals := 40 * d + 200 }
/-- a method of the world that reads the texts, too: which, how deep, its contract -/
def np_H (l : Launch) (cy : Nat → ClassId) (ad wr cr av : Nat → Nat) (D : va_G) (q : Nat × Nat × ab_CN) : Prop :=
  ∀ mr : ab_MR, nn_MT[q.1]? = some mr → 0 < q.2.2.2.1.length ∧
    (mr.2.2.2.2.2.1 = true → ∃ (k : Nat) (z : Int) (as : List ab_AV) (ci : Nat) (fs : List (Nat × Nat)) (T9 : u_T) (N9 : Nat), q.2.2.1 = (2, k, z) :: as ∧ nn_sh[k]? = some (.inl (ci, fs)) ∧ vwCl[ci]? = some (mr.1.cls, T9, N9)) ∧
    ∀ (ρ : Nat → Int) (σ : ab_SG) (sz : Nat), ab_K nn_T nn_C σ q.2.2.2.1 q.2.2.2.2.1 q.2.2.2.2.2.1 [] ρ σ → (∀ a ∈ q.2.2.1, ab_sy q.2.2.2.1.length a) →
      vx_Met l mr.1 (Jvm.Cond.code mr.1 mr.2.1 mr.2.2.1 mr.2.2.2.1 :: nn_TT) (np_room q.2.1) (np_PC cy ad wr cr av D σ (q.2.2.1.map (ab_V ad wr cr ρ)) sz) (ab_QC cy ad wr cr D vwCl nn_sh nn_T nn_C q.2.2.2.1.length ρ σ q.2.2.2.2.2.2 (ab_A ad nn_sh.length sz)) (fun _ _ _ => False) 0 0 (ab_A ad nn_sh.length sz)
section
variable {p : Program} {l : Launch} {e : Env} {R : Room} {s : State} {m : MethodId} {args : Array Value} {below : List Frame} {meth : Method} {c : Code} {H : Heap} {locs : List Loc} {cells slots : Nat} {Q : State → Prop} {cc : ByteArray} {pc : Nat} {ls : Array Slot} {st : List Value}
variable {ad wr cr : Nat → Nat} {cy : Nat → ClassId} {nL n0 : Nat} {σ0 : ab_SG} {ρ0 : Nat → Int} {own : String} {D : va_G} {A : Nat → Prop} {H0 : Heap} {Ts : List Jvm.Cond}
set_option maxHeartbeats 4000000 in
/-- a call of such a method -/
theorem np_cl {av : Nat → Nat} (hcs : cells ≤ R.cells ∧ slots ≤ R.slots) (hx : p.tables.exec = Jvm.exec) (hb : c.code = cc) (hml : c.maxLocals = nL) (hown : s.vm.findClass own = some m.cls) (hts : ∀ w ∈ Ts, w.before args s = true) (hKK : va_K D vwCl (ab_tys cy) s) (hN : ab_okN nn_NW s) (hCB : ab_CB cy ad wr cr nn_kd A s) (hZ : nx_Z A s) (hY : nt_Z cr av A s) (hH0 : H0 = s.heap) (hTT : ∀ w ∈ nn_TT, w ∈ Ts)
    (hA : ∀ k, k < nn_sh.length → A (ad k)) (hA2 : ∀ q, H0.size ≤ q → A q) {q : Nat × Nat × ab_CN} {x9 : Nat} {mr : ab_MR} (hmr : nn_MT[q.1]? = some mr) (hob : mr.2.2.2.2.2.1 = true) (hlk : ab_mlk nn_MT Ts nn_NW own (x9, 0, q.1)) (hplain : Jvm.Cond.methodLink own x9 mr.1 ∈ Ts) (hq : np_H l cy ad wr cr av D q) (hR : q.2.1 + 11 ≤ R.frames ∧ 40 * q.2.1 + 300 ≤ R.locals)
    {L : ab_LS} {S as rest : List ab_AV} {B : ab_BD} {F : ab_FT} {Dl : ab_DL} {M : ab_ML} (hS0 : S = as.reverse ++ rest) (hlen : as.length = mr.2.2.2.2.1 + 1) (hc8 : ab_cat rest ≤ 8) (hl21 : mr.2.2.1 ≤ 21)
    {ls9 : List ab_AS} (htr : ab_tr1 nn_T (q.1, q.2.1, q.2.2) (q.2.1 + 1) q.1 as rest L B F Dl M = some ls9)
    (hdg : decode cc pc = .ok (.invokevirtual x9, 3)) {ρ : Nat → Int} {σ : ab_SG} (hG : ab_Gm cy ad wr cr D vwCl nn_sh nn_T nn_C nL n0 ρ0 σ0 A H0 (L, S, B, F, Dl, M) ρ σ H locs ls st)
    (kk : ∀ x ∈ ls9, ∀ (ρ2 : Nat → Int) (σ2 : ab_SG) (H1 : Heap) (locs1 : List Loc) (st1 : List Value), (∀ i, i < B.length → ρ2 i = ρ i) → ab_Gm cy ad wr cr D vwCl nn_sh nn_T nn_C nL n0 ρ0 σ0 A H0 x ρ2 σ2 H1 locs1 ls st1 → W p l e R s m args below meth c H1 locs1 cells slots Q (F0 m (pc + 3) ls st1)) :
    W p l e R s m args below meth c H locs cells slots Q (F0 m pc ls st) := by
  obtain ⟨c1, c2, c3, c4, c5, -, -⟩ := hlk mr hmr
  obtain ⟨d1, d2⟩ := c5 hob
  obtain ⟨e0, e1, e2⟩ := hq mr hmr
  obtain ⟨qn, qv, qc⟩ := q
  obtain ⟨ρq, vr, vK, vsy, vst, vcat, vlen, vend, -⟩ := nx_tr (osX := qc.2.2.2.2) htr htr hS0 hG
  have hP : va_P D vwCl (ab_WD cy ad wr nn_sh σ) H := hG.2.2.2.2.2.1
  have hSS : va_S A H0 H locs := hG.2.2.2.2.2.2
  have hM := e2 ρq σ H.size vK vsy
  obtain ⟨k9, z9, as9, ci9, fs9, T9, N9, r1, r2, r3⟩ := e1 hob
  replace r1 : qc.1 = (2, k9, z9) :: as9 := r1
  have has : qc.1.map (ab_V ad wr cr ρq) = .ref (ad k9) :: as9.map (ab_V ad wr cr ρq) := by rw [r1]; rfl
  have hn9 : as9.length = mr.2.2.2.2.1 := by
    have h1 : qc.1.length = as9.length + 1 := by rw [r1]; rfl
    have h2 : qc.1.length = as.length := vlen
    omega
  replace hM : vx_Met l mr.1 (Jvm.Cond.code mr.1 mr.2.1 mr.2.2.1 mr.2.2.2.1 :: nn_TT) (np_room qv) (np_PC cy ad wr cr av D σ (qc.1.map (ab_V ad wr cr ρq)) H.size) (ab_QC cy ad wr cr D vwCl nn_sh nn_T nn_C qc.2.1.length ρq σ qc.2.2.2.2 (ab_A ad nn_sh.length H.size)) (fun _ _ _ => False) 0 0 (ab_A ad nn_sh.length H.size) := hM
  rw [has] at hM
  have hst : st = (as9.map (ab_V ad wr cr ρq)).reverse ++ .ref (ad k9) :: vr := by
    have h9 : st = (qc.1.map (ab_V ad wr cr ρq)).reverse ++ vr := vst
    rw [h9, has, List.reverse_cons, List.append_assoc]
    rfl
  have hws : ∀ w ∈ (Jvm.Cond.code mr.1 mr.2.1 mr.2.2.1 mr.2.2.2.1 :: nn_TT), ∀ (a' : Array Value) (U : State), s.WarmedH U.vm → w.before a' U = true := by
    intro w hw a' U hW
    rcases List.mem_cons.mp hw with rfl | hw
    · exact word_at hW (good_of_word (nn_MT_code mr (List.mem_of_getElem? hmr))) (hts _ c1)
    · exact word_at hW (good_of_word (nn_TT_good w hw)) (hts _ (hTT w hw))
  have hfree : ∀ q, ab_A ad nn_sh.length H.size q → A q := by
    rintro q (⟨k, hk, rfl⟩ | hk)
    · exact hA k hk
    · exact hA2 q (Nat.le_trans hSS.1 hk)
  have hkeep : ∀ U : State, U.heap = H → ∀ a : Nat, a < s.heap.size → ¬ A a → U.heap[a]? = s.heap[a]? := fun U hU a ha hna => by rw [hU, hSS.2.1 a (by rw [hH0]; exact ha) hna, hH0]
  have hpre : ∀ U : State, U.heap = H → s.WarmedH U.vm → np_PC cy ad wr cr av D σ (.ref (ad k9) :: as9.map (ab_V ad wr cr ρq)) H.size (.ref (ad k9) :: as9.map (ab_V ad wr cr ρq)).toArray U := fun U hU hW =>
    ⟨rfl, by rw [hU], by rw [hU]; exact hP, va_K.moved hW.alike hKK, ab_okN_moved hW hN, ab_CB_go hCB hW (hkeep U hU) hfree, nx_Z_go hZ hW (hkeep U hU) hfree, nt_Z_go hY hW (hkeep U hU) hfree⟩
  have hsig : ∀ sig, parseMethodDescriptor mr.1.desc = some sig → mr.2.2.2.2.1 = sig.parameters.length := fun sig hsg => by
    rw [hsg] at c4
    exact (Option.some.inj c4).symm
  have hfr : (np_room qv).frames + 1 ≤ R.frames := by
    have := hR.1
    show qv + 10 + 1 ≤ _
    replace this : qv + 11 ≤ R.frames := this
    omega
  have hlo : 8 + (mr.2.2.1 + 11) + (np_room qv).locals ≤ R.locals := by
    have := hR.2
    show 8 + (mr.2.2.1 + 11) + (40 * qv + 200) ≤ _
    replace this : 40 * qv + 300 ≤ R.locals := this
    omega
  have hA3 : ∀ q, q < H.size → ab_A ad nn_sh.length H.size q → A q := by
    rintro q hq (⟨k, hk, rfl⟩ | hk)
    · exact hA k hk
    · exact absurd hq (Nat.not_lt.mpr hk)
  have hroom : 2 * (F0 m pc ls st).monitorRoom + (vr.map fun v => v.category).sum ≤ 8 := lv_room (rest := st) (by rw [vcat]; exact hc8)
  have hrecv := va_recv hKK hP r3 (ab_cell_f (σ := σ) (cy := cy) (ad := ad) (wr := wr) r2)
  have hrun := vx_runV (meth := meth) (below := below) (e := e) (As := as9.map (ab_V ad wr cr ρq)) (rest := vr) (cells := cells) (slots := slots) (locs := locs) ⟨hx, hb, hml, hown, hts⟩ hM ⟨⟨rfl, rfl, hfr, hlo, hws, List.mem_cons_self, hts _ c1, hts _ c2, c3, hsig, hts _ hplain⟩, hts _ d1, hts _ d2⟩ ⟨np_PC_blind, hrecv, hpre⟩ (g := F0 m pc ls st) rfl (by rw [List.length_map]; exact hn9) hG.2.2.2.1.1.1 hst hroom hdg hcs
  intro T9 hT X
  rcases hrun T9 hT X with ⟨v, st₀, t, T', L2, h0, X', hL, e1, e2, ⟨⟨rv, o, hv, ho, hps⟩, hF⟩, stp⟩ | ⟨q, st₀, t, T', L2, E, ce, h0, X', hL, e1, e2, hXC, -⟩
  · cases hv
    obtain ⟨k1, k2, k3⟩ := vx_keep h0 e1 hSS hA3 hfree hL hF
    obtain ⟨x, hx9, ρ2, σ2, g1, g2⟩ := vend v o T'.heap (locs ++ L2) ho (by rw [e1]; exact hps) k3
    obtain ⟨t2, a1, b1⟩ := kk x hx9 ρ2 σ2 T'.heap (locs ++ L2) _ g1 g2 T' rfl X'
    exact ⟨t2, stp t2 a1, b1⟩
  · exact hXC.elim
end
end
section
/-! behind the calls -/
def npd_play : ab_CN := ([(2, 0, 0), (0, 1, 0), (0, 2, 0), (0, 3, 0)], [(0, 0), ((-2147483648), 2147483647), ((-2147483648), 2147483647), ((-2147483648), 2147483647)], [], [], [([(0, 4, 0)], [(0, 0), ((-2147483648), 2147483647), ((-2147483648), 2147483647), ((-2147483648), 2147483647), ((-2147483648), 2147483647)], [], [], [(73, 3), (74, 1000000), (75, 1000000), (78, 1000000), (79, 1000000), (80, 1000000), (87, 1), (88, 1000000)])])
def lw_R813 : List ab_AS := (ab_tr1 nn_T (0, 5, nqd_named) 6 0 [(2, 0, 0), (0, 12, 0), (0, 13, 0), (0, 14, 0), (0, 15, 0), (0, 16, 0), (2, 122, 0)] [] lw_X813.2.1.1 lw_X813.2.1.2.2.1 lw_X813.2.1.2.2.2.1 lw_X813.2.1.2.2.2.2.1 lw_X813.2.1.2.2.2.2.2).getD []
theorem lw_R813_ok : ab_tr1 nn_T (0, 5, nqd_named) 6 0 [(2, 0, 0), (0, 12, 0), (0, 13, 0), (0, 14, 0), (0, 15, 0), (0, 16, 0), (2, 122, 0)] [] lw_X813.2.1.1 lw_X813.2.1.2.2.1 lw_X813.2.1.2.2.2.1 lw_X813.2.1.2.2.2.2.1 lw_X813.2.1.2.2.2.2.2 = some lw_R813 := nq_some (by decide +kernel)
theorem lw_c813 : (lw_R813.map (nq_nd 816)).all (lw_cn 10 [lw_X] (lw_R813.map (nq_nd 816))) = true := by delta lw_cn; rw [← fz_cn_eq]; decide +kernel
def lw_R883 : List ab_AS := (ab_tr1 nn_T (0, 5, nqd_odds) 6 0 [(2, 0, 0), (0, 12, 0), (0, 13, 0), (0, 14, 0), (0, 15, 0), (2, 122, 0)] [] lw_X883.2.1.1 lw_X883.2.1.2.2.1 lw_X883.2.1.2.2.2.1 lw_X883.2.1.2.2.2.2.1 lw_X883.2.1.2.2.2.2.2).getD []
theorem lw_R883_ok : ab_tr1 nn_T (0, 5, nqd_odds) 6 0 [(2, 0, 0), (0, 12, 0), (0, 13, 0), (0, 14, 0), (0, 15, 0), (2, 122, 0)] [] lw_X883.2.1.1 lw_X883.2.1.2.2.1 lw_X883.2.1.2.2.2.1 lw_X883.2.1.2.2.2.2.1 lw_X883.2.1.2.2.2.2.2 = some lw_R883 := nq_some (by decide +kernel)
theorem lw_c883 : (lw_R883.map (nq_nd 886)).all (lw_cn 10 [lw_X] (lw_R883.map (nq_nd 886))) = true := by delta lw_cn; rw [← fz_cn_eq]; decide +kernel
def lw_R1063 : List ab_AS := (ab_tr1 nn_T (0, 6, nqd_worth) 7 0 [(2, 0, 0), (0, 12, 0), (0, 13, 0), (0, 14, 0), (0, 15, 0), (0, 16, 0), (2, 122, 0)] [] lw_X1063.2.1.1 lw_X1063.2.1.2.2.1 lw_X1063.2.1.2.2.2.1 lw_X1063.2.1.2.2.2.2.1 lw_X1063.2.1.2.2.2.2.2).getD []
theorem lw_R1063_ok : ab_tr1 nn_T (0, 6, nqd_worth) 7 0 [(2, 0, 0), (0, 12, 0), (0, 13, 0), (0, 14, 0), (0, 15, 0), (0, 16, 0), (2, 122, 0)] [] lw_X1063.2.1.1 lw_X1063.2.1.2.2.1 lw_X1063.2.1.2.2.2.1 lw_X1063.2.1.2.2.2.2.1 lw_X1063.2.1.2.2.2.2.2 = some lw_R1063 := nq_some (by decide +kernel)
theorem lw_c1063 : (lw_R1063.map (nq_nd 1066)).all (lw_cn 10 [lw_X] (lw_R1063.map (nq_nd 1066))) = true := by delta lw_cn; rw [← fz_cn_eq]; decide +kernel
def lw_R1200 : List ab_AS := (ab_tr1 nn_T (0, 6, nqd_gains) 7 0 [(2, 0, 0), (0, 12, 0), (0, 13, 0), (0, 14, 0), (0, 15, 0), (0, 16, 0), (2, 122, 0)] [] lw_X1200.2.1.1 lw_X1200.2.1.2.2.1 lw_X1200.2.1.2.2.2.1 lw_X1200.2.1.2.2.2.2.1 lw_X1200.2.1.2.2.2.2.2).getD []
theorem lw_R1200_ok : ab_tr1 nn_T (0, 6, nqd_gains) 7 0 [(2, 0, 0), (0, 12, 0), (0, 13, 0), (0, 14, 0), (0, 15, 0), (0, 16, 0), (2, 122, 0)] [] lw_X1200.2.1.1 lw_X1200.2.1.2.2.1 lw_X1200.2.1.2.2.2.1 lw_X1200.2.1.2.2.2.2.1 lw_X1200.2.1.2.2.2.2.2 = some lw_R1200 := nq_some (by decide +kernel)
theorem lw_c1200 : (lw_R1200.map (nq_nd 1203)).all (lw_cn 10 [lw_X] (lw_R1200.map (nq_nd 1203))) = true := by delta lw_cn; rw [← fz_cn_eq]; decide +kernel
def lw_R1332 : List ab_AS := (ab_tr1 nn_T (0, 5, nqd_held) 6 0 [(2, 0, 0), (0, 12, 0), (0, 13, 0), (0, 14, 0), (0, 15, 0), (0, 16, 0), (0, 17, 0), (2, 122, 0)] [] lw_X1332.2.1.1 lw_X1332.2.1.2.2.1 lw_X1332.2.1.2.2.2.1 lw_X1332.2.1.2.2.2.2.1 lw_X1332.2.1.2.2.2.2.2).getD []
theorem lw_R1332_ok : ab_tr1 nn_T (0, 5, nqd_held) 6 0 [(2, 0, 0), (0, 12, 0), (0, 13, 0), (0, 14, 0), (0, 15, 0), (0, 16, 0), (0, 17, 0), (2, 122, 0)] [] lw_X1332.2.1.1 lw_X1332.2.1.2.2.1 lw_X1332.2.1.2.2.2.1 lw_X1332.2.1.2.2.2.2.1 lw_X1332.2.1.2.2.2.2.2 = some lw_R1332 := nq_some (by decide +kernel)
theorem lw_c1332 : (lw_R1332.map (nq_nd 1335)).all (lw_cn 10 [lw_X] (lw_R1332.map (nq_nd 1335))) = true := by delta lw_cn; rw [← fz_cn_eq]; decide +kernel
def lw_R1409 : List ab_AS := (ab_tr1 nn_T (0, 5, nqd_among) 6 0 [(2, 0, 0), (0, 12, 0), (0, 13, 0), (0, 14, 0), (0, 15, 0), (2, 122, 0)] [] lw_X1409.2.1.1 lw_X1409.2.1.2.2.1 lw_X1409.2.1.2.2.2.1 lw_X1409.2.1.2.2.2.2.1 lw_X1409.2.1.2.2.2.2.2).getD []
theorem lw_R1409_ok : ab_tr1 nn_T (0, 5, nqd_among) 6 0 [(2, 0, 0), (0, 12, 0), (0, 13, 0), (0, 14, 0), (0, 15, 0), (2, 122, 0)] [] lw_X1409.2.1.1 lw_X1409.2.1.2.2.1 lw_X1409.2.1.2.2.2.1 lw_X1409.2.1.2.2.2.2.1 lw_X1409.2.1.2.2.2.2.2 = some lw_R1409 := nq_some (by decide +kernel)
theorem lw_c1409 : (lw_R1409.map (nq_nd 1412)).all (lw_cn 10 [lw_X] (lw_R1409.map (nq_nd 1412))) = true := by delta lw_cn; rw [← fz_cn_eq]; decide +kernel
def lw_R1589 : List ab_AS := (ab_tr1 nn_T (108, 12, npd_play) 13 108 [(2, 0, 0), (0, 12, 0), (0, 13, 0), (0, 14, 0)] [] lw_X1589.2.1.1 lw_X1589.2.1.2.2.1 lw_X1589.2.1.2.2.2.1 lw_X1589.2.1.2.2.2.2.1 lw_X1589.2.1.2.2.2.2.2).getD []
theorem lw_R1589_ok : ab_tr1 nn_T (108, 12, npd_play) 13 108 [(2, 0, 0), (0, 12, 0), (0, 13, 0), (0, 14, 0)] [] lw_X1589.2.1.1 lw_X1589.2.1.2.2.1 lw_X1589.2.1.2.2.2.1 lw_X1589.2.1.2.2.2.2.1 lw_X1589.2.1.2.2.2.2.2 = some lw_R1589 := nq_some (by decide +kernel)
theorem lw_c1589 : (lw_R1589.map (nq_nd 1592)).all (lw_cn 10 [lw_X] (lw_R1589.map (nq_nd 1592))) = true := by delta lw_cn; rw [← fz_cn_eq]; decide +kernel
def lw_R1879 : List ab_AS := (ab_tr1 nn_T (0, 3, nqd_match) 4 0 [(2, 0, 0), (0, 12, 0), (0, 13, 0), (0, 14, 0), (0, 15, 0), (2, 122, 0)] [] lw_X1879.2.1.1 lw_X1879.2.1.2.2.1 lw_X1879.2.1.2.2.2.1 lw_X1879.2.1.2.2.2.2.1 lw_X1879.2.1.2.2.2.2.2).getD []
theorem lw_R1879_ok : ab_tr1 nn_T (0, 3, nqd_match) 4 0 [(2, 0, 0), (0, 12, 0), (0, 13, 0), (0, 14, 0), (0, 15, 0), (2, 122, 0)] [] lw_X1879.2.1.1 lw_X1879.2.1.2.2.1 lw_X1879.2.1.2.2.2.1 lw_X1879.2.1.2.2.2.2.1 lw_X1879.2.1.2.2.2.2.2 = some lw_R1879 := nq_some (by decide +kernel)
theorem lw_c1879 : (lw_R1879.map (nq_nd 1882)).all (lw_cn 10 [lw_X] (lw_R1879.map (nq_nd 1882))) = true := by delta lw_cn; rw [← fz_cn_eq]; decide +kernel
def lw_R2010 : List ab_AS := (ab_tr1 nn_T (0, 3, nqd_bolder) 4 0 [(2, 0, 0), (0, 12, 0), (0, 13, 0), (0, 14, 0), (0, 15, 0), (0, 16, 0), (2, 122, 0)] [] lw_X2010.2.1.1 lw_X2010.2.1.2.2.1 lw_X2010.2.1.2.2.2.1 lw_X2010.2.1.2.2.2.2.1 lw_X2010.2.1.2.2.2.2.2).getD []
theorem lw_R2010_ok : ab_tr1 nn_T (0, 3, nqd_bolder) 4 0 [(2, 0, 0), (0, 12, 0), (0, 13, 0), (0, 14, 0), (0, 15, 0), (0, 16, 0), (2, 122, 0)] [] lw_X2010.2.1.1 lw_X2010.2.1.2.2.1 lw_X2010.2.1.2.2.2.1 lw_X2010.2.1.2.2.2.2.1 lw_X2010.2.1.2.2.2.2.2 = some lw_R2010 := nq_some (by decide +kernel)
theorem lw_c2010 : (lw_R2010.map (nq_nd 2013)).all (lw_cn 10 [lw_X] (lw_R2010.map (nq_nd 2013))) = true := by delta lw_cn; rw [← fz_cn_eq]; decide +kernel
def lw_R2445 : List ab_AS := (ab_tr1 nn_T (0, 5, nqd_told) 6 0 [(2, 0, 0), (0, 12, 0), (2, 122, 0)] [] lw_X2445.2.1.1 lw_X2445.2.1.2.2.1 lw_X2445.2.1.2.2.2.1 lw_X2445.2.1.2.2.2.2.1 lw_X2445.2.1.2.2.2.2.2).getD []
theorem lw_R2445_ok : ab_tr1 nn_T (0, 5, nqd_told) 6 0 [(2, 0, 0), (0, 12, 0), (2, 122, 0)] [] lw_X2445.2.1.1 lw_X2445.2.1.2.2.1 lw_X2445.2.1.2.2.2.1 lw_X2445.2.1.2.2.2.2.1 lw_X2445.2.1.2.2.2.2.2 = some lw_R2445 := nq_some (by decide +kernel)
theorem lw_c2445 : (lw_R2445.map (nq_nd 2448)).all (lw_cn 10 [lw_X] (lw_R2445.map (nq_nd 2448))) = true := by delta lw_cn; rw [← fz_cn_eq]; decide +kernel
def lw_R_feed : List ab_AS := (ab_tr1 nn_T (0, 1, cd_139) 2 0 [(2, 0, 0), (0, 12, 0), (0, 13, 0), (0, 14, 0), (0, 15, 0), (0, 16, 0)] [] lw_X319.2.1.1 lw_X319.2.1.2.2.1 lw_X319.2.1.2.2.2.1 lw_X319.2.1.2.2.2.2.1 lw_X319.2.1.2.2.2.2.2).getD []
theorem lw_R_feed_ok : ab_tr1 nn_T (0, 1, cd_139) 2 0 [(2, 0, 0), (0, 12, 0), (0, 13, 0), (0, 14, 0), (0, 15, 0), (0, 16, 0)] [] lw_X319.2.1.1 lw_X319.2.1.2.2.1 lw_X319.2.1.2.2.2.1 lw_X319.2.1.2.2.2.2.1 lw_X319.2.1.2.2.2.2.2 = some lw_R_feed := nq_some (by decide +kernel)
def lw_T_feed : List ab_AS := (ab_tr1 nn_T (205, 1, md_13) 2 205 [(2, 93, 0), (0, 3, 0), (0, 4, 0), (0, 5, 0), (0, 6, 0), (0, 7, 0)] [] lw_Y_feed.2.1.1 lw_Y_feed.2.1.2.2.1 lw_Y_feed.2.1.2.2.2.1 lw_Y_feed.2.1.2.2.2.2.1 lw_Y_feed.2.1.2.2.2.2.2).getD []
theorem lw_T_feed_ok : ab_tr1 nn_T (205, 1, md_13) 2 205 [(2, 93, 0), (0, 3, 0), (0, 4, 0), (0, 5, 0), (0, 6, 0), (0, 7, 0)] [] lw_Y_feed.2.1.1 lw_Y_feed.2.1.2.2.1 lw_Y_feed.2.1.2.2.2.1 lw_Y_feed.2.1.2.2.2.2.1 lw_Y_feed.2.1.2.2.2.2.2 = some lw_T_feed := nq_some (by decide +kernel)
theorem lw_q_feed : lw_R_feed.all (fun x => decide (x.1 = lw_Lc ∧ x.2.1.length = 1 ∧ x.2.1.all (fun a => a.1.beq 0) = true ∧ ((130, 1), (0, 0)) ∈ x.2.2.2.2.1 ∧ ((130, 2), (0, 0)) ∈ x.2.2.2.2.1 ∧ x.2.2.2.2.2.all (fun q => !(q.1.beq 140)) = true ∧ mk_b x.2.2.2.2.2 93 23 = true)) = true := by decide +kernel
theorem lw_p_feed : lw_T_feed.all (fun x => decide (x.1 = lw_Lc ∧ x.2.1.length = 1 ∧ x.2.1.all (fun a => a.1.beq 0) = true ∧ ((130, 1), (0, 0)) ∈ x.2.2.2.2.1 ∧ ((130, 2), (0, 0)) ∈ x.2.2.2.2.1 ∧ x.2.2.2.2.2.all (fun q => !(q.1.beq 140)) = true ∧ mk_b x.2.2.2.2.2 93 23 = true)) = true := by decide +kernel
def lw_R_end : List ab_AS := (ab_tr1 nn_T (3, 0, cd_140) 1 3 [(2, 0, 0), (0, 12, 0)] [] lw_X368.2.1.1 lw_X368.2.1.2.2.1 lw_X368.2.1.2.2.2.1 lw_X368.2.1.2.2.2.2.1 lw_X368.2.1.2.2.2.2.2).getD []
theorem lw_R_end_ok : ab_tr1 nn_T (3, 0, cd_140) 1 3 [(2, 0, 0), (0, 12, 0)] [] lw_X368.2.1.1 lw_X368.2.1.2.2.1 lw_X368.2.1.2.2.2.1 lw_X368.2.1.2.2.2.2.1 lw_X368.2.1.2.2.2.2.2 = some lw_R_end := nq_some (by decide +kernel)
def lw_T_end : List ab_AS := (ab_tr1 nn_T (207, 0, md_14) 1 207 [(2, 93, 0), (0, 3, 0)] [] lw_Y_end.2.1.1 lw_Y_end.2.1.2.2.1 lw_Y_end.2.1.2.2.2.1 lw_Y_end.2.1.2.2.2.2.1 lw_Y_end.2.1.2.2.2.2.2).getD []
theorem lw_T_end_ok : ab_tr1 nn_T (207, 0, md_14) 1 207 [(2, 93, 0), (0, 3, 0)] [] lw_Y_end.2.1.1 lw_Y_end.2.1.2.2.1 lw_Y_end.2.1.2.2.2.1 lw_Y_end.2.1.2.2.2.2.1 lw_Y_end.2.1.2.2.2.2.2 = some lw_T_end := nq_some (by decide +kernel)
theorem lw_q_end : lw_R_end.all (fun x => decide (x.1 = lw_Lc ∧ x.2.1.length = 1 ∧ x.2.1.all (fun a => a.1.beq 0) = true ∧ ((130, 1), (0, 0)) ∈ x.2.2.2.2.1 ∧ ((130, 2), (0, 0)) ∈ x.2.2.2.2.1 ∧ x.2.2.2.2.2.all (fun q => !(q.1.beq 140)) = true ∧ mk_b x.2.2.2.2.2 93 23 = true)) = true := by decide +kernel
theorem lw_p_end : lw_T_end.all (fun x => decide (x.1 = lw_Lc ∧ x.2.1.length = 1 ∧ x.2.1.all (fun a => a.1.beq 0) = true ∧ ((130, 1), (0, 0)) ∈ x.2.2.2.2.1 ∧ ((130, 2), (0, 0)) ∈ x.2.2.2.2.1 ∧ x.2.2.2.2.2.all (fun q => !(q.1.beq 140)) = true ∧ mk_b x.2.2.2.2.2 93 23 = true)) = true := by decide +kernel
def lw_R_studio : List ab_AS := (ab_tr1 nn_T (4, 7, cd_155) 8 4 [(2, 0, 0)] [] lw_X387.2.1.1 lw_X387.2.1.2.2.1 lw_X387.2.1.2.2.2.1 lw_X387.2.1.2.2.2.2.1 lw_X387.2.1.2.2.2.2.2).getD []
theorem lw_R_studio_ok : ab_tr1 nn_T (4, 7, cd_155) 8 4 [(2, 0, 0)] [] lw_X387.2.1.1 lw_X387.2.1.2.2.1 lw_X387.2.1.2.2.2.1 lw_X387.2.1.2.2.2.2.1 lw_X387.2.1.2.2.2.2.2 = some lw_R_studio := nq_some (by decide +kernel)
def lw_T_studio : List ab_AS := (ab_tr1 nn_T (208, 6, gd_studio) 7 208 [(2, 93, 0)] [] lw_Y_studio.2.1.1 lw_Y_studio.2.1.2.2.1 lw_Y_studio.2.1.2.2.2.1 lw_Y_studio.2.1.2.2.2.2.1 lw_Y_studio.2.1.2.2.2.2.2).getD []
theorem lw_T_studio_ok : ab_tr1 nn_T (208, 6, gd_studio) 7 208 [(2, 93, 0)] [] lw_Y_studio.2.1.1 lw_Y_studio.2.1.2.2.1 lw_Y_studio.2.1.2.2.2.1 lw_Y_studio.2.1.2.2.2.2.1 lw_Y_studio.2.1.2.2.2.2.2 = some lw_T_studio := nq_some (by decide +kernel)
theorem lw_q_studio : lw_R_studio.all (fun x => decide (x.1 = lw_Lc ∧ x.2.1.length = 1 ∧ x.2.1.all (fun a => a.1.beq 0) = true ∧ ((130, 1), (0, 0)) ∈ x.2.2.2.2.1 ∧ ((130, 2), (0, 0)) ∈ x.2.2.2.2.1 ∧ x.2.2.2.2.2.all (fun q => !(q.1.beq 140)) = true ∧ mk_b x.2.2.2.2.2 93 23 = true)) = true := by decide +kernel
theorem lw_p_studio : lw_T_studio.all (fun x => decide (x.1 = lw_Lc ∧ x.2.1.length = 1 ∧ x.2.1.all (fun a => a.1.beq 0) = true ∧ ((130, 1), (0, 0)) ∈ x.2.2.2.2.1 ∧ ((130, 2), (0, 0)) ∈ x.2.2.2.2.1 ∧ x.2.2.2.2.2.all (fun q => !(q.1.beq 140)) = true)) = true := by decide +kernel
def lw_R_teach : List ab_AS := (ab_tr1 nn_T (130, 3, cd_194) 4 130 [(2, 0, 0), (0, 12, 0), (0, 13, 0), (0, 14, 0)] [] lw_X1773.2.1.1 lw_X1773.2.1.2.2.1 lw_X1773.2.1.2.2.2.1 lw_X1773.2.1.2.2.2.2.1 lw_X1773.2.1.2.2.2.2.2).getD []
theorem lw_R_teach_ok : ab_tr1 nn_T (130, 3, cd_194) 4 130 [(2, 0, 0), (0, 12, 0), (0, 13, 0), (0, 14, 0)] [] lw_X1773.2.1.1 lw_X1773.2.1.2.2.1 lw_X1773.2.1.2.2.2.1 lw_X1773.2.1.2.2.2.2.1 lw_X1773.2.1.2.2.2.2.2 = some lw_R_teach := nq_some (by decide +kernel)
def lw_T_teach : List ab_AS := (ab_tr1 nn_T (315, 2, md_198) 3 315 [(2, 93, 0), (0, 3, 0), (0, 4, 0), (0, 5, 0)] [] lw_Y_teach.2.1.1 lw_Y_teach.2.1.2.2.1 lw_Y_teach.2.1.2.2.2.1 lw_Y_teach.2.1.2.2.2.2.1 lw_Y_teach.2.1.2.2.2.2.2).getD []
theorem lw_T_teach_ok : ab_tr1 nn_T (315, 2, md_198) 3 315 [(2, 93, 0), (0, 3, 0), (0, 4, 0), (0, 5, 0)] [] lw_Y_teach.2.1.1 lw_Y_teach.2.1.2.2.1 lw_Y_teach.2.1.2.2.2.1 lw_Y_teach.2.1.2.2.2.2.1 lw_Y_teach.2.1.2.2.2.2.2 = some lw_T_teach := nq_some (by decide +kernel)
theorem lw_q_teach : lw_R_teach.all (fun x => decide (x.1 = lw_Lc ∧ x.2.1.length = 1 ∧ x.2.1.all (fun a => a.1.beq 0) = true ∧ ((130, 1), (0, 0)) ∈ x.2.2.2.2.1 ∧ ((130, 2), (0, 0)) ∈ x.2.2.2.2.1 ∧ x.2.2.2.2.2.all (fun q => !(q.1.beq 140)) = true ∧ mk_b x.2.2.2.2.2 93 23 = true)) = true := by decide +kernel
theorem lw_p_teach : lw_T_teach.all (fun x => decide (x.1 = lw_Lc ∧ x.2.1.length = 1 ∧ x.2.1.all (fun a => a.1.beq 0) = true ∧ ((130, 1), (0, 0)) ∈ x.2.2.2.2.1 ∧ ((130, 2), (0, 0)) ∈ x.2.2.2.2.1 ∧ x.2.2.2.2.2.all (fun q => !(q.1.beq 140)) = true ∧ mk_b x.2.2.2.2.2 93 23 = true)) = true := by decide +kernel
def lw_R_dares : List ab_AS := (ab_tr1 nn_T (132, 3, cd_196) 4 132 [(2, 0, 0), (0, 12, 0), (0, 13, 0)] [] lw_X1816.2.1.1 lw_X1816.2.1.2.2.1 lw_X1816.2.1.2.2.2.1 lw_X1816.2.1.2.2.2.2.1 lw_X1816.2.1.2.2.2.2.2).getD []
theorem lw_R_dares_ok : ab_tr1 nn_T (132, 3, cd_196) 4 132 [(2, 0, 0), (0, 12, 0), (0, 13, 0)] [] lw_X1816.2.1.1 lw_X1816.2.1.2.2.1 lw_X1816.2.1.2.2.2.1 lw_X1816.2.1.2.2.2.2.1 lw_X1816.2.1.2.2.2.2.2 = some lw_R_dares := nq_some (by decide +kernel)
def lw_T_dares : List ab_AS := (ab_tr1 nn_T (317, 1, md_199) 2 317 [(2, 93, 0), (0, 3, 0), (0, 4, 0)] [] lw_Y_dares.2.1.1 lw_Y_dares.2.1.2.2.1 lw_Y_dares.2.1.2.2.2.1 lw_Y_dares.2.1.2.2.2.2.1 lw_Y_dares.2.1.2.2.2.2.2).getD []
theorem lw_T_dares_ok : ab_tr1 nn_T (317, 1, md_199) 2 317 [(2, 93, 0), (0, 3, 0), (0, 4, 0)] [] lw_Y_dares.2.1.1 lw_Y_dares.2.1.2.2.1 lw_Y_dares.2.1.2.2.2.1 lw_Y_dares.2.1.2.2.2.2.1 lw_Y_dares.2.1.2.2.2.2.2 = some lw_T_dares := nq_some (by decide +kernel)
theorem lw_q_dares : lw_R_dares.all (fun x => decide (x.1 = lw_Lc ∧ x.2.1.length = 1 ∧ x.2.1.all (fun a => a.1.beq 0) = true ∧ ((130, 1), (0, 0)) ∈ x.2.2.2.2.1 ∧ ((130, 2), (0, 0)) ∈ x.2.2.2.2.1 ∧ x.2.2.2.2.2.all (fun q => !(q.1.beq 140)) = true ∧ mk_b x.2.2.2.2.2 93 23 = true)) = true := by decide +kernel
theorem lw_p_dares : lw_T_dares.all (fun x => decide (x.1 = lw_Lc ∧ x.2.1.length = 1 ∧ x.2.1.all (fun a => a.1.beq 0) = true ∧ ((130, 1), (0, 0)) ∈ x.2.2.2.2.1 ∧ ((130, 2), (0, 0)) ∈ x.2.2.2.2.1 ∧ x.2.2.2.2.2.all (fun q => !(q.1.beq 140)) = true ∧ mk_b x.2.2.2.2.2 93 23 = true)) = true := by decide +kernel
def lw_R_undo : List ab_AS := (ab_tr1 nn_T (133, 3, cd_199) 4 133 [(2, 0, 0)] [] lw_X1841.2.1.1 lw_X1841.2.1.2.2.1 lw_X1841.2.1.2.2.2.1 lw_X1841.2.1.2.2.2.2.1 lw_X1841.2.1.2.2.2.2.2).getD []
theorem lw_R_undo_ok : ab_tr1 nn_T (133, 3, cd_199) 4 133 [(2, 0, 0)] [] lw_X1841.2.1.1 lw_X1841.2.1.2.2.1 lw_X1841.2.1.2.2.2.1 lw_X1841.2.1.2.2.2.2.1 lw_X1841.2.1.2.2.2.2.2 = some lw_R_undo := nq_some (by decide +kernel)
def lw_T_undo : List ab_AS := (ab_tr1 nn_T (314, 0, md_197) 1 314 [(2, 93, 0)] [] lw_Y_undo.2.1.1 lw_Y_undo.2.1.2.2.1 lw_Y_undo.2.1.2.2.2.1 lw_Y_undo.2.1.2.2.2.2.1 lw_Y_undo.2.1.2.2.2.2.2).getD []
theorem lw_T_undo_ok : ab_tr1 nn_T (314, 0, md_197) 1 314 [(2, 93, 0)] [] lw_Y_undo.2.1.1 lw_Y_undo.2.1.2.2.1 lw_Y_undo.2.1.2.2.2.1 lw_Y_undo.2.1.2.2.2.2.1 lw_Y_undo.2.1.2.2.2.2.2 = some lw_T_undo := nq_some (by decide +kernel)
theorem lw_q_undo : lw_R_undo.all (fun x => decide (x.1 = lw_Lc ∧ x.2.1.length = 1 ∧ x.2.1.all (fun a => a.1.beq 0) = true ∧ ((130, 1), (0, 0)) ∈ x.2.2.2.2.1 ∧ ((130, 2), (0, 0)) ∈ x.2.2.2.2.1 ∧ x.2.2.2.2.2.all (fun q => !(q.1.beq 140)) = true ∧ mk_b x.2.2.2.2.2 93 23 = true)) = true := by decide +kernel
theorem lw_p_undo : lw_T_undo.all (fun x => decide (x.1 = lw_Lc ∧ x.2.1.length = 1 ∧ x.2.1.all (fun a => a.1.beq 0) = true ∧ ((130, 1), (0, 0)) ∈ x.2.2.2.2.1 ∧ ((130, 2), (0, 0)) ∈ x.2.2.2.2.1 ∧ x.2.2.2.2.2.all (fun q => !(q.1.beq 140)) = true ∧ mk_b x.2.2.2.2.2 93 23 = true)) = true := by decide +kernel
def lw_R_copies : List ab_AS := (ab_tr1 nn_T (140, 3, cd_209) 4 140 [(2, 0, 0), (0, 12, 0), (0, 13, 0)] [] lw_X2128.2.1.1 lw_X2128.2.1.2.2.1 lw_X2128.2.1.2.2.2.1 lw_X2128.2.1.2.2.2.2.1 lw_X2128.2.1.2.2.2.2.2).getD []
theorem lw_R_copies_ok : ab_tr1 nn_T (140, 3, cd_209) 4 140 [(2, 0, 0), (0, 12, 0), (0, 13, 0)] [] lw_X2128.2.1.1 lw_X2128.2.1.2.2.1 lw_X2128.2.1.2.2.2.1 lw_X2128.2.1.2.2.2.2.1 lw_X2128.2.1.2.2.2.2.2 = some lw_R_copies := nq_some (by decide +kernel)
def lw_T_copies : List ab_AS := (ab_tr1 nn_T (318, 1, md_200) 2 318 [(2, 93, 0), (0, 3, 0), (0, 4, 0)] [] lw_Y_copies.2.1.1 lw_Y_copies.2.1.2.2.1 lw_Y_copies.2.1.2.2.2.1 lw_Y_copies.2.1.2.2.2.2.1 lw_Y_copies.2.1.2.2.2.2.2).getD []
theorem lw_T_copies_ok : ab_tr1 nn_T (318, 1, md_200) 2 318 [(2, 93, 0), (0, 3, 0), (0, 4, 0)] [] lw_Y_copies.2.1.1 lw_Y_copies.2.1.2.2.1 lw_Y_copies.2.1.2.2.2.1 lw_Y_copies.2.1.2.2.2.2.1 lw_Y_copies.2.1.2.2.2.2.2 = some lw_T_copies := nq_some (by decide +kernel)
theorem lw_q_copies : lw_R_copies.all (fun x => decide (x.1 = lw_Lc ∧ x.2.1.length = 1 ∧ x.2.1.all (fun a => a.1.beq 0) = true ∧ ((130, 1), (0, 0)) ∈ x.2.2.2.2.1 ∧ ((130, 2), (0, 0)) ∈ x.2.2.2.2.1 ∧ x.2.2.2.2.2.all (fun q => !(q.1.beq 140)) = true ∧ mk_b x.2.2.2.2.2 93 23 = true)) = true := by decide +kernel
theorem lw_p_copies : lw_T_copies.all (fun x => decide (x.1 = lw_Lc ∧ x.2.1.length = 1 ∧ x.2.1.all (fun a => a.1.beq 0) = true ∧ ((130, 1), (0, 0)) ∈ x.2.2.2.2.1 ∧ ((130, 2), (0, 0)) ∈ x.2.2.2.2.1 ∧ x.2.2.2.2.2.all (fun q => !(q.1.beq 140)) = true ∧ mk_b x.2.2.2.2.2 93 23 = true)) = true := by decide +kernel
def lw_R_nights : List ab_AS := (ab_tr1 nn_T (169, 6, cd_244) 7 169 [(2, 0, 0), (0, 12, 0), (0, 13, 0), (0, 14, 0), (0, 15, 0)] [] lw_X2564.2.1.1 lw_X2564.2.1.2.2.1 lw_X2564.2.1.2.2.2.1 lw_X2564.2.1.2.2.2.2.1 lw_X2564.2.1.2.2.2.2.2).getD []
theorem lw_R_nights_ok : ab_tr1 nn_T (169, 6, cd_244) 7 169 [(2, 0, 0), (0, 12, 0), (0, 13, 0), (0, 14, 0), (0, 15, 0)] [] lw_X2564.2.1.1 lw_X2564.2.1.2.2.1 lw_X2564.2.1.2.2.2.1 lw_X2564.2.1.2.2.2.2.1 lw_X2564.2.1.2.2.2.2.2 = some lw_R_nights := nq_some (by decide +kernel)
def lw_T_nights : List ab_AS := (ab_tr1 nn_T (340, 8, md_240) 9 340 [(2, 93, 0), (0, 3, 0), (0, 4, 0), (0, 5, 0), (0, 6, 0)] [(0, 7, 0)] lw_Y_nights.2.1.1 lw_Y_nights.2.1.2.2.1 lw_Y_nights.2.1.2.2.2.1 lw_Y_nights.2.1.2.2.2.2.1 lw_Y_nights.2.1.2.2.2.2.2).getD []
theorem lw_T_nights_ok : ab_tr1 nn_T (340, 8, md_240) 9 340 [(2, 93, 0), (0, 3, 0), (0, 4, 0), (0, 5, 0), (0, 6, 0)] [(0, 7, 0)] lw_Y_nights.2.1.1 lw_Y_nights.2.1.2.2.1 lw_Y_nights.2.1.2.2.2.1 lw_Y_nights.2.1.2.2.2.2.1 lw_Y_nights.2.1.2.2.2.2.2 = some lw_T_nights := nq_some (by decide +kernel)
theorem lw_q_nights : lw_R_nights.all (fun x => decide (x.1 = lw_Lc ∧ x.2.1.length = 1 ∧ x.2.1.all (fun a => a.1.beq 0) = true ∧ ((130, 1), (0, 0)) ∈ x.2.2.2.2.1 ∧ ((130, 2), (0, 0)) ∈ x.2.2.2.2.1 ∧ x.2.2.2.2.2.all (fun q => !(q.1.beq 140)) = true ∧ mk_b x.2.2.2.2.2 93 23 = true)) = true := by decide +kernel
theorem lw_p_nights : lw_T_nights.all (fun x => decide (x.1 = lw_Lc ∧ x.2.1.length = 2 ∧ x.2.1.all (fun a => a.1.beq 0) = true ∧ ((130, 1), (0, 0)) ∈ x.2.2.2.2.1 ∧ ((130, 2), (0, 0)) ∈ x.2.2.2.2.1 ∧ x.2.2.2.2.2.all (fun q => !(q.1.beq 140)) = true ∧ mk_b x.2.2.2.2.2 93 23 = true ∧ x.2.1.tail = [(0, 7, 0)])) = true := by decide +kernel
def lw_R_image : List ab_AS := (ab_tr1 nn_T (184, 3, cd_310) 4 184 [(2, 0, 0), (0, 12, 0)] [] lw_X2695.2.1.1 lw_X2695.2.1.2.2.1 lw_X2695.2.1.2.2.2.1 lw_X2695.2.1.2.2.2.2.1 lw_X2695.2.1.2.2.2.2.2).getD []
theorem lw_R_image_ok : ab_tr1 nn_T (184, 3, cd_310) 4 184 [(2, 0, 0), (0, 12, 0)] [] lw_X2695.2.1.1 lw_X2695.2.1.2.2.1 lw_X2695.2.1.2.2.2.1 lw_X2695.2.1.2.2.2.2.1 lw_X2695.2.1.2.2.2.2.2 = some lw_R_image := nq_some (by decide +kernel)
def lw_T_image : List ab_AS := (ab_tr1 nn_T (352, 1, gd_image) 2 352 [(2, 93, 0), (0, 3, 0)] [] lw_Y_image.2.1.1 lw_Y_image.2.1.2.2.1 lw_Y_image.2.1.2.2.2.1 lw_Y_image.2.1.2.2.2.2.1 lw_Y_image.2.1.2.2.2.2.2).getD []
theorem lw_T_image_ok : ab_tr1 nn_T (352, 1, gd_image) 2 352 [(2, 93, 0), (0, 3, 0)] [] lw_Y_image.2.1.1 lw_Y_image.2.1.2.2.1 lw_Y_image.2.1.2.2.2.1 lw_Y_image.2.1.2.2.2.2.1 lw_Y_image.2.1.2.2.2.2.2 = some lw_T_image := nq_some (by decide +kernel)
theorem lw_q_image : lw_R_image.all (fun x => decide (x.1 = lw_Lc ∧ x.2.1.length = 1 ∧ x.2.1.all (fun a => a.1.beq 0) = true ∧ ((130, 1), (0, 0)) ∈ x.2.2.2.2.1 ∧ ((130, 2), (0, 0)) ∈ x.2.2.2.2.1 ∧ x.2.2.2.2.2.all (fun q => !(q.1.beq 140)) = true ∧ mk_b x.2.2.2.2.2 93 23 = true)) = true := by decide +kernel
theorem lw_p_image : lw_T_image.all (fun x => decide (x.1 = lw_Lc ∧ x.2.1.length = 1 ∧ x.2.1.all (fun a => a.1.beq 0) = true ∧ ((130, 1), (0, 0)) ∈ x.2.2.2.2.1 ∧ ((130, 2), (0, 0)) ∈ x.2.2.2.2.1 ∧ x.2.2.2.2.2.all (fun q => !(q.1.beq 140)) = true ∧ mk_b x.2.2.2.2.2 93 23 = true)) = true := by decide +kernel
def lw_R_restore : List ab_AS := (ab_tr1 nn_T (186, 3, cd_339) 4 186 [(2, 0, 0), (0, 12, 0)] [] lw_X2720.2.1.1 lw_X2720.2.1.2.2.1 lw_X2720.2.1.2.2.2.1 lw_X2720.2.1.2.2.2.2.1 lw_X2720.2.1.2.2.2.2.2).getD []
theorem lw_R_restore_ok : ab_tr1 nn_T (186, 3, cd_339) 4 186 [(2, 0, 0), (0, 12, 0)] [] lw_X2720.2.1.1 lw_X2720.2.1.2.2.1 lw_X2720.2.1.2.2.2.1 lw_X2720.2.1.2.2.2.2.1 lw_X2720.2.1.2.2.2.2.2 = some lw_R_restore := nq_some (by decide +kernel)
def lw_T_restore : List ab_AS := (ab_tr1 nn_T (353, 1, gd_restore) 2 353 [(2, 93, 0), (0, 3, 0)] [] lw_Y_restore.2.1.1 lw_Y_restore.2.1.2.2.1 lw_Y_restore.2.1.2.2.2.1 lw_Y_restore.2.1.2.2.2.2.1 lw_Y_restore.2.1.2.2.2.2.2).getD []
theorem lw_T_restore_ok : ab_tr1 nn_T (353, 1, gd_restore) 2 353 [(2, 93, 0), (0, 3, 0)] [] lw_Y_restore.2.1.1 lw_Y_restore.2.1.2.2.1 lw_Y_restore.2.1.2.2.2.1 lw_Y_restore.2.1.2.2.2.2.1 lw_Y_restore.2.1.2.2.2.2.2 = some lw_T_restore := nq_some (by decide +kernel)
theorem lw_q_restore : lw_R_restore.all (fun x => decide (x.1 = lw_Lc ∧ x.2.1.length = 1 ∧ x.2.1.all (fun a => a.1.beq 0) = true ∧ ((130, 1), (0, 0)) ∈ x.2.2.2.2.1 ∧ ((130, 2), (0, 0)) ∈ x.2.2.2.2.1 ∧ x.2.2.2.2.2.all (fun q => !(q.1.beq 140)) = true ∧ mk_b x.2.2.2.2.2 93 23 = true)) = true := by decide +kernel
theorem lw_p_restore : lw_T_restore.all (fun x => decide (x.1 = lw_Lc ∧ x.2.1.length = 1 ∧ x.2.1.all (fun a => a.1.beq 0) = true ∧ ((130, 1), (0, 0)) ∈ x.2.2.2.2.1 ∧ ((130, 2), (0, 0)) ∈ x.2.2.2.2.1 ∧ x.2.2.2.2.2.all (fun q => !(q.1.beq 140)) = true ∧ mk_b x.2.2.2.2.2 93 23 = true)) = true := by decide +kernel
def lw_R_count : List ab_AS := (ab_tr1 nn_T (187, 0, cd_340) 1 187 [(2, 0, 0), (0, 12, 0)] [] lw_X2745.2.1.1 lw_X2745.2.1.2.2.1 lw_X2745.2.1.2.2.2.1 lw_X2745.2.1.2.2.2.2.1 lw_X2745.2.1.2.2.2.2.2).getD []
theorem lw_R_count_ok : ab_tr1 nn_T (187, 0, cd_340) 1 187 [(2, 0, 0), (0, 12, 0)] [] lw_X2745.2.1.1 lw_X2745.2.1.2.2.1 lw_X2745.2.1.2.2.2.1 lw_X2745.2.1.2.2.2.2.1 lw_X2745.2.1.2.2.2.2.2 = some lw_R_count := nq_some (by decide +kernel)
def lw_T_count : List ab_AS := (ab_tr1 nn_T (354, 1, md_385) 2 354 [(2, 93, 0), (0, 3, 0)] [] lw_Y_count.2.1.1 lw_Y_count.2.1.2.2.1 lw_Y_count.2.1.2.2.2.1 lw_Y_count.2.1.2.2.2.2.1 lw_Y_count.2.1.2.2.2.2.2).getD []
theorem lw_T_count_ok : ab_tr1 nn_T (354, 1, md_385) 2 354 [(2, 93, 0), (0, 3, 0)] [] lw_Y_count.2.1.1 lw_Y_count.2.1.2.2.1 lw_Y_count.2.1.2.2.2.1 lw_Y_count.2.1.2.2.2.2.1 lw_Y_count.2.1.2.2.2.2.2 = some lw_T_count := nq_some (by decide +kernel)
theorem lw_q_count : lw_R_count.all (fun x => decide (x.1 = lw_Lc ∧ x.2.1.length = 1 ∧ x.2.1.all (fun a => a.1.beq 0) = true ∧ ((130, 1), (0, 0)) ∈ x.2.2.2.2.1 ∧ ((130, 2), (0, 0)) ∈ x.2.2.2.2.1 ∧ x.2.2.2.2.2.all (fun q => !(q.1.beq 140)) = true ∧ mk_b x.2.2.2.2.2 93 23 = true)) = true := by decide +kernel
theorem lw_p_count : lw_T_count.all (fun x => decide (x.1 = lw_Lc ∧ x.2.1.length = 1 ∧ x.2.1.all (fun a => a.1.beq 0) = true ∧ ((130, 1), (0, 0)) ∈ x.2.2.2.2.1 ∧ ((130, 2), (0, 0)) ∈ x.2.2.2.2.1 ∧ x.2.2.2.2.2.all (fun q => !(q.1.beq 140)) = true ∧ mk_b x.2.2.2.2.2 93 23 = true)) = true := by decide +kernel
end
section
/-! THE CLAIM OUT OF ONE WALK OF THE LAW'S BODY. Your part is whole_start (and what it stands on); all else here is the same for every law, but numbers. -/
def R_law : String := "NameNotesLaw"
def lw_P (b : Addr) (xs : List Int32) (args : Array Value) (s : State) : Prop := args = #[.ref b] ∧ s.IntsAt b xs ∧ xs.length ≤ 3584 ∧ (Jvm.Cond.and given_1 narrow_1).before args s = true
def lw_Q (_ : Array Value) (s : State) (o : Outcome) (t : State) : Prop := o = .returned (some (.int 1)) ∧ Framed s o t [] 601024 7293034
def lw_Z (below : List Frame) (a : Array Value) (s : State) : State → Prop := fun t => ∃ o, t.status = .running ∧ Ended t below o ∧ lw_Q a s o t
/-- the law's own end, with 1 on the stack, nothing written that was there before, its room as the claim has it -/
theorem lw_ret {p : Program} {l : Launch} {e : Env} {s : State} {m : MethodId} {below : List Frame} {meth : Method} {c : Code} {b : Nat} (hx : p.tables.exec = Jvm.exec) (hb : c.code = code) (hr : meth.sig.returnType = ret) (hlocks : meth.locks = false) {pc : Nat} {H : Heap} {ls : Array Slot} (hdg : decode code pc = .ok (.ireturn, 1)) : W p l e room_1 s m #[Value.ref b] below meth c H [] 601024 7293034 (lw_Z below #[Value.ref b] s) (F0 m pc ls [.int 1]) := by
  intro T hT X
  obtain ⟨fs, hret, hrun, hended, hW, hframe⟩ := X.leave (v := some (.int 1)) (hlocks := hlocks) (fun h => by rw [hr] at h; cases h)
  have hmeth' : T.vm.method? m = some meth := X.method'
  refine ⟨T.setFrames fs, ?_, .returned (some (.int 1)), hrun, hended, rfl, ⟨_, rfl⟩, hW, hframe⟩
  jvm_step X.here [X.here.top, hx, hb, hdg, hmeth', hr, ret, narrow_b1]
  (try refine ⟨rfl, ?_⟩); (try refine ⟨rfl, ?_⟩)
  first | (intro acts; rw [hret _ acts rfl rfl rfl]) | rw [hret _ _ rfl rfl rfl]
  exact Steps.refl _
/-- what holds at the law's entry: the machine, the code, the tables' words (any of lw_tbl by 'hts w (by decide +kernel)'), the script of L ints xs at the cell b, what the Statement gives of the start (any of its parts by flat_of_before) -/
def lw_At (p : Program) (s : State) (m : MethodId) (meth : Method) (c : Code) (b L : Nat) (xs : Nat → Int32) : Prop :=
  p.tables.exec = Jvm.exec ∧ c.code = code ∧ meth.sig.returnType = ret ∧ c.maxLocals = 8 ∧ s.vm.findClass R_law = some m.cls ∧ (∀ w ∈ lw_tbl, w.before #[Value.ref b] s = true) ∧ va_X b L xs s s.heap ∧ b < s.heap.size ∧ meth.locks = false ∧ (Jvm.Cond.and given_1 narrow_1).before #[Value.ref b] s = true
end
