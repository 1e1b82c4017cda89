/-! a method that reads the two texts -/
/-- the texts "clue " and "name;", and that strings are compact -/
def nt_Z (cr av : Nat → Nat) (A : Nat → Prop) (U : State) : Prop := (vk_S 2 [5, 5] [[99, 108, 117, 101, 32], [110, 97, 109, 101, 59]] (fun i => cr (3 + i)) av A U U.heap ∧ va_Z "java/lang/String" "COMPACT_STRINGS" "Z" (.int 1) A U U.heap) ∧ vx_Zq "jdk/internal/util/Preconditions" "SIOOBE_FORMATTER" "Ljava/util/function/BiFunction;" A U U.heap
theorem nt_Z_go {cr av : Nat → Nat} {A B : Nat → Prop} {s U : State} (h : nt_Z cr av A s) (hW : s.WarmedH U.vm) (hq : ∀ a : Nat, a < s.heap.size → ¬ A a → U.heap[a]? = s.heap[a]?) (hAB : ∀ q, B q → A q) : nt_Z cr av B U :=
  ⟨⟨((vk_S.moved hW.alike h.1.1).kept hq).narrow hAB, ((va_Z.moved hW.alike h.1.2).kept hq).narrow hAB⟩, ((vx_Zq.moved hW.alike h.2).kept hq).narrow hAB⟩
theorem nt_Z_blind {cr av : Nat → Nat} {A : Nat → Prop} {U : State} {g : JFrame} {mk : MethodId} {a : Array Value} (h : nt_Z cr av A U) : nt_Z cr av A (U.calling g mk a) :=
  ⟨⟨vk_S.moved (u := U) (U := U.calling g mk a) (Vm.Alike.refl U.vm) h.1.1, va_Z.moved (u := U) (U := U.calling g mk a) (Vm.Alike.refl U.vm) h.1.2⟩, vx_Zq.moved (u := U) (U := U.calling g mk a) (Vm.Alike.refl U.vm) h.2⟩
def np_PC (cy : Nat → ClassId) (ad wr cr av : Nat → Nat) (D : va_G) (σ : ab_SG) (as : List Value) (sz : Nat) : Array Value → State → Prop :=
  va_Pc as (fun U => U.heap.size = sz ∧ va_P D vwCl (ab_WD cy ad wr nn_sh σ) U.heap ∧ va_K D vwCl (ab_tys cy) U ∧ ab_okN nn_NW U ∧ ab_CB cy ad wr cr nn_kd (ab_A ad nn_sh.length sz) U ∧ nx_Z (ab_A ad nn_sh.length sz) U ∧ nt_Z cr av (ab_A ad nn_sh.length sz) U)
theorem np_PC_blind {cy : Nat → ClassId} {ad wr cr av : Nat → Nat} {D : va_G} {σ : ab_SG} {as : List Value} {sz : Nat} : FrameBlind (np_PC cy ad wr cr av D σ as sz) := by
  intro a U g mk h
  obtain ⟨h1, h2, h3, h4, h5, h6, h7, h8⟩ := h
  exact ⟨h1, h2, h3, va_K.moved (u := U) (U := U.calling g mk a) (Vm.Alike.refl U.vm) h4, fun q hq => va_Nw.same rfl (u := U) (U := U.calling g mk a) rfl (h5 q hq), ab_CB_blind h6, nx_Z_blind h7, nt_Z_blind h8⟩
def np_room (d : Nat) : Room := { frames := d + 10, cells := 0, slots := 0, locals := 40 * d + 200 }
/-- a method of the world that reads the texts, too: which, how deep, its contract -/
def np_H (l : Launch) (cy : Nat → ClassId) (ad wr cr av : Nat → Nat) (D : va_G) (q : Nat × Nat × ab_CN) : Prop :=
  ∀ mr : ab_MR, nn_MT[q.1]? = some mr → 0 < q.2.2.2.1.length ∧
    (mr.2.2.2.2.2.1 = true → ∃ (k : Nat) (z : Int) (as : List ab_AV) (ci : Nat) (fs : List (Nat × Nat)) (T9 : u_T) (N9 : Nat), q.2.2.1 = (2, k, z) :: as ∧ nn_sh[k]? = some (.inl (ci, fs)) ∧ vwCl[ci]? = some (mr.1.cls, T9, N9)) ∧
    ∀ (ρ : Nat → Int) (σ : ab_SG) (sz : Nat), ab_K nn_T nn_C σ q.2.2.2.1 q.2.2.2.2.1 q.2.2.2.2.2.1 [] ρ σ → (∀ a ∈ q.2.2.1, ab_sy q.2.2.2.1.length a) →
      vx_Met l mr.1 (Jvm.Cond.code mr.1 mr.2.1 mr.2.2.1 mr.2.2.2.1 :: nn_TT) (np_room q.2.1) (np_PC cy ad wr cr av D σ (q.2.2.1.map (ab_V ad wr cr ρ)) sz) (ab_QC cy ad wr cr D vwCl nn_sh nn_T nn_C q.2.2.2.1.length ρ σ q.2.2.2.2.2.2 (ab_A ad nn_sh.length sz)) (fun _ _ _ => False) 0 0 (ab_A ad nn_sh.length sz)
section
variable {p : Program} {l : Launch} {e : Env} {R : Room} {s : State} {m : MethodId} {args : Array Value} {below : List Frame} {meth : Method} {c : Code} {H : Heap} {locs : List Loc} {cells slots : Nat} {Q : State → Prop} {cc : ByteArray} {pc : Nat} {ls : Array Slot} {st : List Value}
variable {ad wr cr : Nat → Nat} {cy : Nat → ClassId} {nL n0 : Nat} {σ0 : ab_SG} {ρ0 : Nat → Int} {own : String} {D : va_G} {A : Nat → Prop} {H0 : Heap} {Ts : List Jvm.Cond}
set_option maxHeartbeats 4000000 in
/-- a call of such a method -/
theorem np_cl {av : Nat → Nat} (hcs : cells ≤ R.cells ∧ slots ≤ R.slots) (hx : p.tables.exec = Jvm.exec) (hb : c.code = cc) (hml : c.maxLocals = nL) (hown : s.vm.findClass own = some m.cls) (hts : ∀ w ∈ Ts, w.before args s = true) (hKK : va_K D vwCl (ab_tys cy) s) (hN : ab_okN nn_NW s) (hCB : ab_CB cy ad wr cr nn_kd A s) (hZ : nx_Z A s) (hY : nt_Z cr av A s) (hH0 : H0 = s.heap) (hTT : ∀ w ∈ nn_TT, w ∈ Ts)
    (hA : ∀ k, k < nn_sh.length → A (ad k)) (hA2 : ∀ q, H0.size ≤ q → A q) {q : Nat × Nat × ab_CN} {x9 : Nat} {mr : ab_MR} (hmr : nn_MT[q.1]? = some mr) (hob : mr.2.2.2.2.2.1 = true) (hlk : ab_mlk nn_MT Ts nn_NW own (x9, 0, q.1)) (hplain : Jvm.Cond.methodLink own x9 mr.1 ∈ Ts) (hq : np_H l cy ad wr cr av D q) (hR : q.2.1 + 11 ≤ R.frames ∧ 40 * q.2.1 + 300 ≤ R.locals)
    {L : ab_LS} {S as rest : List ab_AV} {B : ab_BD} {F : ab_FT} {Dl : ab_DL} {M : ab_ML} (hS0 : S = as.reverse ++ rest) (hlen : as.length = mr.2.2.2.2.1 + 1) (hc8 : ab_cat rest ≤ 8) (hl21 : mr.2.2.1 ≤ 21)
    {ls9 : List ab_AS} (htr : ab_tr1 nn_T (q.1, q.2.1, q.2.2) (q.2.1 + 1) q.1 as rest L B F Dl M = some ls9)
    (hdg : decode cc pc = .ok (.invokevirtual x9, 3)) {ρ : Nat → Int} {σ : ab_SG} (hG : ab_Gm cy ad wr cr D vwCl nn_sh nn_T nn_C nL n0 ρ0 σ0 A H0 (L, S, B, F, Dl, M) ρ σ H locs ls st)
    (kk : ∀ x ∈ ls9, ∀ (ρ2 : Nat → Int) (σ2 : ab_SG) (H1 : Heap) (locs1 : List Loc) (st1 : List Value), (∀ i, i < B.length → ρ2 i = ρ i) → ab_Gm cy ad wr cr D vwCl nn_sh nn_T nn_C nL n0 ρ0 σ0 A H0 x ρ2 σ2 H1 locs1 ls st1 → W p l e R s m args below meth c H1 locs1 cells slots Q (F0 m (pc + 3) ls st1)) :
    W p l e R s m args below meth c H locs cells slots Q (F0 m pc ls st) := by
  obtain ⟨c1, c2, c3, c4, c5, -, -⟩ := hlk mr hmr
  obtain ⟨d1, d2⟩ := c5 hob
  obtain ⟨e0, e1, e2⟩ := hq mr hmr
  obtain ⟨qn, qv, qc⟩ := q
  obtain ⟨ρq, vr, vK, vsy, vst, vcat, vlen, vend, -⟩ := nx_tr (osX := qc.2.2.2.2) htr htr hS0 hG
  have hP : va_P D vwCl (ab_WD cy ad wr nn_sh σ) H := hG.2.2.2.2.2.1
  have hSS : va_S A H0 H locs := hG.2.2.2.2.2.2
  have hM := e2 ρq σ H.size vK vsy
  obtain ⟨k9, z9, as9, ci9, fs9, T9, N9, r1, r2, r3⟩ := e1 hob
  replace r1 : qc.1 = (2, k9, z9) :: as9 := r1
  have has : qc.1.map (ab_V ad wr cr ρq) = .ref (ad k9) :: as9.map (ab_V ad wr cr ρq) := by rw [r1]; rfl
  have hn9 : as9.length = mr.2.2.2.2.1 := by
    have h1 : qc.1.length = as9.length + 1 := by rw [r1]; rfl
    have h2 : qc.1.length = as.length := vlen
    omega
  replace hM : vx_Met l mr.1 (Jvm.Cond.code mr.1 mr.2.1 mr.2.2.1 mr.2.2.2.1 :: nn_TT) (np_room qv) (np_PC cy ad wr cr av D σ (qc.1.map (ab_V ad wr cr ρq)) H.size) (ab_QC cy ad wr cr D vwCl nn_sh nn_T nn_C qc.2.1.length ρq σ qc.2.2.2.2 (ab_A ad nn_sh.length H.size)) (fun _ _ _ => False) 0 0 (ab_A ad nn_sh.length H.size) := hM
  rw [has] at hM
  have hst : st = (as9.map (ab_V ad wr cr ρq)).reverse ++ .ref (ad k9) :: vr := by
    have h9 : st = (qc.1.map (ab_V ad wr cr ρq)).reverse ++ vr := vst
    rw [h9, has, List.reverse_cons, List.append_assoc]
    rfl
  have hws : ∀ w ∈ (Jvm.Cond.code mr.1 mr.2.1 mr.2.2.1 mr.2.2.2.1 :: nn_TT), ∀ (a' : Array Value) (U : State), s.WarmedH U.vm → w.before a' U = true := by
    intro w hw a' U hW
    rcases List.mem_cons.mp hw with rfl | hw
    · exact word_at hW (good_of_word (nn_MT_code mr (List.mem_of_getElem? hmr))) (hts _ c1)
    · exact word_at hW (good_of_word (nn_TT_good w hw)) (hts _ (hTT w hw))
  have hfree : ∀ q, ab_A ad nn_sh.length H.size q → A q := by
    rintro q (⟨k, hk, rfl⟩ | hk)
    · exact hA k hk
    · exact hA2 q (Nat.le_trans hSS.1 hk)
  have hkeep : ∀ U : State, U.heap = H → ∀ a : Nat, a < s.heap.size → ¬ A a → U.heap[a]? = s.heap[a]? := fun U hU a ha hna => by rw [hU, hSS.2.1 a (by rw [hH0]; exact ha) hna, hH0]
  have hpre : ∀ U : State, U.heap = H → s.WarmedH U.vm → np_PC cy ad wr cr av D σ (.ref (ad k9) :: as9.map (ab_V ad wr cr ρq)) H.size (.ref (ad k9) :: as9.map (ab_V ad wr cr ρq)).toArray U := fun U hU hW =>
    ⟨rfl, by rw [hU], by rw [hU]; exact hP, va_K.moved hW.alike hKK, ab_okN_moved hW hN, ab_CB_go hCB hW (hkeep U hU) hfree, nx_Z_go hZ hW (hkeep U hU) hfree, nt_Z_go hY hW (hkeep U hU) hfree⟩
  have hsig : ∀ sig, parseMethodDescriptor mr.1.desc = some sig → mr.2.2.2.2.1 = sig.parameters.length := fun sig hsg => by
    rw [hsg] at c4
    exact (Option.some.inj c4).symm
  have hfr : (np_room qv).frames + 1 ≤ R.frames := by
    have := hR.1
    show qv + 10 + 1 ≤ _
    replace this : qv + 11 ≤ R.frames := this
    omega
  have hlo : 8 + (mr.2.2.1 + 11) + (np_room qv).locals ≤ R.locals := by
    have := hR.2
    show 8 + (mr.2.2.1 + 11) + (40 * qv + 200) ≤ _
    replace this : 40 * qv + 300 ≤ R.locals := this
    omega
  have hA3 : ∀ q, q < H.size → ab_A ad nn_sh.length H.size q → A q := by
    rintro q hq (⟨k, hk, rfl⟩ | hk)
    · exact hA k hk
    · exact absurd hq (Nat.not_lt.mpr hk)
  have hroom : 2 * (F0 m pc ls st).monitorRoom + (vr.map fun v => v.category).sum ≤ 8 := lv_room (rest := st) (by rw [vcat]; exact hc8)
  have hrecv := va_recv hKK hP r3 (ab_cell_f (σ := σ) (cy := cy) (ad := ad) (wr := wr) r2)
  have hrun := vx_runV (meth := meth) (below := below) (e := e) (As := as9.map (ab_V ad wr cr ρq)) (rest := vr) (cells := cells) (slots := slots) (locs := locs) ⟨hx, hb, hml, hown, hts⟩ hM ⟨⟨rfl, rfl, hfr, hlo, hws, List.mem_cons_self, hts _ c1, hts _ c2, c3, hsig, hts _ hplain⟩, hts _ d1, hts _ d2⟩ ⟨np_PC_blind, hrecv, hpre⟩ (g := F0 m pc ls st) rfl (by rw [List.length_map]; exact hn9) hG.2.2.2.1.1.1 hst hroom hdg hcs
  intro T9 hT X
  rcases hrun T9 hT X with ⟨v, st₀, t, T', L2, h0, X', hL, e1, e2, ⟨⟨rv, o, hv, ho, hps⟩, hF⟩, stp⟩ | ⟨q, st₀, t, T', L2, E, ce, h0, X', hL, e1, e2, hXC, -⟩
  · cases hv
    obtain ⟨k1, k2, k3⟩ := vx_keep h0 e1 hSS hA3 hfree hL hF
    obtain ⟨x, hx9, ρ2, σ2, g1, g2⟩ := vend v o T'.heap (locs ++ L2) ho (by rw [e1]; exact hps) k3
    obtain ⟨t2, a1, b1⟩ := kk x hx9 ρ2 σ2 T'.heap (locs ++ L2) _ g1 g2 T' rfl X'
    exact ⟨t2, stp t2 a1, b1⟩
  · exact hXC.elim
end
