/-! the law calls its helpers -/
theorem nq_lo {n lev : Nat} (h : n ≤ 21) : 8 + (n + 11) + (40 * lev + 300) ≤ 40 * lev + 340 := by omega
section
variable {p : Program} {l : Launch} {e : Env} {R : Room} {s : State} {m : MethodId} {args : Array Value} {below : List Frame} {meth : Method} {c : Code} {H : Heap} {locs : List Loc} {cells slots : Nat} {Q : State → Prop} {cc : ByteArray} {pc : Nat} {ls : Array Slot} {st : List Value}
variable {ad wr cr : Nat → Nat} {cy : Nat → ClassId} {nL n0 : Nat} {σ0 : ab_SG} {ρ0 : Nat → Int} {own : String} {D : va_G} {A : Nat → Prop} {H0 : Heap} {Ts : List Jvm.Cond}
set_option maxHeartbeats 4000000 in
theorem nq_cl (hcs : cells + 1 ≤ R.cells ∧ slots + 6 ≤ R.slots) (hx : p.tables.exec = Jvm.exec) (hb : c.code = cc) (hml : c.maxLocals = nL) (hown : s.vm.findClass own = some m.cls) (hts : ∀ w ∈ Ts, w.before args s = true) (hKK : va_K D vwCl (ab_tys cy) s) (hN : ab_okN nn_NW s) (hCB : ab_CB cy ad wr cr nn_kd A s) (hZ : nx_Z A s) (hH0 : H0 = s.heap) (hTT : ∀ w ∈ nn_TT, w ∈ Ts)
    (hA : ∀ k, k < nn_sh.length → A (ad k)) (hA2 : ∀ q, H0.size ≤ q → A q) {x9 : Nat} {y : MethodName} {cb : ByteArray} {nL' lev na : Nat} {hh : List (Nat × Nat × Nat × Nat)} {ct : ab_CN} (hq : nq_H l cy ad wr cr D y cb nL' hh lev ct)
    (w1 : Jvm.Cond.codeWith y cb nL' (some .int) hh ∈ nn_TT) (w2 : Jvm.Cond.initialized y.cls ∈ nn_TT) (w3 : y.cls ≠ "java/lang/invoke/MethodHandle" ∧ y.cls ≠ "java/lang/invoke/VarHandle") (w4 : (parseMethodDescriptor y.desc).map (fun d => d.parameters.length) = some na) (w5 : Jvm.Cond.methodLink own x9 y ∈ nn_TT) (w6 : Jvm.Cond.static y ∈ nn_TT) (hR : lev + 12 ≤ R.frames ∧ 40 * lev + 340 ≤ R.locals)
    {L : ab_LS} {S as rest : List ab_AV} {B : ab_BD} {F : ab_FT} {Dl : ab_DL} {M : ab_ML} (hS0 : S = as.reverse ++ rest) (hlen : as.length = na) (hc8 : ab_cat rest ≤ 8) (hl21 : nL' ≤ 21)
    {ls9 : List ab_AS} (htr : ab_tr1 nn_T (0, lev, ct) (lev + 1) 0 as rest L B F Dl M = some ls9)
    (hdg : decode cc pc = .ok (.invokestatic x9, 3)) {ρ : Nat → Int} {σ : ab_SG} (hG : ab_Gm cy ad wr cr D vwCl nn_sh nn_T nn_C nL n0 ρ0 σ0 A H0 (L, S, B, F, Dl, M) ρ σ H locs ls st)
    (kk : ∀ x ∈ ls9, ∀ (ρ2 : Nat → Int) (σ2 : ab_SG) (H1 : Heap) (locs1 : List Loc) (st1 : List Value), (∀ i, i < B.length → ρ2 i = ρ i) → ab_Gm cy ad wr cr D vwCl nn_sh nn_T nn_C nL n0 ρ0 σ0 A H0 x ρ2 σ2 H1 locs1 ls st1 → W p l e R s m args below meth c H1 locs1 (cells + 1) (slots + 6) Q (F0 m (pc + 3) ls st1)) :
    W p l e R s m args below meth c H locs cells slots Q (F0 m pc ls st) := by
  obtain ⟨ρq, vr, vK, vsy, vst, vcat, vlen, vend, -⟩ := nx_tr (osX := ct.2.2.2.2) htr htr hS0 hG
  have hP : va_P D vwCl (ab_WD cy ad wr nn_sh σ) H := hG.2.2.2.2.2.1
  have hSS : va_S A H0 H locs := hG.2.2.2.2.2.2
  have hM := hq ρq σ H.size vK vsy
  have hst : st = (ct.1.map (ab_V ad wr cr ρq)).reverse ++ vr := vst
  have hws : ∀ w ∈ (Jvm.Cond.codeWith y cb nL' (some .int) hh :: nn_TT), ∀ (a' : Array Value) (U : State), s.WarmedH U.vm → w.before a' U = true := by
    intro w hw a' U hW
    rcases List.mem_cons.mp hw with rfl | hw
    · exact word_at hW (good_of_word (nn_TT_good _ w1)) (hts _ (hTT _ w1))
    · exact word_at hW (good_of_word (nn_TT_good w hw)) (hts _ (hTT w hw))
  have hfree : ∀ q, ab_A ad nn_sh.length H.size q → A q := by
    rintro q (⟨k, hk, rfl⟩ | hk)
    · exact hA k hk
    · exact hA2 q (Nat.le_trans hSS.1 hk)
  have hkeep : ∀ U : State, U.heap = H → ∀ a : Nat, a < s.heap.size → ¬ A a → U.heap[a]? = s.heap[a]? := fun U hU a ha hna => by rw [hU, hSS.2.1 a (by rw [hH0]; exact ha) hna, hH0]
  have hpre : ∀ U : State, U.heap = H → s.WarmedH U.vm → nx_PC cy ad wr cr D σ (ct.1.map (ab_V ad wr cr ρq)) H.size (ct.1.map (ab_V ad wr cr ρq)).toArray U := fun U hU hW =>
    ⟨rfl, by rw [hU], by rw [hU]; exact hP, va_K.moved hW.alike hKK, ab_okN_moved hW hN, ab_CB_go hCB hW (hkeep U hU) hfree, nx_Z_go hZ hW (hkeep U hU) hfree⟩
  have hsig : ∀ sig, parseMethodDescriptor y.desc = some sig → na = sig.parameters.length := fun sig hsg => by
    rw [hsg] at w4
    exact (Option.some.inj w4).symm
  have hfr : (nq_room lev).frames + 1 ≤ R.frames := hR.1
  have hlo : 8 + (nL' + 11) + (nq_room lev).locals ≤ R.locals := by
    exact Nat.le_trans (nq_lo hl21) hR.2
  have hA3 : ∀ q, q < H.size → ab_A ad nn_sh.length H.size q → A q := by
    rintro q hq (⟨k, hk, rfl⟩ | hk)
    · exact hA k hk
    · exact absurd hq (Nat.not_lt.mpr hk)
  have hroom : 2 * (F0 m pc ls st).monitorRoom + (vr.map fun v => v.category).sum ≤ 8 := lv_room (rest := st) (by rw [vcat]; exact hc8)
  have hrun := vx_runSX (meth := meth) (below := below) (e := e) (As := ct.1.map (ab_V ad wr cr ρq)) (rest := vr) (cells := cells) (slots := slots) (locs := locs) ⟨hx, hb, hml, hown, hts⟩ hM ⟨⟨rfl, rfl, hfr, hlo, hws, List.mem_cons_self⟩, hts _ (hTT _ w1), hts _ (hTT _ w2), w3, hsig, hts _ (hTT _ w5), hts _ (hTT _ w6)⟩ ⟨nx_PC_blind, hpre⟩ (g := F0 m pc ls st) rfl (by rw [List.length_map, vlen]; exact hlen) hG.2.2.2.1.1.1 hst hroom hdg hcs
  intro T9 hT X
  rcases hrun T9 hT X with ⟨v, st₀, t, T', L2, h0, X', hL, e1, e2, ⟨⟨rv, o, hv, ho, hps⟩, hF⟩, stp⟩ | ⟨q, st₀, t, T', L2, E, ce, h0, X', hL, e1, e2, hXC, -⟩
  · cases hv
    obtain ⟨k1, k2, k3⟩ := vx_keep h0 e1 hSS hA3 hfree hL hF
    obtain ⟨x, hx9, ρ2, σ2, g1, g2⟩ := vend v o T'.heap (locs ++ L2) ho (by rw [e1]; exact hps) k3
    obtain ⟨t2, a1, b1⟩ := kk x hx9 ρ2 σ2 T'.heap (locs ++ L2) _ g1 g2 T' rfl X'
    exact ⟨t2, stp t2 a1, b1⟩
  · exact hXC.elim
end
