/-! calls of methods that return or throw, and of the law's own helpers -/
section
variable {p : Program} {l : Launch} {e : Env} {R : Room} {s : State} {m : MethodId} {args : Array Value} {below : List Frame} {meth : Method} {c : Code} {H : Heap} {locs : List Loc} {cells slots : Nat} {Q : State → Prop} {cc : ByteArray} {pc : Nat} {ls : Array Slot} {st0 rest : List Value}
variable {ad wr cr : Nat → Nat} {cy : Nat → ClassId} {D : va_G} {A0 A1 : Nat → Prop} {H0 : Heap}
theorem nx_callQ {n0 : Nat} {ρ0 : Nat → Int} {σ0 : ab_SG} {os osX : List ab_OU} {a : Array Value} {free : Addr → Prop} (hr : vx_Run p l e R s m args below meth c H locs cells slots 1 6 (F0 m pc ls st0) rest (ab_QC cy ad wr cr D vwCl nn_sh nn_T nn_C n0 ρ0 σ0 os A1 a) (nx_XC cy ad wr cr D n0 ρ0 σ0 osX A1) free) (hS : va_S A0 H0 H locs) (hA : ∀ q, q < H.size → A1 q → A0 q) (hf : ∀ q, free q → A0 q)
    (kk : ∀ (rv : Option Value) (o : ab_OU) (H1 : Heap) (locs1 : List Loc), o ∈ os → ab_ps cy ad wr cr D vwCl nn_sh nn_T nn_C n0 ρ0 σ0 o rv H1 → va_S A0 H0 H1 locs1 → W p l e R s m args below meth c H1 locs1 (cells + 1) (slots + 6) Q (F0 m (pc + 3) ls (rv.toList ++ rest)))
    (kx : ∀ (o : ab_OU) (H1 : Heap) (locs1 : List Loc) (q9 : Addr) (ce : Cell), o ∈ osX → ab_ps cy ad wr cr D vwCl nn_sh nn_T nn_C n0 ρ0 σ0 o none H1 → va_S A0 H0 H1 locs1 → H1[q9]? = some ce → ce.vm = .none → s.vm.findClass nx_N = some ce.cls → vx_W p l e R s m args below meth c H1 locs1 (cells + 1) (slots + 6) Q (F0 m pc ls rest) q9) : W p l e R s m args below meth c H locs cells slots Q (F0 m pc ls st0) := by
  intro T9 hT X
  rcases hr T9 hT X with ⟨v, st₀, t, T', L, h0, X', hL, e1, e2, ⟨⟨rv, o, hv, ho, hps⟩, hF⟩, st⟩ | ⟨q, st₀, t, T', L, E, ce, h0, X', hL, e1, e2, ⟨hE, ⟨o, ho, hps⟩, hF⟩, hce, hcv, hcl, st⟩
  · cases hv
    obtain ⟨k1, k2, k3⟩ := vx_keep h0 e1 hS hA hf hL hF
    obtain ⟨t2, a1, b1⟩ := kk v o T'.heap (locs ++ L) ho (by rw [e1]; exact hps) k3 T' rfl X'
    exact ⟨t2, st t2 a1, b1⟩
  · obtain ⟨k1, k2, k3⟩ := vx_keep h0 e1 hS hA hf hL hF
    subst hE
    obtain ⟨t2, a1, b1⟩ := kx o T'.heap (locs ++ L) q ce ho (by rw [e1]; exact hps) k3 (by rw [e1]; exact hce) hcv hcl T' rfl X'
    exact ⟨t2, st.trans a1, b1⟩
theorem hx_callQ {n0 : Nat} {ρ0 : Nat → Int} {σ0 : ab_SG} {os : List ab_OU} {a : Array Value} {mc ms : Nat} {free : Addr → Prop} (hr : va_Run p l e R s m args below meth c H locs cells slots mc ms (F0 m pc ls st0) rest (ab_QC cy ad wr cr D vwCl nn_sh nn_T nn_C n0 ρ0 σ0 os A1 a) free) (hS : va_S A0 H0 H locs) (hA : ∀ q, q < H.size → A1 q → A0 q) (hf : ∀ q, free q → A0 q)
    (kk : ∀ (rv : Option Value) (o : ab_OU) (H1 : Heap) (locs1 : List Loc), o ∈ os → ab_ps cy ad wr cr D vwCl nn_sh nn_T nn_C n0 ρ0 σ0 o rv H1 → va_S A0 H0 H1 locs1 → W p l e R s m args below meth c H1 locs1 (cells + mc) (slots + ms) Q (F0 m (pc + 3) ls (rv.toList ++ rest))) : W p l e R s m args below meth c H locs cells slots Q (F0 m pc ls st0) := by
  intro T9 hT X
  obtain ⟨v, st₀, t, T', L, h0, X', hL, e1, e2, ⟨⟨rv, o, hv, ho, hps⟩, hF⟩, st⟩ := hr T9 hT X
  cases hv
  obtain ⟨k1, k2, k3⟩ := vx_keep h0 e1 hS hA hf hL hF
  obtain ⟨t2, a1, b1⟩ := kk v o T'.heap (locs ++ L) ho (by rw [e1]; exact hps) k3 T' rfl X'
  exact ⟨t2, st t2 a1, b1⟩
end
/-- what a call's row gives of the frame: the callee's start, and each end as a frame -/
theorem nx_tr {mn0 lv0 : Nat} {ct : ab_CN} {osX : List ab_OU} {lev mn : Nat} {as rest : List ab_AV} {L : ab_LS} {B : ab_BD} {F : ab_FT} {Dl : ab_DL} {M : ab_ML} {ls9 lsX : List ab_AS} (htr : ab_tr1 nn_T (mn0, lv0, ct) lev mn as rest L B F Dl M = some ls9) (htx : ab_tr1 nn_T (mn0, lv0, (ct.1, ct.2.1, ct.2.2.1, ct.2.2.2.1, osX)) lev mn as rest L B F Dl M = some lsX)
    {cy : Nat → ClassId} {ad wr cr : Nat → Nat} {D : va_G} {nL n0 : Nat} {ρ0 : Nat → Int} {σ0 : ab_SG} {A : Nat → Prop} {H0 : Heap} {ρ : Nat → Int} {σ : ab_SG} {H : Heap} {locs : List Loc} {ls : Array Slot} {st : List Value} {S : List ab_AV} (hS0 : S = as.reverse ++ rest)
    (hG : ab_Gm cy ad wr cr D vwCl nn_sh nn_T nn_C nL n0 ρ0 σ0 A H0 (L, S, B, F, Dl, M) ρ σ H locs ls st) :
    ∃ (ρq : Nat → Int) (vr : List Value), ab_K nn_T nn_C σ ct.2.1 ct.2.2.1 ct.2.2.2.1 [] ρq σ ∧ (∀ a ∈ ct.1, ab_sy ct.2.1.length a) ∧ st = (ct.1.map (ab_V ad wr cr ρq)).reverse ++ vr ∧ (vr.map fun v => v.category).sum = ab_cat rest ∧ ct.1.length = as.length ∧
      (∀ (rv : Option Value) (o : ab_OU) (H1 : Heap) (locs1 : List Loc), o ∈ ct.2.2.2.2 → ab_ps cy ad wr cr D vwCl nn_sh nn_T nn_C ct.2.1.length ρq σ o rv H1 → va_S A H0 H1 locs1 →
        ∃ x ∈ ls9, ∃ (ρ2 : Nat → Int) (σ2 : ab_SG), (∀ i, i < B.length → ρ2 i = ρ i) ∧ ab_Gm cy ad wr cr D vwCl nn_sh nn_T nn_C nL n0 ρ0 σ0 A H0 x ρ2 σ2 H1 locs1 ls (rv.toList ++ vr)) ∧
      (∀ (rv : Option Value) (o : ab_OU) (H1 : Heap) (locs1 : List Loc), o ∈ osX → ab_ps cy ad wr cr D vwCl nn_sh nn_T nn_C ct.2.1.length ρq σ o rv H1 → va_S A H0 H1 locs1 →
        ∃ x ∈ lsX, ∃ (ρ2 : Nat → Int) (σ2 : ab_SG), (∀ i, i < B.length → ρ2 i = ρ i) ∧ ab_Gm cy ad wr cr D vwCl nn_sh nn_T nn_C nL n0 ρ0 σ0 A H0 x ρ2 σ2 H1 locs1 ls (rv.toList ++ vr)) := by
  obtain ⟨hK, hr0, hn0, hL, hS, hP, hSS⟩ := hG
  dsimp only at hK hr0 hn0 hL hS
  unfold ab_tr1 at htr htx
  obtain ⟨t1, htr⟩ := ab_co htr
  obtain ⟨t2, htx⟩ := ab_co htx
  dsimp only at htr htx
  split at htr
  · rename_i B1 D1 hmat
    rw [hmat] at htx
    dsimp only at htx
    obtain ⟨hvf, htr⟩ := ab_cs htr
    obtain ⟨hvf2, htx⟩ := ab_cs htx
    obtain ⟨ρ1, m1, m2, m3⟩ := ab_mat_ok _ hK hmat
    have hS1 := ab_okS_ext hS m2 m3
    have hSm : ∀ a ∈ as, ab_sy B1.length a := fun a ha => hS1.2 a (by rw [hS0]; exact List.mem_append_left _ (List.mem_reverse.mpr ha))
    have hrm : ∀ a ∈ rest, ab_sy B1.length a := fun a ha => hS1.2 a (by rw [hS0]; exact List.mem_append_right _ ha)
    have hst : st = (as.map (ab_V ad wr cr ρ1)).reverse ++ rest.map (ab_V ad wr cr ρ1) := by
      rw [hS1.1, hS0, List.map_append, List.map_reverse]
    obtain ⟨v1, v2⟩ := ab_vf_th m1.1 hvf
    obtain ⟨vK, -, vS⟩ := ab_vf_ok (ad := ad) (wr := wr) (cr := cr) (nL := nL) (ls := ls) (st := as.map (ab_V ad wr cr ρ1)) (L := []) hvf (ab_K_start m1) ⟨⟨hL.1.1, hL.1.2.1, fun q hq => by cases hq⟩, fun q hq => by cases hq⟩ ⟨rfl, hSm⟩
    have fin : ∀ (os : List ab_OU) (lsx : List ab_AS), (os.filterMap (fun o =>
          let r := ab_af (ab_gs 1 [] ct.1 ct.2.1 ct.2.2.2.1 [] as D1) ct.2.1.length o B1 F D1 M
          cond (ab_no r.2.1 || ab_nf r.2.1 r.2.2.1 || ab_ng r.2.1 r.2.2.1 (r.2.2.1.take o.2.2.1.length)) none (some (L, r.1 ++ rest, r.2.1, r.2.2.1, r.2.2.2.1, r.2.2.2.2)))) = lsx →
        ∀ (rv : Option Value) (o : ab_OU) (H1 : Heap) (locs1 : List Loc), o ∈ os → ab_ps cy ad wr cr D vwCl nn_sh nn_T nn_C ct.2.1.length (ab_thv (ab_gs 1 [] ct.1 ct.2.1 ct.2.2.2.1 [] as D1) ρ1) σ o rv H1 → va_S A H0 H1 locs1 →
        ∃ x ∈ lsx, ∃ (ρ2 : Nat → Int) (σ2 : ab_SG), (∀ i, i < B.length → ρ2 i = ρ i) ∧ ab_Gm cy ad wr cr D vwCl nn_sh nn_T nn_C nL n0 ρ0 σ0 A H0 x ρ2 σ2 H1 locs1 ls (rv.toList ++ rest.map (ab_V ad wr cr ρ1)) := by
      intro os lsx hlx rv o H1 locs1 ho hps hSS1
      obtain ⟨ρ', σ', q1, q2, q3, q4, q5⟩ := hps
      obtain ⟨ρ2, b1, b2, b3, b4⟩ := ab_af_ok (ad := ad) (wr := wr) (cr := cr) (o := o) m1 v1 v2 q1 q2 q3 q4
      have hag : ∀ i, i < B.length → ρ2 i = ρ i := fun i hi => (b3 i (Nat.lt_of_lt_of_le hi m2)).trans (m3 i hi)
      have hno : (ab_no (ab_af (ab_gs 1 [] ct.1 ct.2.1 ct.2.2.2.1 [] as D1) ct.2.1.length o B1 F D1 M).2.1 || ab_nf (ab_af (ab_gs 1 [] ct.1 ct.2.1 ct.2.2.2.1 [] as D1) ct.2.1.length o B1 F D1 M).2.1 (ab_af (ab_gs 1 [] ct.1 ct.2.1 ct.2.2.2.1 [] as D1) ct.2.1.length o B1 F D1 M).2.2.1 || ab_ng (ab_af (ab_gs 1 [] ct.1 ct.2.1 ct.2.2.2.1 [] as D1) ct.2.1.length o B1 F D1 M).2.1 (ab_af (ab_gs 1 [] ct.1 ct.2.1 ct.2.2.2.1 [] as D1) ct.2.1.length o B1 F D1 M).2.2.1 ((ab_af (ab_gs 1 [] ct.1 ct.2.1 ct.2.2.2.1 [] as D1) ct.2.1.length o B1 F D1 M).2.2.1.take o.2.2.1.length)) = false := by
        rw [ab_no_ok b1.1, ab_nf_ok b1.1 b1.2.1, ab_ng_ok b1.1 b1.2.1 (fun g hg => List.mem_of_mem_take hg)]
        rfl
      have hmem : (L, (ab_af (ab_gs 1 [] ct.1 ct.2.1 ct.2.2.2.1 [] as D1) ct.2.1.length o B1 F D1 M).1 ++ rest, (ab_af (ab_gs 1 [] ct.1 ct.2.1 ct.2.2.2.1 [] as D1) ct.2.1.length o B1 F D1 M).2.1, (ab_af (ab_gs 1 [] ct.1 ct.2.1 ct.2.2.2.1 [] as D1) ct.2.1.length o B1 F D1 M).2.2.1, (ab_af (ab_gs 1 [] ct.1 ct.2.1 ct.2.2.2.1 [] as D1) ct.2.1.length o B1 F D1 M).2.2.2.1, (ab_af (ab_gs 1 [] ct.1 ct.2.1 ct.2.2.2.1 [] as D1) ct.2.1.length o B1 F D1 M).2.2.2.2) ∈ lsx := by
        rw [← hlx]
        refine List.mem_filterMap.mpr ⟨o, ho, ?_⟩
        dsimp only
        rw [hno]
        rfl
      refine ⟨_, hmem, ρ2, σ', hag, b1, fun i hi => (hag i (Nat.lt_of_lt_of_le hi hn0)).trans (hr0 i hi), Nat.le_trans hn0 (Nat.le_trans m2 b2), ab_okL_ext hL (Nat.le_trans m2 b2) hag, ?_, q5, hSS1⟩
      refine ⟨?_, ?_⟩
      · rw [List.map_append, ← b4.1]
        congr 1
        exact List.map_congr_left (fun a ha => (ab_V_ext (hrm a ha) b3).symm)
      · intro a ha
        rcases List.mem_append.mp ha with ha | ha
        · exact b4.2 a ha
        · exact ab_sy_mono (hrm a ha) b2
    refine ⟨_, rest.map (ab_V ad wr cr ρ1), vK, vS.2, by rw [← vS.1]; exact hst, ?_, ?_, fin _ _ htr, fin _ _ htx⟩
    · have := ab_cat_ok (ad := ad) (wr := wr) (cr := cr) (ρ := ρ1) rest 0
      unfold ab_cat
      rw [this]
      omega
    · have := congrArg List.length vS.1
      rw [List.length_map, List.length_map] at this
      exact this.symm
  · cases htr
section
variable {p : Program} {l : Launch} {e : Env} {R : Room} {s : State} {m : MethodId} {args : Array Value} {below : List Frame} {meth : Method} {c : Code} {H : Heap} {locs : List Loc} {cells slots : Nat} {Q : State → Prop} {cc : ByteArray} {pc : Nat} {ls : Array Slot} {st : List Value}
variable {ad wr cr : Nat → Nat} {cy : Nat → ClassId} {nL n0 : Nat} {σ0 : ab_SG} {ρ0 : Nat → Int} {own : String} {D : va_G} {A : Nat → Prop} {H0 : Heap} {Ts : List Jvm.Cond}
set_option maxHeartbeats 4000000 in
/-- a call of a method of the world that returns or throws -/
theorem nx_cl (hcs : cells + 1 ≤ R.cells ∧ slots + 6 ≤ R.slots) (hx : p.tables.exec = Jvm.exec) (hb : c.code = cc) (hml : c.maxLocals = nL) (hown : s.vm.findClass own = some m.cls) (hts : ∀ w ∈ Ts, w.before args s = true) (hKK : va_K D vwCl (ab_tys cy) s) (hN : ab_okN nn_NW s) (hCB : ab_CB cy ad wr cr nn_kd A s) (hZ : nx_Z A s) (hH0 : H0 = s.heap) (hTT : ∀ w ∈ nn_TT, w ∈ Ts)
    (hA : ∀ k, k < nn_sh.length → A (ad k)) (hA2 : ∀ q, H0.size ≤ q → A q) {q : nx_Q4} {x9 : Nat} {mr : ab_MR} (hmr : nn_MT[q.1]? = some mr) (hob : mr.2.2.2.2.2.1 = true) (hlk : ab_mlk nn_MT Ts nn_NW own (x9, 0, q.1)) (hplain : Jvm.Cond.methodLink own x9 mr.1 ∈ Ts) (hq : nx_H l cy ad wr cr D q) (hR : q.2.1 + 11 ≤ R.frames ∧ 40 * q.2.1 + 300 ≤ R.locals)
    {L : ab_LS} {S as rest : List ab_AV} {B : ab_BD} {F : ab_FT} {Dl : ab_DL} {M : ab_ML} (hS0 : S = as.reverse ++ rest) (hlen : as.length = mr.2.2.2.2.1 + 1) (hc8 : ab_cat rest ≤ 8) (hl21 : mr.2.2.1 ≤ 21)
    {ls9 lsX : List ab_AS} (htr : ab_tr1 nn_T (q.1, q.2.1, q.2.2.1) (q.2.1 + 1) q.1 as rest L B F Dl M = some ls9) (htx : ab_tr1 nn_T (q.1, q.2.1, (q.2.2.1.1, q.2.2.1.2.1, q.2.2.1.2.2.1, q.2.2.1.2.2.2.1, q.2.2.2)) (q.2.1 + 1) q.1 as rest L B F Dl M = some lsX)
    (hdg : decode cc pc = .ok (.invokevirtual x9, 3)) {ρ : Nat → Int} {σ : ab_SG} (hG : ab_Gm cy ad wr cr D vwCl nn_sh nn_T nn_C nL n0 ρ0 σ0 A H0 (L, S, B, F, Dl, M) ρ σ H locs ls st)
    (kk : ∀ x ∈ ls9, ∀ (ρ2 : Nat → Int) (σ2 : ab_SG) (H1 : Heap) (locs1 : List Loc) (st1 : List Value), (∀ i, i < B.length → ρ2 i = ρ i) → ab_Gm cy ad wr cr D vwCl nn_sh nn_T nn_C nL n0 ρ0 σ0 A H0 x ρ2 σ2 H1 locs1 ls st1 → W p l e R s m args below meth c H1 locs1 (cells + 1) (slots + 6) Q (F0 m (pc + 3) ls st1))
    (kx : ∀ x ∈ lsX, ∀ (ρ2 : Nat → Int) (σ2 : ab_SG) (H1 : Heap) (locs1 : List Loc) (st1 : List Value) (q9 : Addr) (ce : Cell), (∀ i, i < B.length → ρ2 i = ρ i) → ab_Gm cy ad wr cr D vwCl nn_sh nn_T nn_C nL n0 ρ0 σ0 A H0 x ρ2 σ2 H1 locs1 ls st1 → H1[q9]? = some ce → ce.vm = .none → s.vm.findClass nx_N = some ce.cls → vx_W p l e R s m args below meth c H1 locs1 (cells + 1) (slots + 6) Q (F0 m pc ls st1) q9) :
    W p l e R s m args below meth c H locs cells slots Q (F0 m pc ls st) := by
  obtain ⟨c1, c2, c3, c4, c5, -, -⟩ := hlk mr hmr
  obtain ⟨d1, d2⟩ := c5 hob
  obtain ⟨e0, e1, e2⟩ := hq mr hmr
  obtain ⟨qn, qv, qc, qx⟩ := q
  obtain ⟨ρq, vr, vK, vsy, vst, vcat, vlen, vend, xend⟩ := nx_tr htr htx hS0 hG
  have hP : va_P D vwCl (ab_WD cy ad wr nn_sh σ) H := hG.2.2.2.2.2.1
  have hSS : va_S A H0 H locs := hG.2.2.2.2.2.2
  have hM := e2 ρq σ H.size vK vsy
  obtain ⟨k9, z9, as9, ci9, fs9, T9, N9, r1, r2, r3⟩ := e1 hob
  replace r1 : qc.1 = (2, k9, z9) :: as9 := r1
  have has : qc.1.map (ab_V ad wr cr ρq) = .ref (ad k9) :: as9.map (ab_V ad wr cr ρq) := by rw [r1]; rfl
  have hn9 : as9.length = mr.2.2.2.2.1 := by
    have h1 : qc.1.length = as9.length + 1 := by rw [r1]; rfl
    have h2 : qc.1.length = as.length := vlen
    omega
  replace hM : vx_Met l mr.1 (Jvm.Cond.code mr.1 mr.2.1 mr.2.2.1 mr.2.2.2.1 :: nn_TT) (nx_room qv) (nx_PC cy ad wr cr D σ (qc.1.map (ab_V ad wr cr ρq)) H.size) (ab_QC cy ad wr cr D vwCl nn_sh nn_T nn_C qc.2.1.length ρq σ qc.2.2.2.2 (ab_A ad nn_sh.length H.size)) (nx_XC cy ad wr cr D qc.2.1.length ρq σ qx (ab_A ad nn_sh.length H.size)) 1 6 (ab_A ad nn_sh.length H.size) := hM
  rw [has] at hM
  have hst : st = (as9.map (ab_V ad wr cr ρq)).reverse ++ .ref (ad k9) :: vr := by
    have h9 : st = (qc.1.map (ab_V ad wr cr ρq)).reverse ++ vr := vst
    rw [h9, has, List.reverse_cons, List.append_assoc]
    rfl
  have hws : ∀ w ∈ (Jvm.Cond.code mr.1 mr.2.1 mr.2.2.1 mr.2.2.2.1 :: nn_TT), ∀ (a' : Array Value) (U : State), s.WarmedH U.vm → w.before a' U = true := by
    intro w hw a' U hW
    rcases List.mem_cons.mp hw with rfl | hw
    · exact word_at hW (good_of_word (nn_MT_code mr (List.mem_of_getElem? hmr))) (hts _ c1)
    · exact word_at hW (good_of_word (nn_TT_good w hw)) (hts _ (hTT w hw))
  have hfree : ∀ q, ab_A ad nn_sh.length H.size q → A q := by
    rintro q (⟨k, hk, rfl⟩ | hk)
    · exact hA k hk
    · exact hA2 q (Nat.le_trans hSS.1 hk)
  have hkeep : ∀ U : State, U.heap = H → ∀ a : Nat, a < s.heap.size → ¬ A a → U.heap[a]? = s.heap[a]? := fun U hU a ha hna => by rw [hU, hSS.2.1 a (by rw [hH0]; exact ha) hna, hH0]
  have hpre : ∀ U : State, U.heap = H → s.WarmedH U.vm → nx_PC cy ad wr cr D σ (.ref (ad k9) :: as9.map (ab_V ad wr cr ρq)) H.size (.ref (ad k9) :: as9.map (ab_V ad wr cr ρq)).toArray U := fun U hU hW =>
    ⟨rfl, by rw [hU], by rw [hU]; exact hP, va_K.moved hW.alike hKK, ab_okN_moved hW hN, ab_CB_go hCB hW (hkeep U hU) hfree, nx_Z_go hZ hW (hkeep U hU) hfree⟩
  have hsig : ∀ sig, parseMethodDescriptor mr.1.desc = some sig → mr.2.2.2.2.1 = sig.parameters.length := fun sig hsg => by
    rw [hsg] at c4
    exact (Option.some.inj c4).symm
  have hfr : (nx_room qv).frames + 1 ≤ R.frames := by
    have := hR.1
    show qv + 10 + 1 ≤ _
    replace this : qv + 11 ≤ R.frames := this
    omega
  have hlo : 8 + (mr.2.2.1 + 11) + (nx_room qv).locals ≤ R.locals := by
    have := hR.2
    show 8 + (mr.2.2.1 + 11) + (40 * qv + 200) ≤ _
    replace this : 40 * qv + 300 ≤ R.locals := this
    omega
  have hA3 : ∀ q, q < H.size → ab_A ad nn_sh.length H.size q → A q := by
    rintro q hq (⟨k, hk, rfl⟩ | hk)
    · exact hA k hk
    · exact absurd hq (Nat.not_lt.mpr hk)
  have hroom : 2 * (F0 m pc ls st).monitorRoom + (vr.map fun v => v.category).sum ≤ 8 := lv_room (rest := st) (by rw [vcat]; exact hc8)
  have hrecv := va_recv hKK hP r3 (ab_cell_f (σ := σ) (cy := cy) (ad := ad) (wr := wr) r2)
  have hrun := vx_runV (meth := meth) (below := below) (e := e) (As := as9.map (ab_V ad wr cr ρq)) (rest := vr) (cells := cells) (slots := slots) (locs := locs) ⟨hx, hb, hml, hown, hts⟩ hM ⟨⟨rfl, rfl, hfr, hlo, hws, List.mem_cons_self, hts _ c1, hts _ c2, c3, hsig, hts _ hplain⟩, hts _ d1, hts _ d2⟩ ⟨nx_PC_blind, hrecv, hpre⟩ (g := F0 m pc ls st) rfl (by rw [List.length_map]; exact hn9) hG.2.2.2.1.1.1 hst hroom hdg hcs
  refine nx_callQ hrun hSS hA3 hfree (fun rv o H1 locs1 ho hps hSS1 => ?_) (fun o H1 locs1 q9 ce ho hps hSS1 h1 h2 h3 => ?_)
  · obtain ⟨x, hx9, ρ2, σ2, g1, g2⟩ := vend rv o H1 locs1 ho hps hSS1
    exact kk x hx9 ρ2 σ2 H1 locs1 _ g1 g2
  · obtain ⟨x, hx9, ρ2, σ2, g1, g2⟩ := xend none o H1 locs1 ho hps hSS1
    exact kx x hx9 ρ2 σ2 H1 locs1 _ q9 ce g1 g2 h1 h2 h3
end
