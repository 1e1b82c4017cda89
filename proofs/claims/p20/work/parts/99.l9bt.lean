/-! two contracts of one call together: what the ranges tell of it, and what it does -/
theorem db_both {l : Launch} {y : MethodName} {ws : List Jvm.Cond} {rm : Room} {Pc : Array Value → State → Prop} {Q1 Q2 : Array Value → State → Outcome → State → Prop} {mc ms : Nat} {free : Addr → Prop}
    (h1 : Met l y ws rm Pc Q1 mc ms free) (h2 : Met l y ws rm Pc Q2 mc ms free) : Met l y ws rm Pc (fun a s o t => Q1 a s o t ∧ Q2 a s o t) mc ms free := by
  intro p e hadm hfc hfk s m args below hfr happ hP hK
  obtain ⟨n1, o1, w1, r1, e1, q1, L1⟩ := h1 p e hadm hfc hfk s m args below hfr happ hP hK
  obtain ⟨n2, o2, w2, r2, e2, q2, -⟩ := h2 p e hadm hfc hfk s m args below hfr happ hP hK
  have hn : n1 = n2 := by
    rcases Nat.lt_trichotomy n1 n2 with h | h | h
    · exact absurd (w2 n1 h) (Ended.not_within e1)
    · exact h
    · exact absurd (w1 n2 h) (Ended.not_within e2)
  subst hn
  have ho := Ended.outcome_unique e1 e2
  subst ho
  exact ⟨n1, o1, w1, r1, e1, ⟨q1, q2⟩, L1⟩
theorem db_pre {l : Launch} {y : MethodName} {ws : List Jvm.Cond} {rm : Room} {Pc Pc' : Array Value → State → Prop} {Q1 : Array Value → State → Outcome → State → Prop} {mc ms : Nat} {free : Addr → Prop}
    (hp : ∀ a s, Pc' a s → Pc a s) (h : Met l y ws rm Pc Q1 mc ms free) : Met l y ws rm Pc' Q1 mc ms free := fun p e h1 h2 h3 s m args below hfr happ hP hK => h p e h1 h2 h3 s m args below hfr happ (hp _ _ hP) hK
theorem db_PC {cy : Nat → ClassId} {ad wr cr : Nat → Nat} {D : va_G} {cl : List vw_C} {sh : List ab_SP} {NW : ab_NW} {kd : ab_KD} {kv : Nat → Nat → Int} {wc : Nat → Int} {σ : ab_SG} {av : List Value} {sz : Nat} {a : Array Value} {U : State} (h : fw_PC cy ad wr cr D cl sh NW kd kv wc σ av sz a U) : ab_PC cy ad wr cr D cl sh NW kd σ av sz a U := by
  obtain ⟨h1, h2, h3, h4, h5, h6⟩ := h
  exact ⟨h1, h2, h3, h4, h5, h6.1⟩
/-- a value by its number alone -/
def fw_of (ρ : Nat → Int) (a : ab_AV) : ab_AV := match a.1 with
  | 0 => (0, 0, ρ a.2.1 + a.2.2)
  | 1 => (1, 0, ρ a.2.1 + a.2.2)
  | 2 => (2, a.2.1, 0)
  | 3 => (3, 0, 0)
  | 4 => (4, 0, ρ a.2.1 + a.2.2)
  | n + 5 => (n + 5, a.2.1, 0)
theorem fw_of_V {ad wr cr : Nat → Nat} {ρ : Nat → Int} (a : ab_AV) : ab_V ad wr cr fw_z (fw_of ρ a) = ab_V ad wr cr ρ a := by
  obtain ⟨t, s, c⟩ := a
  match t with
  | 0 => show Value.int (Int32.ofInt (0 + (ρ s + c))) = Value.int (Int32.ofInt (ρ s + c)); rw [Int.zero_add]
  | 1 => show Value.long (Int64.ofInt (0 + (ρ s + c))) = Value.long (Int64.ofInt (ρ s + c)); rw [Int.zero_add]
  | 2 => rfl
  | 3 => rfl
  | 4 => show ab_wv wr (0 + (ρ s + c)) = ab_wv wr (ρ s + c); rw [Int.zero_add]
  | n + 5 => rfl
set_option maxRecDepth 100000 in
theorem db_met {l : Launch} {cy : Nat → ClassId} {ad wr cr : Nat → Nat} {D : va_G} {q : Nat × Nat × ab_CN} {mr : ab_MR} (hmr : nn_MT[q.1]? = some mr) (hq : nn_H l cy ad wr cr D q) {lv lev : Nat} {sp : fw_SP} (hf : fw_H l cy ad wr cr D q.1 lv sp) (h1 : q.2.1 ≤ lev) (h2 : lv ≤ lev)
    {ρ : Nat → Int} {σ : ab_SG} {sz : Nat} (hK : ab_K nn_T nn_C σ q.2.2.2.1 q.2.2.2.2.1 q.2.2.2.2.2.1 [] ρ σ) (hsy : ∀ a ∈ q.2.2.1, ab_sy q.2.2.2.1.length a) {as' : List ab_AV} (has : as'.map (ab_V ad wr cr fw_z) = q.2.2.1.map (ab_V ad wr cr ρ)) {K : fw_KR} (hsp : sp as' σ K) :
    Met l mr.1 (Jvm.Cond.code mr.1 mr.2.1 mr.2.2.1 mr.2.2.2.1 :: nn_TT) (ab_room lev) (fw_PC cy ad wr cr D vwCl nn_sh nn_NW nn_kd fw_kv fw_wc σ (q.2.2.1.map (ab_V ad wr cr ρ)) sz)
      (fun a st o t => ab_QC cy ad wr cr D vwCl nn_sh nn_T nn_C q.2.2.2.1.length ρ σ q.2.2.2.2.2.2 (ab_A ad nn_sh.length sz) a st o t ∧ fw_QC cy ad wr cr D vwCl nn_sh K (ab_A ad nn_sh.length sz) a st o t) 0 0 (ab_A ad nn_sh.length sz) := by
  obtain ⟨-, -, e2⟩ := hq mr hmr
  have hA0 := e2 ρ σ sz hK hsy
  have hA := nn_met_room (rm := ab_room q.2.1) (rm' := ab_room lev) h1 (Nat.mul_le_mul_left 40 h1) (Nat.le_refl _) (Nat.le_refl _) (fun _ _ _ _ h => h) hA0
  have hB := hf mr hmr as' σ sz K hsp
  rw [has] at hB
  have hB := nn_met_room (rm := ab_room lv) (rm' := ab_room lev) h2 (Nat.mul_le_mul_left 40 h2) (Nat.le_refl _) (Nat.le_refl _) (fun _ _ _ _ h => h) hB
  exact db_both (db_pre (fun _ _ h => db_PC h) hA) hB
section
variable {p : Program} {l : Launch} {e : Env} {R : Room} {s : State} {m : MethodId} {args : Array Value} {below : List Frame} {meth : Method} {c : Code} {H : Heap} {locs : List Loc} {cells slots : Nat} {Q : State → Prop} {cc : ByteArray} {pc : Nat} {ls : Array Slot} {st : List Value}
variable {ad wr cr : Nat → Nat} {cy : Nat → ClassId} {nL n0 : Nat} {σ0 : ab_SG} {ρ0 : Nat → Int} {own : String} {D : va_G} {A : Nat → Prop} {H0 : Heap} {Ts : List Jvm.Cond}
set_option maxHeartbeats 4000000 in
/-- a call of which both is known -/
theorem db_cl (hcs : cells ≤ R.cells ∧ slots ≤ R.slots) (hx : p.tables.exec = Jvm.exec) (hb : c.code = cc) (hml : c.maxLocals = nL) (hown : s.vm.findClass own = some m.cls) (hts : ∀ w ∈ Ts, w.before args s = true) (hKK : va_K D vwCl (ab_tys cy) s) (hN : ab_okN nn_NW s) (hCB : fw_CB cy ad wr cr nn_kd fw_kv fw_wc A s) (hH0 : H0 = s.heap) (hTT : ∀ w ∈ nn_TT, w ∈ Ts)
    (hA : ∀ k, k < nn_sh.length → A (ad k)) (hA2 : ∀ q, H0.size ≤ q → A q) {q : Nat × Nat × ab_CN} {x9 : Nat} {mr : ab_MR} (hmr : nn_MT[q.1]? = some mr) (hob : mr.2.2.2.2.2.1 = true) (hlk : ab_mlk nn_MT Ts nn_NW own (x9, 0, q.1)) (hplain : Jvm.Cond.methodLink own x9 mr.1 ∈ Ts) (hq : nn_H l cy ad wr cr D q)
    {lv lev : Nat} {sp : fw_SP} (hf : fw_H l cy ad wr cr D q.1 lv sp) (hl1 : q.2.1 ≤ lev) (hl2 : lv ≤ lev) (hR : lev + 1 ≤ R.frames ∧ 40 * lev + 40 ≤ R.locals)
    {L : ab_LS} {S as rest : List ab_AV} {B : ab_BD} {F : ab_FT} {Dl : ab_DL} {M : ab_ML} (hS0 : S = as.reverse ++ rest) (hlen : as.length = mr.2.2.2.2.1 + 1) (hc8 : ab_cat rest ≤ 8) (hl21 : mr.2.2.1 ≤ 21)
    {ls9 : List ab_AS} (htr : ab_tr1 nn_T (q.1, q.2.1, q.2.2) (q.2.1 + 1) q.1 as rest L B F Dl M = some ls9)
    (hdg : decode cc pc = .ok (.invokevirtual x9, 3)) {ρ : Nat → Int} {σ : ab_SG} (hG : ab_Gm cy ad wr cr D vwCl nn_sh nn_T nn_C nL n0 ρ0 σ0 A H0 (L, S, B, F, Dl, M) ρ σ H locs ls st) {K : fw_KR} (hsp : sp (as.map (fw_of ρ)) σ K)
    (kk : ∀ x ∈ ls9, ∀ (ρ2 : Nat → Int) (σ2 σf : ab_SG) (rv : Option ab_AV) (H1 : Heap) (locs1 : List Loc) (st1 vr : List Value), (∀ i, i < B.length → ρ2 i = ρ i) → ab_Gm cy ad wr cr D vwCl nn_sh nn_T nn_C nL n0 ρ0 σ0 A H0 x ρ2 σ2 H1 locs1 ls st1 → K rv σf → va_P D vwCl (ab_WD cy ad wr nn_sh σf) H1 → st1 = (rv.map (ab_V ad wr cr fw_z)).toList ++ vr → W p l e R s m args below meth c H1 locs1 cells slots Q (F0 m (pc + 3) ls st1)) :
    W p l e R s m args below meth c H locs cells slots Q (F0 m pc ls st) := by
  obtain ⟨c1, c2, c3, c4, c5, -, -⟩ := hlk mr hmr
  obtain ⟨d1, d2⟩ := c5 hob
  obtain ⟨e0, e1, -⟩ := hq mr hmr
  obtain ⟨qn, qv, qc⟩ := q
  obtain ⟨ρq, vr, vK, vsy, vst, vcat, vlen, vend, -⟩ := nx_tr (osX := qc.2.2.2.2) htr htr hS0 hG
  have hP : va_P D vwCl (ab_WD cy ad wr nn_sh σ) H := hG.2.2.2.2.2.1
  have hSS : va_S A H0 H locs := hG.2.2.2.2.2.2
  have has : (as.map (fw_of ρ)).map (ab_V ad wr cr fw_z) = qc.1.map (ab_V ad wr cr ρq) := by
    have h1 : st = S.map (ab_V ad wr cr ρ) := hG.2.2.2.2.1.1
    rw [hS0, List.map_append, List.map_reverse] at h1
    have h2 : (as.map (ab_V ad wr cr ρ)).reverse ++ rest.map (ab_V ad wr cr ρ) = (qc.1.map (ab_V ad wr cr ρq)).reverse ++ vr := h1.symm.trans vst
    have h3 := (List.append_inj h2 (by rw [List.length_reverse, List.length_map, List.length_reverse, List.length_map]; exact vlen.symm)).1
    have h4 := List.reverse_inj.mp h3
    rw [List.map_map, ← h4]
    exact List.map_congr_left (fun a _ => fw_of_V a)
  have hM := db_met (q := (qn, qv, qc)) hmr hq hf hl1 hl2 (sz := H.size) vK vsy has hsp
  obtain ⟨k9, z9, as9, ci9, fs9, T9, N9, r1, r2, r3⟩ := e1 hob
  replace r1 : qc.1 = (2, k9, z9) :: as9 := r1
  have has : qc.1.map (ab_V ad wr cr ρq) = .ref (ad k9) :: as9.map (ab_V ad wr cr ρq) := by rw [r1]; rfl
  have hn9 : as9.length = mr.2.2.2.2.1 := by
    have h1 : qc.1.length = as9.length + 1 := by rw [r1]; rfl
    have h2 : qc.1.length = as.length := vlen
    omega
  replace hM : Met l mr.1 (Jvm.Cond.code mr.1 mr.2.1 mr.2.2.1 mr.2.2.2.1 :: nn_TT) (ab_room lev) (fw_PC cy ad wr cr D vwCl nn_sh nn_NW nn_kd fw_kv fw_wc σ (qc.1.map (ab_V ad wr cr ρq)) H.size) (fun a st o t => ab_QC cy ad wr cr D vwCl nn_sh nn_T nn_C qc.2.1.length ρq σ qc.2.2.2.2 (ab_A ad nn_sh.length H.size) a st o t ∧ fw_QC cy ad wr cr D vwCl nn_sh K (ab_A ad nn_sh.length H.size) a st o t) 0 0 (ab_A ad nn_sh.length H.size) := hM
  rw [has] at hM
  have hst : st = (as9.map (ab_V ad wr cr ρq)).reverse ++ .ref (ad k9) :: vr := by
    have h9 : st = (qc.1.map (ab_V ad wr cr ρq)).reverse ++ vr := vst
    rw [h9, has, List.reverse_cons, List.append_assoc]
    rfl
  have hws : ∀ w ∈ (Jvm.Cond.code mr.1 mr.2.1 mr.2.2.1 mr.2.2.2.1 :: nn_TT), ∀ (a' : Array Value) (U : State), s.WarmedH U.vm → w.before a' U = true := by
    intro w hw a' U hW
    rcases List.mem_cons.mp hw with rfl | hw
    · exact word_at hW (good_of_word (nn_MT_code mr (List.mem_of_getElem? hmr))) (hts _ c1)
    · exact word_at hW (good_of_word (nn_TT_good w hw)) (hts _ (hTT w hw))
  have hfree : ∀ q, ab_A ad nn_sh.length H.size q → A q := by
    rintro q (⟨k, hk, rfl⟩ | hk)
    · exact hA k hk
    · exact hA2 q (Nat.le_trans hSS.1 hk)
  have hkeep : ∀ U : State, U.heap = H → ∀ a : Nat, a < s.heap.size → ¬ A a → U.heap[a]? = s.heap[a]? := fun U hU a ha hna => by rw [hU, hSS.2.1 a (by rw [hH0]; exact ha) hna, hH0]
  have hpre : ∀ U : State, U.heap = H → s.WarmedH U.vm → fw_PC cy ad wr cr D vwCl nn_sh nn_NW nn_kd fw_kv fw_wc σ (.ref (ad k9) :: as9.map (ab_V ad wr cr ρq)) H.size (.ref (ad k9) :: as9.map (ab_V ad wr cr ρq)).toArray U := fun U hU hW =>
    ⟨rfl, by rw [hU], by rw [hU]; exact hP, va_K.moved hW.alike hKK, ab_okN_moved hW hN, fw_CB_go hCB hW (hkeep U hU) hfree⟩
  have hsig : ∀ sig, parseMethodDescriptor mr.1.desc = some sig → mr.2.2.2.2.1 = sig.parameters.length := fun sig hsg => by
    rw [hsg] at c4
    exact (Option.some.inj c4).symm
  have hfr : (ab_room lev).frames + 1 ≤ R.frames := hR.1
  have hlo : 8 + (mr.2.2.1 + 11) + (ab_room lev).locals ≤ R.locals := by
    have := hR.2
    show 8 + (mr.2.2.1 + 11) + 40 * lev ≤ _
    omega
  have hA3 : ∀ q, q < H.size → ab_A ad nn_sh.length H.size q → A q := by
    rintro q hq (⟨k, hk, rfl⟩ | hk)
    · exact hA k hk
    · exact absurd hq (Nat.not_lt.mpr hk)
  have hroom : 2 * (F0 m pc ls st).monitorRoom + (vr.map fun v => v.category).sum ≤ 8 := lv_room (rest := st) (by rw [vcat]; exact hc8)
  have hrecv := va_recv hKK hP r3 (ab_cell_f (σ := σ) (cy := cy) (ad := ad) (wr := wr) r2)
  have hcs0 : cells + 0 ≤ R.cells ∧ slots + 0 ≤ R.slots := hcs
  have hrun := va_runV (meth := meth) (below := below) (e := e) (As := as9.map (ab_V ad wr cr ρq)) (rest := vr) (cells := cells) (slots := slots) (locs := locs) ⟨hx, hb, hml, hown, hts⟩ hM ⟨⟨rfl, rfl, hfr, hlo, hws, List.mem_cons_self, hts _ c1, hts _ c2, c3, hsig, hts _ hplain⟩, hts _ d1, hts _ d2⟩ ⟨fw_PC_blind, hrecv, hpre⟩ (g := F0 m pc ls st) rfl (by rw [List.length_map]; exact hn9) hG.2.2.2.1.1.1 hst hroom hdg hcs0
  intro T9 hT X
  obtain ⟨v, st₀, t, T', L9, h0, X', hL, e1, e2, ⟨⟨⟨rv, o, hv, ho, hps⟩, hF⟩, ⟨rv2, σf, hv2, hK2, hP2⟩, -⟩, stp⟩ := hrun T9 hT X
  cases hv
  obtain ⟨k1, k2, k3⟩ := vx_keep h0 e1 hSS hA3 hfree hL hF
  obtain ⟨x, hx9, ρ2, σ2, g1, g2⟩ := vend v o T'.heap (locs ++ L9) ho (by rw [e1]; exact hps) k3
  have hv3 : v = rv2.map (ab_V ad wr cr fw_z) := by
    injection hv2
  obtain ⟨t2, a1, b1⟩ := kk x hx9 ρ2 σ2 σf rv2 T'.heap (locs ++ L9) _ vr g1 g2 hK2 (by rw [e1]; exact hP2) (by rw [hv3]) T' rfl X'
  exact ⟨t2, stp t2 a1, b1⟩
end
/-! one heap tells one number -/
section
variable {cy : Nat → ClassId} {ad wr : Nat → Nat} {D : va_G} {σ σ' : ab_SG} {H : Heap}
theorem wd_fld (h : va_P D vwCl (ab_WD cy ad wr nn_sh σ) H) (h' : va_P D vwCl (ab_WD cy ad wr nn_sh σ') H) {k j ci : Nat} {fs : List (Nat × Nat)} {f : Nat × Nat} {C : String} {T9 : u_T} {N9 : Nat} (hk : nn_sh[k]? = some (.inl (ci, fs))) (hj : fs[j]? = some f) (hc : vwCl[ci]? = some (C, T9, N9)) (hN : j < N9) : ab_fv ad wr f (σ k j) = ab_fv ad wr f (σ' k j) := by
  have g := h k _ (ab_WD_get hk)
  have g' := h' k _ (ab_WD_get hk)
  obtain ⟨r, r1, cell, c1, -, -, c4⟩ := g
  obtain ⟨r', r1', cell', c1', -, -, c4'⟩ := g'
  have er : r = (C, T9, N9) := Option.some.inj (r1.symm.trans hc)
  have er' : r' = (C, T9, N9) := Option.some.inj (r1'.symm.trans hc)
  subst er
  subst er'
  have ec : cell = cell' := Option.some.inj (c1.symm.trans c1')
  subst ec
  have q := Option.some.inj ((c4 j hN).symm.trans (c4' j hN))
  have e1 : vp_V (fs.mapIdx (fun i f => ab_fv ad wr f (σ k i))) j = ab_fv ad wr f (σ k j) := by
    unfold vp_V
    rw [List.getD_eq_getElem?_getD, ab_fs_get hj]
    rfl
  have e2 : vp_V (fs.mapIdx (fun i f => ab_fv ad wr f (σ' k i))) j = ab_fv ad wr f (σ' k j) := by
    unfold vp_V
    rw [List.getD_eq_getElem?_getD, ab_fs_get hj]
    rfl
  exact e1.symm.trans (q.trans e2)
theorem wd_int (h : va_P D vwCl (ab_WD cy ad wr nn_sh σ) H) (h' : va_P D vwCl (ab_WD cy ad wr nn_sh σ') H) {k j ci n : Nat} {fs : List (Nat × Nat)} {C : String} {T9 : u_T} {N9 : Nat} (hk : nn_sh[k]? = some (.inl (ci, fs))) (hj : fs[j]? = some (0, n)) (hc : vwCl[ci]? = some (C, T9, N9)) (hN : j < N9) : fw_c (σ k j) = fw_c (σ' k j) := by
  have q := wd_fld h h' hk hj hc hN
  have q : Value.int (Int32.ofInt (σ k j)) = Value.int (Int32.ofInt (σ' k j)) := q
  injection q with q
  unfold fw_c
  rw [q]
theorem wd_arr (h : va_P D vwCl (ab_WD cy ad wr nn_sh σ) H) (h' : va_P D vwCl (ab_WD cy ad wr nn_sh σ') H) {k j t n : Nat} (hk : nn_sh[k]? = some (.inr (t, n))) (ht : t ≠ 1) (hj : j < n) : fw_c (σ k j) = fw_c (σ' k j) := by
  have g := h k _ (ab_WD_get hk)
  have g' := h' k _ (ab_WD_get hk)
  have er : ∀ row : Nat → Int, ab_ar t n row = (n, .inl (fun j => Int32.ofInt (row j))) := fun row => by
    unfold ab_ar
    split
    · exact absurd rfl ht
    · rfl
  replace g : H[ad k]? = some (vp_cell (cy t) (ab_ar t n (σ k))) := g
  replace g' : H[ad k]? = some (vp_cell (cy t) (ab_ar t n (σ' k))) := g'
  rw [er] at g g'
  have q := Option.some.inj (g.symm.trans g')
  have q2 : (arrV (cy t) n (fun j => Value.int (Int32.ofInt (σ k j)))).slots = (arrV (cy t) n (fun j => Value.int (Int32.ofInt (σ' k j)))).slots := congrArg Cell.slots q
  have q3 := congrArg (fun a => a[j]?) q2
  have e : ∀ f : Nat → Value, (arrV (cy t) n f).slots[j]? = some (f j) := fun f => arrV_read _ f hj
  have q4 : some (Value.int (Int32.ofInt (σ k j))) = some (Value.int (Int32.ofInt (σ' k j))) := (e _).symm.trans (q3.trans (e _))
  injection q4 with q4
  injection q4 with q4
  unfold fw_c
  rw [q4]
theorem wd_larr (h : va_P D vwCl (ab_WD cy ad wr nn_sh σ) H) (h' : va_P D vwCl (ab_WD cy ad wr nn_sh σ') H) {k j n : Nat} (hk : nn_sh[k]? = some (.inr (1, n))) (hj : j < n) : fw_d (σ k j) = fw_d (σ' k j) := by
  have g := h k _ (ab_WD_get hk)
  have g' := h' k _ (ab_WD_get hk)
  replace g : H[ad k]? = some (arrV (cy 1) n (fun j => Value.long (Int64.ofInt (σ k j)))) := g
  replace g' : H[ad k]? = some (arrV (cy 1) n (fun j => Value.long (Int64.ofInt (σ' k j)))) := g'
  have q := Option.some.inj (g.symm.trans g')
  have q2 : (arrV (cy 1) n (fun j => Value.long (Int64.ofInt (σ k j)))).slots = (arrV (cy 1) n (fun j => Value.long (Int64.ofInt (σ' k j)))).slots := congrArg Cell.slots q
  have q3 := congrArg (fun a => a[j]?) q2
  have e : ∀ f : Nat → Value, (arrV (cy 1) n f).slots[j]? = some (f j) := fun f => arrV_read _ f hj
  have q4 : some (Value.long (Int64.ofInt (σ k j))) = some (Value.long (Int64.ofInt (σ' k j))) := (e _).symm.trans (q3.trans (e _))
  injection q4 with q4
  injection q4 with q4
  unfold fw_d
  rw [q4]
end
