section
/-! calls of methods that return or throw, over known numbers; the law's helpers -/
section
variable {p : Program} {l : Launch} {e : Env} {R : Room} {s : State} {m : MethodId} {args : Array Value} {below : List Frame} {meth : Method} {c : Code} {H : Heap} {locs : List Loc} {cells slots : Nat} {Q : State → Prop} {cc : ByteArray} {pc : Nat} {ls : Array Slot} {st : List Value}
variable {ad wr cr : Nat → Nat} {cy : Nat → ClassId} {nL : Nat} {own : String} {D : va_G} {A : Nat → Prop} {Ts : List Jvm.Cond}
set_option maxHeartbeats 4000000 in
theorem fx_cl (hcs : cells + 1 ≤ R.cells ∧ slots + 6 ≤ R.slots) (hx : p.tables.exec = Jvm.exec) (hb : c.code = cc) (hml : c.maxLocals = nL) (hown : s.vm.findClass own = some m.cls) (hts : ∀ w ∈ Ts, w.before args s = true) (hKK : va_K D vwCl (ab_tys cy) s) (hN : ab_okN nn_NW s) (hCB : fw_CB cy ad wr cr nn_kd fw_kv fw_wc A s) (hZ : nx_Z A s) (hTT : ∀ w ∈ nn_TT, w ∈ Ts)
    (hA : ∀ k, k < nn_sh.length → A (ad k)) (hA2 : ∀ q, s.heap.size ≤ q → A q) {mn lv x9 : Nat} {mr : ab_MR} (hmr : nn_MT[mn]? = some mr) (hob : mr.2.2.2.2.2.1 = true) (hlk : ab_mlk nn_MT Ts nn_NW own (x9, 0, mn)) (hplain : Jvm.Cond.methodLink own x9 mr.1 ∈ Ts) {sp : fx_SP} (hq : fx_H l cy ad wr cr D mn lv sp) (hR : lv + 11 ≤ R.frames ∧ 40 * lv + 300 ≤ R.locals)
    {k9 ci9 : Nat} {fs9 : List (Nat × Nat)} {T9 : u_T} {N9 : Nat} (r2 : nn_sh[k9]? = some (.inl (ci9, fs9))) (r3 : vwCl[ci9]? = some (mr.1.cls, T9, N9))
    {xs rest : List ab_AV} (hn9 : xs.length = mr.2.2.2.2.1) (hc8 : ab_cat rest ≤ 8) (hl21 : mr.2.2.1 ≤ 21) (hdg : decode cc pc = .ok (.invokevirtual x9, 3)) {σ : ab_SG} (hlz : ls.size = nL) (hS : fw_okS ad wr cr (xs.reverse ++ (2, k9, 0) :: rest) st) (hP : va_P D vwCl (ab_WD cy ad wr nn_sh σ) H) (hSS : va_S A s.heap H locs) {K : fw_KR} {E : fx_KE} (hsp : sp ((2, k9, 0) :: xs) σ K E)
    (kk : ∀ (rv : Option ab_AV) (σ' : ab_SG) (H1 : Heap) (locs1 : List Loc) (st1 : List Value), K rv σ' → va_P D vwCl (ab_WD cy ad wr nn_sh σ') H1 → va_S A s.heap H1 locs1 → fw_okS ad wr cr (rv.toList ++ rest) st1 → W p l e R s m args below meth c H1 locs1 (cells + 1) (slots + 6) Q (F0 m (pc + 3) ls st1))
    (kx : ∀ (σ' : ab_SG) (H1 : Heap) (locs1 : List Loc) (st1 : List Value) (q9 : Addr) (ce : Cell), E σ' → va_P D vwCl (ab_WD cy ad wr nn_sh σ') H1 → va_S A s.heap H1 locs1 → H1[q9]? = some ce → ce.vm = .none → s.vm.findClass nx_N = some ce.cls → vx_W p l e R s m args below meth c H1 locs1 (cells + 1) (slots + 6) Q (F0 m pc ls st1) q9) :
    W p l e R s m args below meth c H locs cells slots Q (F0 m pc ls st) := by
  obtain ⟨c1, c2, c3, c4, c5, -, -⟩ := hlk mr hmr
  obtain ⟨d1, d2⟩ := c5 hob
  have hM := hq mr hmr _ σ H.size K E hsp
  have has : ((2, k9, 0) :: xs).map (ab_V ad wr cr fw_z) = .ref (ad k9) :: xs.map (ab_V ad wr cr fw_z) := rfl
  rw [has] at hM
  have hst : st = (xs.map (ab_V ad wr cr fw_z)).reverse ++ .ref (ad k9) :: rest.map (ab_V ad wr cr fw_z) := by
    have h9 : st = (xs.reverse ++ (2, k9, 0) :: rest).map (ab_V ad wr cr fw_z) := hS
    rw [h9, List.map_append, List.map_reverse]
    rfl
  have hws : ∀ w ∈ (Jvm.Cond.code mr.1 mr.2.1 mr.2.2.1 mr.2.2.2.1 :: nn_TT), ∀ (a' : Array Value) (U : State), s.WarmedH U.vm → w.before a' U = true := by
    intro w hw a' U hW
    rcases List.mem_cons.mp hw with rfl | hw
    · exact word_at hW (good_of_word (nn_MT_code mr (List.mem_of_getElem? hmr))) (hts _ c1)
    · exact word_at hW (good_of_word (nn_TT_good w hw)) (hts _ (hTT w hw))
  have hfree : ∀ q, ab_A ad nn_sh.length H.size q → A q := by
    rintro q (⟨k, hk, rfl⟩ | hk)
    · exact hA k hk
    · exact hA2 q (Nat.le_trans hSS.1 hk)
  have hkeep : ∀ U : State, U.heap = H → ∀ a : Nat, a < s.heap.size → ¬ A a → U.heap[a]? = s.heap[a]? := fun U hU a ha hna => by rw [hU, hSS.2.1 a ha hna]
  have hpre : ∀ U : State, U.heap = H → s.WarmedH U.vm → fx_PC cy ad wr cr D σ (.ref (ad k9) :: xs.map (ab_V ad wr cr fw_z)) H.size (.ref (ad k9) :: xs.map (ab_V ad wr cr fw_z)).toArray U := fun U hU hW =>
    ⟨rfl, by rw [hU], by rw [hU]; exact hP, va_K.moved hW.alike hKK, ab_okN_moved hW hN, fw_CB_go hCB hW (hkeep U hU) hfree, nx_Z_go hZ hW (hkeep U hU) hfree⟩
  have hsig : ∀ sig, parseMethodDescriptor mr.1.desc = some sig → mr.2.2.2.2.1 = sig.parameters.length := fun sig hsg => by
    rw [hsg] at c4
    exact (Option.some.inj c4).symm
  have hfr : (nx_room lv).frames + 1 ≤ R.frames := by
    have := hR.1
    show lv + 10 + 1 ≤ _
    omega
  have hlo : 8 + (mr.2.2.1 + 11) + (nx_room lv).locals ≤ R.locals := by
    have := hR.2
    show 8 + (mr.2.2.1 + 11) + (40 * lv + 200) ≤ _
    omega
  have hA3 : ∀ q, q < H.size → ab_A ad nn_sh.length H.size q → A q := by
    rintro q hq (⟨k, hk, rfl⟩ | hk)
    · exact hA k hk
    · exact absurd hq (Nat.not_lt.mpr hk)
  have hroom : 2 * (F0 m pc ls st).monitorRoom + ((rest.map (ab_V ad wr cr fw_z)).map fun v => v.category).sum ≤ 8 := lv_room (rest := st) (by rw [← ab_catS]; exact hc8)
  have hrecv := va_recv hKK hP r3 (ab_cell_f (σ := σ) (cy := cy) (ad := ad) (wr := wr) r2)
  have hrun := vx_runV (meth := meth) (below := below) (e := e) (As := xs.map (ab_V ad wr cr fw_z)) (rest := rest.map (ab_V ad wr cr fw_z)) (cells := cells) (slots := slots) (locs := locs) ⟨hx, hb, hml, hown, hts⟩ hM ⟨⟨rfl, rfl, hfr, hlo, hws, List.mem_cons_self, hts _ c1, hts _ c2, c3, hsig, hts _ hplain⟩, hts _ d1, hts _ d2⟩ ⟨fx_PC_blind, hrecv, hpre⟩ (g := F0 m pc ls st) rfl (by rw [List.length_map]; exact hn9) hlz hst hroom hdg hcs
  intro T9 hT X
  rcases hrun T9 hT X with ⟨v, st₀, t, T', L, h0, X', hL, e1, e2, ⟨⟨rv, σ', hv, hK2, hP2⟩, hF⟩, stp⟩ | ⟨q, st₀, t, T', L, E9, ce, h0, X', hL, e1, e2, ⟨hE, ⟨σ', hE2, hP2⟩, hF⟩, hce, hcv, hcl, stp⟩
  · cases hv
    obtain ⟨k1, k2, k3⟩ := vx_keep h0 e1 hSS hA3 hfree hL hF
    obtain ⟨t2, a1, b1⟩ := kk rv σ' T'.heap (locs ++ L) _ hK2 (by rw [e1]; exact hP2) k3 (fw_toList (S9 := rest) rfl) T' rfl X'
    exact ⟨t2, stp t2 a1, b1⟩
  · obtain ⟨k1, k2, k3⟩ := vx_keep h0 e1 hSS hA3 hfree hL hF
    subst hE
    obtain ⟨t2, a1, b1⟩ := kx σ' T'.heap (locs ++ L) _ q ce hE2 (by rw [e1]; exact hP2) k3 (by rw [e1]; exact hce) hcv hcl T' rfl X'
    exact ⟨t2, stp.trans a1, b1⟩
end
/-- a helper, over known numbers -/
def fx_HH (l : Launch) (cy : Nat → ClassId) (ad wr cr : Nat → Nat) (D : va_G) (y : MethodName) (cc : ByteArray) (nL : Nat) (hh : List (Nat × Nat × Nat × Nat)) (lev : Nat) (sp : fw_SP) : Prop :=
  ∀ (as : List ab_AV) (σ : ab_SG) (sz : Nat) (K : fw_KR), sp as σ K →
    vx_Met l y (Jvm.Cond.codeWith y cc nL (some .int) hh :: nn_TT) (nq_room lev) (fx_PC cy ad wr cr D σ (as.map (ab_V ad wr cr fw_z)) sz) (fw_QC cy ad wr cr D vwCl nn_sh K (ab_A ad nn_sh.length sz)) (fun _ _ _ => False) 1 6 (ab_A ad nn_sh.length sz)
set_option maxHeartbeats 4000000 in
theorem fx_help {l : Launch} {cy : Nat → ClassId} {ad wr cr : Nat → Nat} {D : va_G} {y : MethodName} {cc : ByteArray} {nL lev pcV x9 hp hq k mn lv : Nat} {mr : ab_MR} {e0 e1 : Nat} {dt : ab_DT} {sp : fx_SP} {spH : fw_SP} {ci9 : Nat} {fs9 : List (Nat × Nat)} {T9 : u_T} {N9 : Nat}
    (hinj : nn_inj ad) (hy : plainName y.cls = true) (hyc : y.cls = "NameNotesLaw") (hmr : nn_MT[mn]? = some mr) (hob : mr.2.2.2.2.2.1 = true) (hlk : ab_mlk nn_MT nn_TT nn_NW "NameNotesLaw" (x9, 0, mn)) (hplain : Jvm.Cond.methodLink "NameNotesLaw" x9 mr.1 ∈ nn_TT) (hxl : Jvm.Cond.classLink "NameNotesLaw" 13 nx_N ∈ nn_TT) (hH : fx_H l cy ad wr cr D mn lv sp) (hlev : lv ≤ lev)
    (r2 : nn_sh[0]? = some (.inl (ci9, fs9))) (r3 : vwCl[ci9]? = some (mr.1.cls, T9, N9)) (hl21 : mr.2.2.1 ≤ 21) (hdt : ab_dtok cc dt = true)
    (hdV : decode cc pcV = .ok (.invokevirtual x9, 3)) (hcov : (e0 ≤ pcV ∧ pcV < e1))
    (hdA : (∃ k4 : Fin 4, (k4 : Nat) = k ∧ decode cc hp = .ok (.astore_n k4, 1) ∧ hq = hp + 1) ∨ (decode cc hp = .ok (.astore k, 2) ∧ hq = hp + 2)) (hk : k < nL)
    (hgo : ∀ (as : List ab_AV) (σ : ab_SG) (K : fw_KR), spH as σ K → (ab_cat as).ble nL = true ∧ ∃ (xs : List ab_AV) (K1 : fw_KR) (E1 : fx_KE), xs.length = mr.2.2.2.2.1 ∧ sp ((2, 0, 0) :: xs) σ K1 E1 ∧
      ∀ G : fw_K, fw_cls (fw_st vwCl nn_sh nn_kd fw_kv fw_wc [] [] [] [] [] 0 dt nL 0) K G →
        (G pcV (fw_en nL as) (xs.reverse ++ [(2, 0, 0), (0, 0, 0), (2, 122, 0)]) σ → G 0 (fw_en nL as) [] σ) ∧ (∀ (rv : Option ab_AV) (σ' : ab_SG), K1 rv σ' → G (pcV + 3) (fw_en nL as) (rv.toList ++ [(0, 0, 0), (2, 122, 0)]) σ') ∧ ∀ σ' : ab_SG, E1 σ' → G hq [] [] σ') :
    fx_HH l cy ad wr cr D y cc nL [(e0, e1, hp, 13)] lev spH := by
  intro as σ sz K hsp
  obtain ⟨hfit, xs, K1, E1, hxs, hsp1, hgo⟩ := hgo as σ K hsp
  refine vx_ofWH (cc := cc) (maxL := nL) (ret := some .int) (hh := [(e0, e1, hp, 13)]) hy rfl ?_
  intro p e s m args below meth c s₁ B hml hv
  obtain ⟨rfl, hsz, hP, hKK, hN, hCB, hZ⟩ := hv
  subst hsz
  have hts := atoms_spec (ws := Jvm.Cond.codeWith y cc nL (some .int) [(e0, e1, hp, 13)] :: nn_TT) B.pre
  have hown2 : s.vm.findClass "NameNotesLaw" = some m.cls := by rw [← hyc]; exact findClass_of_methodNamed B.named
  have hA : ∀ k, k < nn_sh.length → ab_A ad nn_sh.length s.heap.size (ad k) := fun k hk => Or.inl ⟨k, hk, rfl⟩
  have hsub : ∀ w ∈ nn_TT, w ∈ (Jvm.Cond.codeWith y cc nL (some .int) [(e0, e1, hp, 13)] :: nn_TT) := fun w hw => List.mem_cons_of_mem _ hw
  have htab : c.exceptionTable.toList = tableOf [(e0, e1, hp, 13)] := vx_table (x := y) B (hts _ List.mem_cons_self)
  have hE : fw_Ev p l s m (as.map (ab_V ad wr cr fw_z)).toArray meth c cc nL 0 0 (headSpec (Jvm.Cond.codeWith y cc nL (some .int) [(e0, e1, hp, 13)] :: nn_TT) (nq_room lev)).room cy ad wr cr D vwCl nn_sh "NameNotesLaw" (ab_A ad nn_sh.length s.heap.size) (Jvm.Cond.codeWith y cc nL (some .int) [(e0, e1, hp, 13)] :: nn_TT) nn_TT nn_NW nn_MT [] [] [] nn_kd fw_kv fw_wc [] [] dt (some .int) :=
    ⟨B.exec, B.bytes, hml, hown2, hts, hKK, hN, fun w hw => ⟨hsub w hw, nn_TT_good w hw⟩, nn_MT_code, hA, fun q hq => Or.inr hq, (fun q hq => absurd hq List.not_mem_nil), ⟨Nat.zero_le _, Nat.zero_le _⟩, (fun q hq => absurd hq List.not_mem_nil), (fun q hq => absurd hq List.not_mem_nil), (fun q hq => absurd hq List.not_mem_nil), ab_WD_D hinj hA, hCB, (fun q hq => absurd hq List.not_mem_nil), hdt, B.returns, nn_rk_ok (rk := 0) (ret := some .int) (by decide), B.notSynchronized⟩
  have hRT : ∀ (pc : Nat) (i : Instr) (len : Nat) (S : List ab_AV) (σ : ab_SG) (H : Heap) (locs : List Loc) (ls : Array Slot) (st : List Value), fw_rt 0 i len S (fun rv => K rv σ) → decode cc pc = .ok (i, len) → fw_okS ad wr cr S st → va_P D vwCl (ab_WD cy ad wr nn_sh σ) H → va_S (ab_A ad nn_sh.length s.heap.size) s.heap H locs →
      W p l e (headSpec (Jvm.Cond.codeWith y cc nL (some .int) [(e0, e1, hp, 13)] :: nn_TT) (nq_room lev)).room s m (as.map (ab_V ad wr cr fw_z)).toArray below meth c H locs 1 6 (vx_MQ below (fw_QC cy ad wr cr D vwCl nn_sh K (ab_A ad nn_sh.length s.heap.size)) (fun _ _ _ => False) (as.map (ab_V ad wr cr fw_z)).toArray s 1 6 (ab_A ad nn_sh.length s.heap.size)) (F0 m pc ls st) :=
    fun pc i len S σ H locs ls st h hd hS hP hSS => vx_ret (fx_rt_ok B.exec B.bytes B.returns (nn_rk_ok (rk := 0) (ret := some .int) (by decide)) B.notSynchronized h hd hS hP hSS)
  have G0 := (hgo _ (fx_st_ok (cells := 0) (slots := 0) hE ⟨Nat.zero_le _, Nat.zero_le _⟩ (fun pc i len S σ H locs ls st h hd hS hP hSS => W.widen (k := 1) (n := 6) (by decide) (by decide) (hRT pc i len S σ H locs ls st h hd hS hP hSS)))).1
  have G1 := (hgo _ (fx_st_ok (cells := 1) (slots := 6) hE ⟨Nat.le_refl _, Nat.le_refl _⟩ hRT)).2
  have hR : lv + 11 ≤ (headSpec (Jvm.Cond.codeWith y cc nL (some .int) [(e0, e1, hp, 13)] :: nn_TT) (nq_room lev)).room.frames ∧ 40 * lv + 300 ≤ (headSpec (Jvm.Cond.codeWith y cc nL (some .int) [(e0, e1, hp, 13)] :: nn_TT) (nq_room lev)).room.locals := by
    refine ⟨?_, ?_⟩
    · show lv + 11 ≤ lev + 11; omega
    · show 40 * lv + 300 ≤ 40 * lev + 300; omega
  have hl := lv_entry (as.map (ab_V ad wr cr fw_z)) (n := nL) (ab_fit_len hfit)
  rw [lg_entry_eq]
  generalize (lg_sl (as.map (ab_V ad wr cr fw_z)) ++ List.replicate (nL - (lg_sl (as.map (ab_V ad wr cr fw_z))).length) Slot.unset).toArray = ls at hl ⊢
  refine G0 ?_ s.heap [] ls [] ⟨hl.1, hl.2.1, fun j b hb => by
    have := hl.2.2 _ (fw_en_ok (ad := ad) (wr := wr) (cr := cr) as nL 0 j b hb)
    rw [Nat.zero_add] at this
    exact this⟩ rfl hP va_S.rf
  intro H locs ls st hL hS hP hSS
  refine fx_cl (own := "NameNotesLaw") (cells := 0) (slots := 0) (nL := nL) (Ts := Jvm.Cond.codeWith y cc nL (some .int) [(e0, e1, hp, 13)] :: nn_TT) (rest := [(0, 0, 0), (2, 122, 0)]) ⟨Nat.le_refl _, Nat.le_refl _⟩ B.exec B.bytes hml hown2 hts hKK hN hCB hZ hsub hA (fun q hq => Or.inr hq) hmr hob (ab_mlk_mono hlk hsub) (hsub _ hplain) hH hR r2 r3 hxs (by decide) hl21 hdV hL.1 hS hP hSS hsp1 ?_ ?_
  · intro rv σ' H1 locs1 st1 hK hP1 hSS1 hS1
    exact G1.1 rv σ' hK H1 locs1 ls st1 hL hS1 hP1 hSS1
  · intro σ' H1 locs1 st1 q9 ce hE1 hP1 hSS1 hc1 hc2 hc3
    refine vx_catch (own := "NameNotesLaw") (name := nx_N) (E := nx_N) (ce := ce) hown2 [] ⟨e0, e1, hp, 13⟩ [] htab (fun z hz => absurd hz List.not_mem_nil) ?_ (show (13 : Nat) ≠ 0 by decide) (hts _ (hsub _ hxl)) (nq_cast hc3) hc1 hc2 hc3 ?_
    · simp only [covers, Bool.and_eq_true, decide_eq_true_eq]
      exact hcov
    · have hG2 : ∀ ls2 : Array Slot, lv_has ls2 nL ((k, Value.ref q9) :: ([] : List (Nat × Value)).filter (fun q => !(q.1 == k) && !(q.1 + 1 == k && q.2.category == 2))) → W p l e (headSpec (Jvm.Cond.codeWith y cc nL (some .int) [(e0, e1, hp, 13)] :: nn_TT) (nq_room lev)).room s m (as.map (ab_V ad wr cr fw_z)).toArray below meth c H1 locs1 1 6 (vx_MQ below (fw_QC cy ad wr cr D vwCl nn_sh K (ab_A ad nn_sh.length s.heap.size)) (fun _ _ _ => False) (as.map (ab_V ad wr cr fw_z)).toArray s 1 6 (ab_A ad nn_sh.length s.heap.size)) (F0 m hq ls2 []) := by
        intro ls2 hl2
        exact G1.2 σ' hE1 H1 locs1 ls2 [] ⟨hl2.1, hl2.2.1, fun j b hb => by cases hb⟩ rfl hP1 hSS1
      have hL1 : lv_has ls nL [] := ⟨hL.1, hL.2.1, fun q hq => absurd hq List.not_mem_nil⟩
      rcases hdA with ⟨k4, rfl, hd, rfl⟩ | ⟨hd, rfl⟩
      · exact lv_astore_n B.exec B.bytes hd rfl hL1 hk rfl hG2
      · exact lv_astore B.exec B.bytes hd hL1 hk rfl hG2
end
section
/-! the law's helper by two contracts at once; what its call leaves -/
theorem dbx_both {l : Launch} {y : MethodName} {ws : List Jvm.Cond} {rm : Room} {Pc : Array Value → State → Prop} {Q1 Q2 : Array Value → State → Outcome → State → Prop} {mc ms : Nat} {free : Addr → Prop}
    (h1 : vx_Met l y ws rm Pc Q1 (fun _ _ _ => False) mc ms free) (h2 : vx_Met l y ws rm Pc Q2 (fun _ _ _ => False) mc ms free) : vx_Met l y ws rm Pc (fun a s o t => Q1 a s o t ∧ Q2 a s o t) (fun _ _ _ => False) mc ms free := by
  intro p e hadm hfc hfk s m args below hfr happ hP hK
  obtain ⟨n1, o1, w1, r1, e1, d1⟩ := h1 p e hadm hfc hfk s m args below hfr happ hP hK
  obtain ⟨n2, o2, w2, r2, e2, d2⟩ := h2 p e hadm hfc hfk s m args below hfr happ hP hK
  have hn : n1 = n2 := by
    rcases Nat.lt_trichotomy n1 n2 with h | h | h
    · exact absurd (w2 n1 h) (Ended.not_within e1)
    · exact h
    · exact absurd (w1 n2 h) (Ended.not_within e2)
  subst hn
  have ho := Ended.outcome_unique e1 e2
  subst ho
  refine ⟨n1, o1, w1, r1, e1, ?_⟩
  rcases d1 with ⟨q1, L1⟩ | ⟨q, -, E, ce, L, x, -⟩
  · rcases d2 with ⟨q2, -⟩ | ⟨q, -, E, ce, L, x, -⟩
    · exact Or.inl ⟨⟨q1, q2⟩, L1⟩
    · exact x.elim
  · exact x.elim
theorem dbx_pre {l : Launch} {y : MethodName} {ws : List Jvm.Cond} {rm : Room} {Pc Pc' : Array Value → State → Prop} {Q1 : Array Value → State → Outcome → State → Prop} {XC : String → State → State → Prop} {mc ms : Nat} {free : Addr → Prop}
    (hp : ∀ a s, Pc' a s → Pc a s) (h : vx_Met l y ws rm Pc Q1 XC mc ms free) : vx_Met l y ws rm Pc' Q1 XC mc ms free := fun p e h1 h2 h3 s m args below hfr happ hP hK => h p e h1 h2 h3 s m args below hfr happ (hp _ _ hP) hK
theorem dbx_PC {cy : Nat → ClassId} {ad wr cr : Nat → Nat} {D : va_G} {σ : ab_SG} {av : List Value} {sz : Nat} {a : Array Value} {U : State} (h : fx_PC cy ad wr cr D σ av sz a U) : nx_PC cy ad wr cr D σ av sz a U := by
  obtain ⟨h1, h2, h3, h4, h5, h6, h7⟩ := h
  exact ⟨h1, h2, h3, h4, h5, h6.1, h7⟩
section
variable {p : Program} {l : Launch} {e : Env} {R : Room} {s : State} {m : MethodId} {args : Array Value} {below : List Frame} {meth : Method} {c : Code} {H : Heap} {locs : List Loc} {cells slots : Nat} {Q : State → Prop} {cc : ByteArray} {pc : Nat} {ls : Array Slot} {st : List Value}
variable {ad wr cr : Nat → Nat} {cy : Nat → ClassId} {nL n0 : Nat} {σ0 : ab_SG} {ρ0 : Nat → Int} {own : String} {D : va_G} {A : Nat → Prop} {H0 : Heap} {Ts : List Jvm.Cond}
set_option maxHeartbeats 4000000 in
theorem fx_lcl (hcs : cells + 1 ≤ R.cells ∧ slots + 6 ≤ R.slots) (hx : p.tables.exec = Jvm.exec) (hb : c.code = cc) (hml : c.maxLocals = nL) (hown : s.vm.findClass own = some m.cls) (hts : ∀ w ∈ Ts, w.before args s = true) (hKK : va_K D vwCl (ab_tys cy) s) (hN : ab_okN nn_NW s) (hCB : fw_CB cy ad wr cr nn_kd fw_kv fw_wc A s) (hZ : nx_Z A s) (hH0 : H0 = s.heap) (hTT : ∀ w ∈ nn_TT, w ∈ Ts)
    (hA : ∀ k, k < nn_sh.length → A (ad k)) (hA2 : ∀ q, H0.size ≤ q → A q) {x9 : Nat} {y : MethodName} {cb : ByteArray} {nL' lev na : Nat} {hh : List (Nat × Nat × Nat × Nat)} {ct : ab_CN} (hq : nq_H l cy ad wr cr D y cb nL' hh lev ct) {spH : fw_SP} (hf : fx_HH l cy ad wr cr D y cb nL' hh lev spH)
    (w1 : Jvm.Cond.codeWith y cb nL' (some .int) hh ∈ nn_TT) (w2 : Jvm.Cond.initialized y.cls ∈ nn_TT) (w3 : y.cls ≠ "java/lang/invoke/MethodHandle" ∧ y.cls ≠ "java/lang/invoke/VarHandle") (w4 : (parseMethodDescriptor y.desc).map (fun d => d.parameters.length) = some na) (w5 : Jvm.Cond.methodLink own x9 y ∈ nn_TT) (w6 : Jvm.Cond.static y ∈ nn_TT) (hR : lev + 12 ≤ R.frames ∧ 40 * lev + 340 ≤ R.locals)
    {L : ab_LS} {S as rest : List ab_AV} {B : ab_BD} {F : ab_FT} {Dl : ab_DL} {M : ab_ML} (hS0 : S = as.reverse ++ rest) (hlen : as.length = na) (hc8 : ab_cat rest ≤ 8) (hl21 : nL' ≤ 21)
    {ls9 : List ab_AS} (htr : ab_tr1 nn_T (0, lev, ct) (lev + 1) 0 as rest L B F Dl M = some ls9)
    (hdg : decode cc pc = .ok (.invokestatic x9, 3)) {ρ : Nat → Int} {σ : ab_SG} (hG : ab_Gm cy ad wr cr D vwCl nn_sh nn_T nn_C nL n0 ρ0 σ0 A H0 (L, S, B, F, Dl, M) ρ σ H locs ls st) {K : fw_KR} (hsp : spH (as.map (fw_of ρ)) σ K)
    (kk : ∀ x ∈ ls9, ∀ (ρ2 : Nat → Int) (σ2 σf : ab_SG) (rv : Option ab_AV) (H1 : Heap) (locs1 : List Loc) (st1 vr : List Value), (∀ i, i < B.length → ρ2 i = ρ i) → ab_Gm cy ad wr cr D vwCl nn_sh nn_T nn_C nL n0 ρ0 σ0 A H0 x ρ2 σ2 H1 locs1 ls st1 → K rv σf → va_P D vwCl (ab_WD cy ad wr nn_sh σf) H1 → st1 = (rv.map (ab_V ad wr cr fw_z)).toList ++ vr → W p l e R s m args below meth c H1 locs1 (cells + 1) (slots + 6) Q (F0 m (pc + 3) ls st1)) :
    W p l e R s m args below meth c H locs cells slots Q (F0 m pc ls st) := by
  obtain ⟨ρq, vr, vK, vsy, vst, vcat, vlen, vend, -⟩ := nx_tr (osX := ct.2.2.2.2) htr htr hS0 hG
  have hP : va_P D vwCl (ab_WD cy ad wr nn_sh σ) H := hG.2.2.2.2.2.1
  have hSS : va_S A H0 H locs := hG.2.2.2.2.2.2
  have hst : st = (ct.1.map (ab_V ad wr cr ρq)).reverse ++ vr := vst
  have has : (as.map (fw_of ρ)).map (ab_V ad wr cr fw_z) = ct.1.map (ab_V ad wr cr ρq) := by
    have h1 : st = S.map (ab_V ad wr cr ρ) := hG.2.2.2.2.1.1
    rw [hS0, List.map_append, List.map_reverse] at h1
    have h2 : (as.map (ab_V ad wr cr ρ)).reverse ++ rest.map (ab_V ad wr cr ρ) = (ct.1.map (ab_V ad wr cr ρq)).reverse ++ vr := h1.symm.trans vst
    have h3 := (List.append_inj h2 (by rw [List.length_reverse, List.length_map, List.length_reverse, List.length_map]; exact vlen.symm)).1
    have h4 := List.reverse_inj.mp h3
    rw [List.map_map, ← h4]
    exact List.map_congr_left (fun a _ => fw_of_V a)
  have hM2 := hf (as.map (fw_of ρ)) σ H.size K hsp
  rw [has] at hM2
  have hM := dbx_both (dbx_pre (fun _ _ h => dbx_PC h) (hq ρq σ H.size vK vsy)) hM2
  have hws : ∀ w ∈ (Jvm.Cond.codeWith y cb nL' (some .int) hh :: nn_TT), ∀ (a' : Array Value) (U : State), s.WarmedH U.vm → w.before a' U = true := by
    intro w hw a' U hW
    rcases List.mem_cons.mp hw with rfl | hw
    · exact word_at hW (good_of_word (nn_TT_good _ w1)) (hts _ (hTT _ w1))
    · exact word_at hW (good_of_word (nn_TT_good w hw)) (hts _ (hTT w hw))
  have hfree : ∀ q, ab_A ad nn_sh.length H.size q → A q := by
    rintro q (⟨k, hk, rfl⟩ | hk)
    · exact hA k hk
    · exact hA2 q (Nat.le_trans hSS.1 hk)
  have hkeep : ∀ U : State, U.heap = H → ∀ a : Nat, a < s.heap.size → ¬ A a → U.heap[a]? = s.heap[a]? := fun U hU a ha hna => by rw [hU, hSS.2.1 a (by rw [hH0]; exact ha) hna, hH0]
  have hpre : ∀ U : State, U.heap = H → s.WarmedH U.vm → fx_PC cy ad wr cr D σ (ct.1.map (ab_V ad wr cr ρq)) H.size (ct.1.map (ab_V ad wr cr ρq)).toArray U := fun U hU hW =>
    ⟨rfl, by rw [hU], by rw [hU]; exact hP, va_K.moved hW.alike hKK, ab_okN_moved hW hN, fw_CB_go hCB hW (hkeep U hU) hfree, nx_Z_go hZ hW (hkeep U hU) hfree⟩
  have hsig : ∀ sig, parseMethodDescriptor y.desc = some sig → na = sig.parameters.length := fun sig hsg => by
    rw [hsg] at w4
    exact (Option.some.inj w4).symm
  have hfr : (nq_room lev).frames + 1 ≤ R.frames := hR.1
  have hlo : 8 + (nL' + 11) + (nq_room lev).locals ≤ R.locals := by
    exact Nat.le_trans (nq_lo hl21) hR.2
  have hA3 : ∀ q, q < H.size → ab_A ad nn_sh.length H.size q → A q := by
    rintro q hq (⟨k, hk, rfl⟩ | hk)
    · exact hA k hk
    · exact absurd hq (Nat.not_lt.mpr hk)
  have hroom : 2 * (F0 m pc ls st).monitorRoom + (vr.map fun v => v.category).sum ≤ 8 := lv_room (rest := st) (by rw [vcat]; exact hc8)
  have hrun := vx_runSX (meth := meth) (below := below) (e := e) (As := ct.1.map (ab_V ad wr cr ρq)) (rest := vr) (cells := cells) (slots := slots) (locs := locs) ⟨hx, hb, hml, hown, hts⟩ hM ⟨⟨rfl, rfl, hfr, hlo, hws, List.mem_cons_self⟩, hts _ (hTT _ w1), hts _ (hTT _ w2), w3, hsig, hts _ (hTT _ w5), hts _ (hTT _ w6)⟩ ⟨fx_PC_blind, hpre⟩ (g := F0 m pc ls st) rfl (by rw [List.length_map, vlen]; exact hlen) hG.2.2.2.1.1.1 hst hroom hdg hcs
  intro T9 hT X
  rcases hrun T9 hT X with ⟨v, st₀, t, T', L2, h0, X', hL, e1, e2, ⟨⟨⟨rv, o, hv, ho, hps⟩, hF⟩, ⟨rv2, σf, hv2, hK2, hP2⟩, -⟩, stp⟩ | ⟨q, st₀, t, T', L2, E, ce, h0, X', hL, e1, e2, hXC, -⟩
  · cases hv
    obtain ⟨k1, k2, k3⟩ := vx_keep h0 e1 hSS hA3 hfree hL hF
    obtain ⟨x, hx9, ρ2, σ2, g1, g2⟩ := vend v o T'.heap (locs ++ L2) ho (by rw [e1]; exact hps) k3
    have hv3 : v = rv2.map (ab_V ad wr cr fw_z) := by
      injection hv2
    obtain ⟨t2, a1, b1⟩ := kk x hx9 ρ2 σ2 σf rv2 T'.heap (locs ++ L2) _ vr g1 g2 hK2 (by rw [e1]; exact hP2) (by rw [hv3]) T' rfl X'
    exact ⟨t2, stp t2 a1, b1⟩
  · exact hXC.elim
end
/-- what is owed of a helper -/
def tH_K (M : ab_ML) (σ : ab_SG) (K : fw_KR) (v : Option Int) : Prop := (∀ x : Int, v = some x → (0 ≤ x ∧ x ≤ 976299632280) → ∀ σ' : ab_SG, ab_okM M σ σ' → K (some (0, 0, 0)) (ab_ups σ' 122 0 x)) ∧ (v = none → ∀ σ' : ab_SG, ab_okM M σ σ' → K (some (0, 0, 1)) σ')
/-- what it answers -/
def tH_R (M : ab_ML) (σ : ab_SG) (v : Option Int) : fw_KR := fun rv σ' => ab_okM ((122, 0) :: M) σ σ' ∧ ((∃ x : Int, v = some x ∧ (0 ≤ x ∧ x ≤ 976299632280) ∧ rv = some (0, 0, 0) ∧ σ' 122 0 = x) ∨ (v = none ∧ rv = some (0, 0, 1)))
theorem tH_in {M : ab_ML} {σ σ' : ab_SG} (h : ab_okM M σ σ') : ab_okM ((122, 0) :: M) σ σ' := fun a b q => h a b (fun r hr => q r (List.mem_cons_of_mem _ hr))
theorem tH_KR {M : ab_ML} {σ : ab_SG} {v : Option Int} : tH_K M σ (tH_R M σ v) v := by
  refine ⟨fun x e b σ' h => ⟨fun a c q => ?_, Or.inl ⟨x, e, b, rfl, ab_ups_eq⟩⟩, fun e σ' h => ⟨tH_in h, Or.inr ⟨e, rfl⟩⟩⟩
  rw [ab_ups_ne (fun z => q (122, 0) List.mem_cons_self ⟨z.1.symm, Or.inl z.2.symm⟩)]
  exact tH_in h a c q
/-- what the reference answers -/
def tm_R (M : ab_ML) (σ : ab_SG) (v : Option Int) : fw_KR := fun rv σ' => ab_okM M σ σ' ∧ ((∃ x : Int, v = some x ∧ rv = some (1, 0, x) ∧ σ' 93 0 = 0) ∨ (v = none ∧ rv = some (1, 0, 0) ∧ σ' 93 0 = 1))
theorem tm_KR {M : ab_ML} {σ : ab_SG} {v : Option Int} : tm_K M σ (tm_R M σ v) v := fun σ' h => ⟨fun x e z => ⟨h, Or.inl ⟨x, e, rfl, z⟩⟩, fun e z => ⟨h, Or.inr ⟨e, rfl, z⟩⟩⟩
theorem vW_to {σ σ1 σm : ab_SG} (hc : cN σ) (h1 : ab_okM ((122, 0) :: oz_M) σ σ1) (hv : vW σm σ1) : vW σm σ := vW_free (by decide +kernel) h1 hv
theorem RQ_to {σ σ1 σm σ2 σ5 : ab_SG} (hc : cN σ) (hR : RQ σ) (h1 : ab_okM ((122, 0) :: oz_M) σ σ1) (hv : vW σm σ1) (h2 : ab_okM od_N σm σ2) (hw : vW σ5 σ2) : RQ σ5 :=
  ⟨RQ9_tr (vw_W hw) ⟨ra_two (cn_N hc) h1 (vw_W hv) h2 (by decide) (by decide) hR.1.1, rb_two (cn_N hc) h1 (vw_W hv) h2 (by decide) (by decide) hR.1.2.1, rk_two (cn_N hc) h1 (vw_W hv) h2 (by decide) (by decide) hR.1.2.2⟩, rx_two hc h1 hv h2 hw (by decide +kernel) (by decide +kernel) hR.2⟩
theorem to_out {cy : Nat → ClassId} {ad wr : Nat → Nat} {D : va_G} {σ σ' : ab_SG} {H : Heap} (hR : ab_okR nn_T σ) (h : va_P D vwCl (ab_WD cy ad wr nn_sh σ) H) (h' : va_P D vwCl (ab_WD cy ad wr nn_sh σ') H) {x : Int} (hx : σ' 122 0 = x) (b : 0 ≤ x ∧ x ≤ 976299632280) : σ 122 0 = x := by
  have e := wd_larr h h' (k := 122) (j := 0) (n := 1) rfl (by decide)
  have r := ab_rdT_ok (r := (-9223372036854775808, 9223372036854775807)) (k := 122) (a := 0) (b := 0) (j := 0) hR (by decide +kernel) (Nat.le_refl _) (Nat.le_refl _)
  rw [fw_d_id r.1 r.2, hx, fw_d_id (by omega) (by omega)] at e
  exact e
theorem to_thr {cy : Nat → ClassId} {ad wr : Nat → Nat} {D : va_G} {σ σ' : ab_SG} {H : Heap} (hR : ab_okR nn_T σ) (h : va_P D vwCl (ab_WD cy ad wr nn_sh σ) H) (h' : va_P D vwCl (ab_WD cy ad wr nn_sh σ') H) {x : Int} (hx : σ' 93 0 = x) (b : 0 ≤ x ∧ x ≤ 1) : σ 93 0 = x := by
  have e := wd_int h h' (k := 93) (j := 0) rfl rfl rfl (by decide)
  have r := ab_rdT_ok (r := (-2147483648, 2147483647)) (k := 93) (a := 0) (b := 0) (j := 0) hR (by decide +kernel) (Nat.le_refl _) (Nat.le_refl _)
  rw [fw_c_id r.1 r.2, hx, fw_c_id (by omega) (by omega)] at e
  exact e
theorem to_top {ad wr cr : Nat → Nat} {n : Nat} {ρ : Nat → Int} {S : List ab_AV} {st : List Value} (h : ab_okS ad wr cr n ρ S st) (h1 : S.length = 1) (h2 : S.all (fun a => a.1.beq 1) = true) : ∃ y : Int, st = [.long (Int64.ofInt y)] := by
  obtain ⟨e, -⟩ := h
  match S, h1, h2, e with
  | [a], _, h2, e =>
    obtain ⟨t, s, c⟩ := a
    rw [List.all_cons, Bool.and_eq_true] at h2
    have ht : t = 1 := Nat.eq_of_beq_eq_true h2.1
    subst ht
    exact ⟨ρ s + c, e⟩
end
section
/-! the law's helpers, over known numbers -/
def th_R (M : ab_ML) (σ : ab_SG) (v : Option Int) : fw_KR := fun rv σ' => ∃ x : Int, v = some x ∧ (0 ≤ x ∧ x ≤ 976299632280) ∧ rv = some (1, 0, x) ∧ ab_okM M σ σ'
def th_E (M : ab_ML) (σ : ab_SG) (v : Option Int) : fx_KE := fun σ' => v = none ∧ ab_okM M σ σ'
theorem th_KE {M : ab_ML} {σ : ab_SG} {v : Option Int} : th_K M σ (th_R M σ v) (th_E M σ v) v := ⟨fun x e b σ' h => ⟨x, e, b, rfl, h⟩, fun e σ' h => ⟨e, h⟩⟩
def sp_h_told : fw_SP := fun as σ K => ∃ (A : ab_SG) (w : Int), as = [(2, 0, 0), (0, 0, w), (2, 122, 0)] ∧ (fw_c w = w) ∧ NC σ A ∧ td_b σ A ∧ tH_K oz_M σ K (v_told A (td_ok σ) (σ 72 2) (σ 72 1) (σ 69 5) w)
abbrev st_h_told : fw_K → fw_KR → fw_K := fw_st vwCl nn_sh nn_kd fw_kv fw_wc [] [] [] [] [] 0 nq_dt_told 4 0
theorem fs_h_told_0 {G : fw_K} {R : fw_KR} (hG : fw_cls st_h_told R G) {w : Int} {σ : ab_SG} (h : G 4 [some (2, 0, 0), some (0, 0, w), some (2, 122, 0), none] [(0, 0, w), (2, 0, 0), (0, 0, 0), (2, 122, 0)] σ) : G 0 [some (2, 0, 0), some (0, 0, w), some (2, 122, 0), none] [] σ := fw_on hG [4, 7] 200 h
theorem fs_h_told_7 {G : fw_K} {R : fw_KR} (hG : fw_cls st_h_told R G) {w : Int} {x : Int} {σ : ab_SG} (h : (0 ≤ fw_c 0 ∧ fw_c 0 < ((1 : Nat) : Int)) ∧ True ∧ R (some (0, 0, 0)) (ab_ups σ 122 (fw_c 0).toNat (fw_d x))) : G 7 [some (2, 0, 0), some (0, 0, w), some (2, 122, 0), none] [(1, 0, x), (0, 0, 0), (2, 122, 0)] σ := fw_on hG [4, 7] 200 h
theorem fs_h_told_12 {G : fw_K} {R : fw_KR} (hG : fw_cls st_h_told R G) {σ : ab_SG} (h : R (some (0, 0, 1)) σ) : G 12 [] [] σ := fw_on hG [4, 7] 200 h
theorem fh_told {l : Launch} (htr : l.stackTraces = false) {cy : Nat → ClassId} {ad wr cr : Nat → Nat} {D : va_G} (hinj : nn_inj ad) : fx_HH l cy ad wr cr D ⟨"NameNotesLaw", "told", "(LNameNotes;I[J)I"⟩ method_11_code 4 [(0, 8, 11, 13)] 5 sp_h_told :=
  fx_help (mn := 201) (lv := 5) (mr := (⟨"NameNotes", "told", "(I)J"⟩, prog_1_method_49_code, 4, (Option.some Jvm.ClassFile.FieldType.long), 1, true, 2)) (dt := nq_dt_told) (pcV := 4) (x9 := 38) (hp := 11) (hq := 12) (k := 3) (e0 := 0) (e1 := 8)
    hinj (by decide +kernel) rfl rfl rfl (nn_PM0_ok (38, 0, 201) (by decide +kernel)) (nn_at_ok (i := 6230) (by decide +kernel)) nq_xl (fm_told htr hinj) (Nat.le_refl _) rfl rfl (by decide) nq_dt_told_ok (show decode method_11_code 4 = .ok (.invokevirtual 38, 3) by decide +kernel) ⟨by decide, by decide⟩ (Or.inl ⟨3, rfl, by decide +kernel, rfl⟩) (by decide) (fun as σ K h => by
    obtain ⟨A, w, rfl, hc, hN, hB, hK⟩ := h
    refine ⟨rfl, [(0, 0, w)], th_R oz_M σ (v_told A (td_ok σ) (σ 72 2) (σ 72 1) (σ 69 5) w), th_E oz_M σ (v_told A (td_ok σ) (σ 72 2) (σ 72 1) (σ 69 5) w), rfl, ⟨A, w, rfl, hc, hN, hB, th_KE⟩, fun G hG => ⟨fun h => fs_h_told_0 hG h, fun rv σ' h1 => ?_, fun σ' h1 => ?_⟩⟩
    · obtain ⟨x, e, b, rfl, hm⟩ := h1
      refine fs_h_told_7 hG ?_
      have c0 : fw_c 0 = 0 := fw_c_id (by decide) (by decide)
      have dx : fw_d x = x := fw_d_id (by omega) (by omega)
      rw [c0, dx]
      exact ⟨⟨by decide, by decide⟩, trivial, hK.1 x e b σ' hm⟩
    · obtain ⟨e, hm⟩ := h1
      exact fs_h_told_12 hG (hK.2 e σ' hm))
end
