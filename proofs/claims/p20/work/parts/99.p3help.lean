/-! the law's own helpers: they return 0, or 1 where the method threw -/
theorem nq_asg (vm : Vm) (c : ClassId) : vm.assignable c c = true := by
  show vm.assignableAux (255 + 1) c c = true
  rw [Vm.assignableAux]
  simp only [beq_self_eq_true, Bool.true_or]
theorem nq_cast {args : Array Value} {s : State} {E : String} {c : ClassId} (h : s.vm.findClass E = some c) : (Cond.castable E E).before args s = true := by
  simp only [Cond.before, Cond.holds, Cond.value, h, nq_asg]
  rfl
def nq_room (d : Nat) : Room := { frames := d + 11, cells := 1, slots := 6, locals := 40 * d + 300 }
/-- a helper: its name, code, locals, table, how deep what it calls, its contract -/
def nq_H (l : Launch) (cy : Nat → ClassId) (ad wr cr : Nat → Nat) (D : va_G) (y : MethodName) (cc : ByteArray) (nL : Nat) (hh : List (Nat × Nat × Nat × Nat)) (lev : Nat) (ct : ab_CN) : Prop :=
  ∀ (ρ : Nat → Int) (σ : ab_SG) (sz : Nat), ab_K nn_T nn_C σ ct.2.1 ct.2.2.1 ct.2.2.2.1 [] ρ σ → (∀ a ∈ ct.1, ab_sy ct.2.1.length a) →
    vx_Met l y (Jvm.Cond.codeWith y cc nL (some .int) hh :: nn_TT) (nq_room lev) (nx_PC cy ad wr cr D σ (ct.1.map (ab_V ad wr cr ρ)) sz) (ab_QC cy ad wr cr D vwCl nn_sh nn_T nn_C ct.2.1.length ρ σ ct.2.2.2.2 (ab_A ad nn_sh.length sz)) (fun _ _ _ => False) 1 6 (ab_A ad nn_sh.length sz)
def nq_nd (pc : Nat) (x : ab_AS) : ab_ND := (pc, x, ((0, [], []), (0, [], []), (0, [], [])))
/-- no local of the list is the k-th, nor a long below it -/
def nq_fr (k : Nat) (L : ab_LS) : Bool := L.all (fun q => !(q.1.beq k) && !((q.1 + 1).beq k && q.2.1.beq 1))
theorem nq_cat2 {ad wr cr : Nat → Nat} {ρ : Nat → Int} {a : ab_AV} (h : (ab_V ad wr cr ρ a).category = 2) : a.1 = 1 := by
  cases hc : a.1.beq 1 with
  | false =>
    rw [ab_V_cat1 hc] at h
    cases h
  | true => exact ab_beq hc
theorem nq_keep {ad wr cr : Nat → Nat} {ρ : Nat → Int} {k nL x : Nat} {L : ab_LS} {ls : Array Slot} (hf : nq_fr k L = true) (h : lv_has ls nL ((k, Value.ref x) :: (L.map (fun q => (q.1, ab_V ad wr cr ρ q.2))).filter (fun q => !(q.1 == k) && !(q.1 + 1 == k && q.2.category == 2)))) : lv_has ls nL (L.map (fun q => (q.1, ab_V ad wr cr ρ q.2))) := by
  refine ⟨h.1, h.2.1, fun q hq => h.2.2 q (List.mem_cons_of_mem _ (List.mem_filter.mpr ⟨hq, ?_⟩))⟩
  obtain ⟨z, hz, rfl⟩ := List.mem_map.mp hq
  have hb := List.all_eq_true.mp hf z hz
  rw [Bool.and_eq_true, Bool.not_eq_true', Bool.not_eq_true', Bool.and_eq_false_iff] at hb
  dsimp only
  rw [Bool.and_eq_true, Bool.not_eq_true', Bool.not_eq_true', Bool.and_eq_false_iff]
  refine ⟨?_, ?_⟩
  · exact beq_eq_false_iff_ne.mpr (Nat.ne_of_beq_eq_false hb.1)
  · rcases hb.2 with h2 | h2
    · exact Or.inl (beq_eq_false_iff_ne.mpr (Nat.ne_of_beq_eq_false h2))
    · refine Or.inr ?_
      rw [beq_eq_false_iff_ne]
      intro h3
      rw [nq_cat2 h3] at h2
      cases h2
set_option maxHeartbeats 4000000 in
/-- a helper's contract -/
theorem nq_hold {l : Launch} {cy : Nat → ClassId} {ad wr cr : Nat → Nat} {D : va_G} {y : MethodName} {cc : ByteArray} {nL lev pcV x9 hp hq k : Nat} {q : nx_Q4} {mr : ab_MR} {ct : ab_CN} {e0 e1 : Nat} {dt : ab_DT} {S as rest : List ab_AV} {X : ab_AS} {lsR lsX : List ab_AS}
    (hinj : nn_inj ad) (hy : plainName y.cls = true) (hyc : y.cls = "NameNotesLaw") (hmr : nn_MT[q.1]? = some mr) (hob : mr.2.2.2.2.2.1 = true) (hlk : ab_mlk nn_MT nn_TT nn_NW "NameNotesLaw" (x9, 0, q.1)) (hplain : Jvm.Cond.methodLink "NameNotesLaw" x9 mr.1 ∈ nn_TT) (hxl : Jvm.Cond.classLink "NameNotesLaw" 13 nx_N ∈ nn_TT) (hH : nx_H l cy ad wr cr D q) (hlev : q.2.1 ≤ lev)
    (hfit : (ab_cat ct.1).ble nL = true) (h1 : 1 ≤ ct.2.1.length) (hdt : ab_dtok cc dt = true)
    (hX : X.2.1 = as.reverse ++ rest) (hlen : as.length = mr.2.2.2.2.1 + 1) (hc8 : ab_cat rest ≤ 8) (hl21 : mr.2.2.1 ≤ 21)
    (htr : ab_tr1 nn_T (q.1, q.2.1, q.2.2.1) (q.2.1 + 1) q.1 as rest X.1 X.2.2.1 X.2.2.2.1 X.2.2.2.2.1 X.2.2.2.2.2 = some lsR) (htx : ab_tr1 nn_T (q.1, q.2.1, (q.2.2.1.1, q.2.2.1.2.1, q.2.2.1.2.2.1, q.2.2.1.2.2.2.1, q.2.2.2)) (q.2.1 + 1) q.1 as rest X.1 X.2.2.1 X.2.2.2.1 X.2.2.2.2.1 X.2.2.2.2.2 = some lsX)
    (hdV : decode cc pcV = .ok (.invokevirtual x9, 3)) (hcov : (e0 ≤ pcV ∧ pcV < e1))
    (hdA : (∃ k4 : Fin 4, (k4 : Nat) = k ∧ decode cc hp = .ok (.astore_n k4, 1) ∧ hq = hp + 1) ∨ (decode cc hp = .ok (.astore k, 2) ∧ hq = hp + 2)) (hk : k < nL) (hfr : lsX.all (fun x => nq_fr k x.1) = true)
    (hC1 : [nq_nd 0 (ab_en0 0 ct.1, [], ct.2.1, ct.2.2.1, ct.2.2.2.1, [])].all (ab_cn vwCl nn_T nn_C nn_sh nn_MT [] [] [] nn_kd [] [] [] 0 0 dt nL ct.2.1.length ct.2.2.2.2 0 [] [pcV] [] [nq_nd pcV X] [nq_nd 0 (ab_en0 0 ct.1, [], ct.2.1, ct.2.2.1, ct.2.2.2.1, [])] 40) = true)
    (hC2 : (lsR.map (nq_nd (pcV + 3))).all (ab_cn vwCl nn_T nn_C nn_sh nn_MT [] [] [] nn_kd [] [] [] 0 0 dt nL ct.2.1.length ct.2.2.2.2 0 [] [] [] [] (lsR.map (nq_nd (pcV + 3))) 40) = true)
    (hC3 : (lsX.map (fun x => nq_nd hq (x.1, [], x.2.2))).all (ab_cn vwCl nn_T nn_C nn_sh nn_MT [] [] [] nn_kd [] [] [] 0 0 dt nL ct.2.1.length ct.2.2.2.2 0 [] [] [] [] (lsX.map (fun x => nq_nd hq (x.1, [], x.2.2))) 40) = true) :
    nq_H l cy ad wr cr D y cc nL [(e0, e1, hp, 13)] lev ct := by
  intro ρ σ sz hK hsy
  refine vx_ofWH (cc := cc) (maxL := nL) (ret := some .int) (hh := [(e0, e1, hp, 13)]) hy rfl ?_
  intro p e s m args below meth c s₁ B hml hv
  obtain ⟨rfl, hsz, hP, hKK, hN, hCB, hZ⟩ := hv
  subst hsz
  have hts := atoms_spec (ws := Jvm.Cond.codeWith y cc nL (some .int) [(e0, e1, hp, 13)] :: nn_TT) B.pre
  have hown2 : s.vm.findClass "NameNotesLaw" = some m.cls := by rw [← hyc]; exact findClass_of_methodNamed B.named
  have hA : ∀ k, k < nn_sh.length → ab_A ad nn_sh.length s.heap.size (ad k) := fun k hk => Or.inl ⟨k, hk, rfl⟩
  have hsub : ∀ w ∈ nn_TT, w ∈ (Jvm.Cond.codeWith y cc nL (some .int) [(e0, e1, hp, 13)] :: nn_TT) := fun w hw => List.mem_cons_of_mem _ hw
  have htab : c.exceptionTable.toList = tableOf [(e0, e1, hp, 13)] := vx_table (x := y) B (hts _ List.mem_cons_self)
  have hEv : ∀ cells slots, cells ≤ 1 → slots ≤ 6 → ab_Ev p l s m (ct.1.map (ab_V ad wr cr ρ)).toArray meth c cc nL 0 (headSpec (Jvm.Cond.codeWith y cc nL (some .int) [(e0, e1, hp, 13)] :: nn_TT) (nq_room lev)).room cy ad wr cr D vwCl nn_sh nn_T nn_C "NameNotesLaw" (ab_A ad nn_sh.length s.heap.size) s.heap (Jvm.Cond.codeWith y cc nL (some .int) [(e0, e1, hp, 13)] :: nn_TT) nn_TT nn_NW nn_MT [] [] [] nn_kd [] [] [] 0 ct.2.1.length ρ cells slots dt σ := by
    intro cells slots g1 g2
    exact ⟨B.exec, B.bytes, hml, hown2, hts, hKK, hN, fun w hw => ⟨hsub w hw, nn_TT_good w hw⟩, nn_MT_code, hA, fun q hq => Or.inr hq, (fun q hq => absurd hq List.not_mem_nil), (fun q hq => absurd hq List.not_mem_nil), ⟨Nat.zero_le _, Nat.zero_le _⟩, (fun q hq => absurd hq List.not_mem_nil), (fun q hq => absurd hq List.not_mem_nil), (fun q hq => absurd hq List.not_mem_nil), ab_WD_D hinj hA, hCB, rfl, (fun q hq => absurd hq List.not_mem_nil), ⟨g1, g2⟩, (fun q => by cases q), hdt⟩
  have hRT : ∀ (pc : Nat) (X : ab_AS) (ρ2 : Nat → Int) (σ2 : ab_SG) (H : Heap) (locs : List Loc) (ls : Array Slot) (st : List Value) (i : Instr) (len : Nat), decode cc pc = .ok (i, len) → ab_rt nn_T ct.2.1.length ct.2.2.2.2 0 i len X = true → ab_Gm cy ad wr cr D vwCl nn_sh nn_T nn_C nL ct.2.1.length ρ σ (ab_A ad nn_sh.length s.heap.size) s.heap X ρ2 σ2 H locs ls st →
      W p l e (headSpec (Jvm.Cond.codeWith y cc nL (some .int) [(e0, e1, hp, 13)] :: nn_TT) (nq_room lev)).room s m (ct.1.map (ab_V ad wr cr ρ)).toArray below meth c H locs 1 6 (vx_MQ below (ab_QC cy ad wr cr D vwCl nn_sh nn_T nn_C ct.2.1.length ρ σ ct.2.2.2.2 (ab_A ad nn_sh.length s.heap.size)) (fun _ _ _ => False) (ct.1.map (ab_V ad wr cr ρ)).toArray s 1 6 (ab_A ad nn_sh.length s.heap.size)) (F0 m pc ls st) :=
    fun pc X ρ2 σ2 H locs ls2 st i len hd hr hG => vx_ret (ab_rt_ok B.exec B.bytes B.returns (nn_rk_ok (rk := 0) (ret := some .int) (by decide)) B.notSynchronized hr hd hG)
  have hin := List.all_eq_true.mp hC1
  have hR : q.2.1 + 11 ≤ (headSpec (Jvm.Cond.codeWith y cc nL (some .int) [(e0, e1, hp, 13)] :: nn_TT) (nq_room lev)).room.frames ∧ 40 * q.2.1 + 300 ≤ (headSpec (Jvm.Cond.codeWith y cc nL (some .int) [(e0, e1, hp, 13)] :: nn_TT) (nq_room lev)).room.locals := by
    refine ⟨?_, ?_⟩
    · show q.2.1 + 11 ≤ lev + 11; omega
    · show 40 * q.2.1 + 300 ≤ 40 * lev + 300; omega
  refine ab_entry (lev := 0) (sp := []) (HD := [pcV]) (HN := []) (EX := [nq_nd pcV X]) (NS := [nq_nd 0 (ab_en0 0 ct.1, [], ct.2.1, ct.2.2.1, ct.2.2.2.1, [])]) (fuel := 40) (mu := ((0, [], []), (0, [], []), (0, [], []))) (hEv 0 0 (Nat.zero_le _) (Nat.zero_le _)) hfit hK hsy hP List.mem_cons_self (fun pc X ρ2 σ2 H locs ls2 st i len hd hr hG => W.widen (k := 1) (n := 6) (by decide) (by decide) (hRT pc X ρ2 σ2 H locs ls2 st i len hd hr hG)) ?_ hin
  intro nd hnd ρ2 σ2 H locs ls st hG
  rcases List.mem_cons.mp hnd with rfl | hnd
  · refine nx_cl (own := "NameNotesLaw") (cells := 0) (slots := 0) (nL := nL) (Ts := Jvm.Cond.codeWith y cc nL (some .int) [(e0, e1, hp, 13)] :: nn_TT) ⟨Nat.le_refl _, Nat.le_refl _⟩ B.exec B.bytes hml hown2 hts hKK hN hCB hZ rfl hsub hA (fun q hq => Or.inr hq) hmr hob (ab_mlk_mono hlk hsub) (hsub _ hplain) hH hR hX hlen hc8 hl21 htr htx hdV hG ?_ ?_
    · intro x hx ρ3 σ3 H1 locs1 st1 _ hG1
      exact ab_nodes_ok (EX := []) (NS := lsR.map (nq_nd (pcV + 3))) (hEv 1 6 (Nat.le_refl _) (Nat.le_refl _)) hRT (fun nd hnd => absurd hnd List.not_mem_nil) (List.all_eq_true.mp hC2) (nq_nd (pcV + 3) x) (List.mem_map.mpr ⟨x, hx, rfl⟩) ρ3 σ3 H1 locs1 ls st1 hG1
    · intro x hx ρ3 σ3 H1 locs1 st1 q9 ce _ hG1 hc1 hc2 hc3
      refine vx_catch (own := "NameNotesLaw") (name := nx_N) (E := nx_N) (ce := ce) hown2 [] ⟨e0, e1, hp, 13⟩ [] htab (fun z hz => absurd hz List.not_mem_nil) ?_ (show (13 : Nat) ≠ 0 by decide) (hts _ (hsub _ hxl)) (nq_cast hc3) hc1 hc2 hc3 ?_
      · simp only [covers, Bool.and_eq_true, decide_eq_true_eq]
        exact hcov
      · have hfx := List.all_eq_true.mp hfr x hx
        have hG2 : ∀ ls2 : Array Slot, lv_has ls2 nL ((k, Value.ref q9) :: (x.1.map (fun q => (q.1, ab_V ad wr cr ρ3 q.2))).filter (fun q => !(q.1 == k) && !(q.1 + 1 == k && q.2.category == 2))) → W p l e (headSpec (Jvm.Cond.codeWith y cc nL (some .int) [(e0, e1, hp, 13)] :: nn_TT) (nq_room lev)).room s m (ct.1.map (ab_V ad wr cr ρ)).toArray below meth c H1 locs1 1 6 (vx_MQ below (ab_QC cy ad wr cr D vwCl nn_sh nn_T nn_C ct.2.1.length ρ σ ct.2.2.2.2 (ab_A ad nn_sh.length s.heap.size)) (fun _ _ _ => False) (ct.1.map (ab_V ad wr cr ρ)).toArray s 1 6 (ab_A ad nn_sh.length s.heap.size)) (F0 m hq ls2 []) := by
          intro ls2 hl2
          have hmem : nq_nd hq (x.1, [], x.2.2) ∈ lsX.map (fun x => nq_nd hq (x.1, [], x.2.2)) := List.mem_map.mpr ⟨x, hx, rfl⟩
          refine ab_nodes_ok (EX := []) (NS := lsX.map (fun x => nq_nd hq (x.1, [], x.2.2))) (hEv 1 6 (Nat.le_refl _) (Nat.le_refl _)) hRT (fun nd hnd => absurd hnd List.not_mem_nil) (List.all_eq_true.mp hC3) _ hmem ρ3 σ3 H1 locs1 ls2 [] ?_
          obtain ⟨g1, g2, g3, g4, g5, g6, g7⟩ := hG1
          exact ⟨g1, g2, g3, ⟨nq_keep hfx hl2, g4.2⟩, ⟨rfl, fun a ha => absurd ha List.not_mem_nil⟩, g6, g7⟩
        have hL1 := hG1.2.2.2.1.1
        rcases hdA with ⟨k4, rfl, hd, rfl⟩ | ⟨hd, rfl⟩
        · exact lv_astore_n B.exec B.bytes hd rfl hL1 hk rfl hG2
        · exact lv_astore B.exec B.bytes hd hL1 hk rfl hG2
  · exact absurd hnd List.not_mem_nil
