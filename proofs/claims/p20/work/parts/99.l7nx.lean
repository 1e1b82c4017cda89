/-! methods that return or throw -/
/-- the words of a throw -/
def nx_wds : List Cond := Cond.classLink "NameNotes" 211 nx_N :: Cond.initialized nx_N :: (nx_atoms "NameNotes" 215).filter vx_no
theorem nx_wds_good : ∀ w ∈ nx_wds, vx_ot w = true := by decide +kernel
theorem nx_wds_in : ∀ w ∈ nx_wds, w ∈ lw_tbl := by decide +kernel
/-- words that tables alike bear alike -/
def nx_alk : Cond → Bool
  | .declares _ => true
  | .castable _ _ => true
  | _ => false
theorem nx_alk_ok {w : Cond} {args a' : Array Value} {s U : State} (h : s.vm.Alike U.vm) (hw : nx_alk w = true) (hb : w.before args s = true) : w.before a' U = true := by
  have e := Cond.onTables_vm (A := a') (A' := args) (U := U) (U' := s) U.vm w (by cases w <;> first | rfl | cases hw)
  rw [State.setVm_self] at e
  rw [e]
  cases w with
  | declares x =>
    have hm : U.vm.method? = s.vm.method? := funext h.method?
    simp only [Cond.before, Cond.holds, Cond.value, State.vm_setVm, State.methodNamed?_setVm h, hm] at hb ⊢
    exact hb
  | castable a b =>
    simp only [Cond.before, Cond.holds, Cond.value, State.vm_setVm, h.findClass, h.assignable] at hb ⊢
    exact hb
  | _ => cases hw
def nx_bad : List Cond := nx_wds.filter (fun w => !goodWord w)
theorem nx_bad_alk : ∀ w ∈ nx_bad, nx_alk w = true := by decide +kernel
theorem nx_wds_of {args : Array Value} {s : State} (h1 : ∀ w ∈ nn_TT, w.before args s = true) (h2 : ∀ w ∈ nx_bad, w.before #[] s = true) : ∀ w ∈ nx_wds, w.before args s = true := by
  intro w hw
  cases hg : goodWord w with
  | true => exact h1 w (List.mem_filter.mpr ⟨nx_wds_in w hw, hg⟩)
  | false =>
    have hm : w ∈ nx_bad := List.mem_filter.mpr ⟨hw, by rw [hg]; rfl⟩
    exact nx_alk_ok (Vm.Alike.refl s.vm) (nx_bad_alk w hm) (h2 w hm)
/-- the two static fields that a new Throwable reads; four words of the tables -/
def nx_Z (A : Nat → Prop) (U : State) : Prop := vx_Zq Bundle.tN "UNASSIGNED_STACK" Bundle.steD A U U.heap ∧ vx_Zq Bundle.tN "SUPPRESSED_SENTINEL" Bundle.listD A U U.heap ∧ ∀ w ∈ nx_bad, w.before #[] U = true
theorem nx_Z_go {A B : Nat → Prop} {s U : State} (h : nx_Z A s) (hW : s.WarmedH U.vm) (hq : ∀ a : Nat, a < s.heap.size → ¬ A a → U.heap[a]? = s.heap[a]?) (hAB : ∀ q, B q → A q) : nx_Z B U :=
  ⟨((vx_Zq.moved hW.alike h.1).kept hq).narrow hAB, ((vx_Zq.moved hW.alike h.2.1).kept hq).narrow hAB, fun w hw => nx_alk_ok hW.alike (nx_bad_alk w hw) (h.2.2 w hw)⟩
theorem nx_Z_blind {A : Nat → Prop} {U : State} {g : JFrame} {mk : MethodId} {a : Array Value} (h : nx_Z A U) : nx_Z A (U.calling g mk a) :=
  ⟨vx_Zq.moved (u := U) (U := U.calling g mk a) (Vm.Alike.refl U.vm) h.1, vx_Zq.moved (u := U) (U := U.calling g mk a) (Vm.Alike.refl U.vm) h.2.1, fun w hw => nx_alk_ok (s := U) (U := U.calling g mk a) (Vm.Alike.refl U.vm) (nx_bad_alk w hw) (h.2.2 w hw)⟩
def nx_PC (cy : Nat → ClassId) (ad wr cr : Nat → Nat) (D : va_G) (σ : ab_SG) (av : List Value) (sz : Nat) : Array Value → State → Prop :=
  va_Pc av (fun U => U.heap.size = sz ∧ va_P D vwCl (ab_WD cy ad wr nn_sh σ) U.heap ∧ va_K D vwCl (ab_tys cy) U ∧ ab_okN nn_NW U ∧ ab_CB cy ad wr cr nn_kd (ab_A ad nn_sh.length sz) U ∧ nx_Z (ab_A ad nn_sh.length sz) U)
theorem nx_PC_blind {cy : Nat → ClassId} {ad wr cr : Nat → Nat} {D : va_G} {σ : ab_SG} {av : List Value} {sz : Nat} : FrameBlind (nx_PC cy ad wr cr D σ av sz) := by
  intro a U g mk h
  obtain ⟨h1, h2, h3, h4, h5, h6, h7⟩ := h
  exact ⟨h1, h2, h3, va_K.moved (u := U) (U := U.calling g mk a) (Vm.Alike.refl U.vm) h4, fun q hq => va_Nw.same rfl (u := U) (U := U.calling g mk a) rfl (h5 q hq), ab_CB_blind h6, nx_Z_blind h7⟩
/-- where it threw: an end, too -/
def nx_XC (cy : Nat → ClassId) (ad wr cr : Nat → Nat) (D : va_G) (n0 : Nat) (ρ0 : Nat → Int) (σ0 : ab_SG) (os : List ab_OU) (A : Nat → Prop) : String → State → State → Prop := fun E st t =>
  E = nx_N ∧ (∃ o ∈ os, ab_ps cy ad wr cr D vwCl nn_sh nn_T nn_C n0 ρ0 σ0 o none t.heap) ∧ va_F A st t
def nx_room (d : Nat) : Room := { frames := d + 10, cells := 1, slots := 6, locals := 40 * d + 200 }
/-- which method, how deep, its contract, its ends by throwing -/
abbrev nx_Q4 : Type := Nat × Nat × ab_CN × List ab_OU
def nx_H (l : Launch) (cy : Nat → ClassId) (ad wr cr : Nat → Nat) (D : va_G) (q : nx_Q4) : Prop :=
  ∀ mr : ab_MR, nn_MT[q.1]? = some mr → 0 < q.2.2.1.2.1.length ∧
    (mr.2.2.2.2.2.1 = true → ∃ (k : Nat) (z : Int) (as : List ab_AV) (ci : Nat) (fs : List (Nat × Nat)) (T9 : u_T) (N9 : Nat), q.2.2.1.1 = (2, k, z) :: as ∧ nn_sh[k]? = some (.inl (ci, fs)) ∧ vwCl[ci]? = some (mr.1.cls, T9, N9)) ∧
    ∀ (ρ : Nat → Int) (σ : ab_SG) (sz : Nat), ab_K nn_T nn_C σ q.2.2.1.2.1 q.2.2.1.2.2.1 q.2.2.1.2.2.2.1 [] ρ σ → (∀ a ∈ q.2.2.1.1, ab_sy q.2.2.1.2.1.length a) →
      vx_Met l mr.1 (Jvm.Cond.code mr.1 mr.2.1 mr.2.2.1 mr.2.2.2.1 :: nn_TT) (nx_room q.2.1) (nx_PC cy ad wr cr D σ (q.2.2.1.1.map (ab_V ad wr cr ρ)) sz) (ab_QC cy ad wr cr D vwCl nn_sh nn_T nn_C q.2.2.1.2.1.length ρ σ q.2.2.1.2.2.2.2 (ab_A ad nn_sh.length sz))
        (nx_XC cy ad wr cr D q.2.2.1.2.1.length ρ σ q.2.2.2 (ab_A ad nn_sh.length sz)) 1 6 (ab_A ad nn_sh.length sz)
/-- an end that a known frame meets, nothing on its stack -/
theorem nx_en {cy : Nat → ClassId} {ad wr cr : Nat → Nat} {D : va_G} {nL n0 : Nat} {ρ0 : Nat → Int} {σ0 : ab_SG} {A : Nat → Prop} {H0 : Heap} {X : ab_AS} {ρ : Nat → Int} {σ : ab_SG} {H : Heap} {locs : List Loc} {ls : Array Slot} (hG : ab_Gm cy ad wr cr D vwCl nn_sh nn_T nn_C nL n0 ρ0 σ0 A H0 X ρ σ H locs ls []) {o : ab_OU} (hen : ab_en nn_T n0 X o = true) :
    ∃ (ρ' : Nat → Int) (σ' : ab_SG), (∀ i, i < n0 → ρ' i = ρ0 i) ∧ n0 ≤ o.2.1.length ∧ ab_K nn_T nn_C σ0 o.2.1 o.2.2.1 o.2.2.2.1 o.2.2.2.2 ρ' σ' ∧ ab_okS ad wr cr o.2.1.length ρ' o.1 [] ∧ va_P D vwCl (ab_WD cy ad wr nn_sh σ') H := by
  obtain ⟨L, S, B, F, Dl, M⟩ := X
  obtain ⟨hK, hr0, hn0, hL, hS, hP, hSS⟩ := hG
  dsimp only at hK hr0 hn0 hL hS
  unfold ab_en at hen
  split at hen
  · rename_i B1 D1 hmat
    rw [Bool.and_eq_true] at hen
    obtain ⟨ρ1, m1, m2, m3⟩ := ab_mat_ok _ hK hmat
    obtain ⟨v1, v2⟩ := ab_vf_th m1.1 hen.1
    obtain ⟨vK, -, vS⟩ := ab_vf_ok (ad := ad) (wr := wr) (cr := cr) (nL := nL) (ls := ls) (L := []) hen.1 m1 ⟨⟨hL.1.1, hL.1.2.1, fun q hq => by cases hq⟩, fun q hq => by cases hq⟩ (ab_okS_ext hS m2 m3)
    obtain ⟨w1, w2⟩ := ab_rid_ok (ρ := ρ1) n0 0 _ hen.2
    refine ⟨_, σ, fun j hj => ?_, by rw [← v2]; exact w1, vK, vS, hP⟩
    rw [w2 j hj, Nat.zero_add, m3 j (Nat.lt_of_lt_of_le hj hn0), hr0 j hj]
  · cases hen
/-- a contract that returns or throws, out of a run of its body -/
theorem nx_holdW {l : Launch} {cy : Nat → ClassId} {ad wr cr : Nat → Nat} {D : va_G} {KI KJ : List (Nat × Int)} {PF : ab_PT} {PS : ab_PS} {PM : ab_PC2} {KS : ab_KS} {lev mn : Nat} {ct : ab_CN} {osX : List ab_OU} {mr : ab_MR} {dt : ab_DT}
    (htr : l.stackTraces = false) (hinj : nn_inj ad) (hmr : nn_MT[mn]? = some mr) (hdt : nn_DT[mn]? = some dt)
    (hpre : ((1 : Nat).ble ct.2.1.length && (!mr.2.2.2.2.2.1 || nn_rcB vwCl nn_sh mr.1.cls ct.1) && (ab_cat ct.1).ble mr.2.2.1 && nn_rkB mr.2.2.2.2.2.2 mr.2.2.2.1 && plainName mr.1.cls && decide (mr.1.cls = "NameNotes")) = true)
    (hKI : ∀ q ∈ KI, Jvm.Cond.constant "NameNotes" q.1 (Int32.ofInt q.2) ∈ nn_TT) (hKJ : ∀ q ∈ KJ, Jvm.Cond.constantLong "NameNotes" q.1 (Int64.ofInt q.2) ∈ nn_TT) (hPF : ∀ q ∈ PF, ab_fok vwCl nn_TT "NameNotes" q) (hPS : ∀ q ∈ PS, ab_psok nn_TT nn_kd "NameNotes" q) (hPM : ∀ q ∈ PM, ab_mlk nn_MT nn_TT nn_NW "NameNotes" q)
    (hKS : ∀ q ∈ KS, nn_H l cy ad wr cr D q)
    (body : ∀ (p : Program) (e : Env) (s : State) (m : MethodId) (below : List Frame) (meth : Method) (c : Code) (R : Room) (Q : State → Prop) (ρ : Nat → Int) (σ : ab_SG),
      ab_Ev p l s m (ct.1.map (ab_V ad wr cr ρ)).toArray meth c mr.2.1 mr.2.2.1 lev R cy ad wr cr D vwCl nn_sh nn_T nn_C "NameNotes" (ab_A ad nn_sh.length s.heap.size) s.heap (Jvm.Cond.code mr.1 mr.2.1 mr.2.2.1 mr.2.2.2.1 :: nn_TT) nn_TT nn_NW nn_MT KI KJ PF nn_kd PS PM KS 0 ct.2.1.length ρ 0 0 dt σ →
      ab_K nn_T nn_C σ ct.2.1 ct.2.2.1 ct.2.2.2.1 [] ρ σ → (∀ a ∈ ct.1, ab_sy ct.2.1.length a) → va_P D vwCl (ab_WD cy ad wr nn_sh σ) s.heap →
      (∀ (pc : Nat) (X : ab_AS) (ρ2 : Nat → Int) (σ2 : ab_SG) (H : Heap) (locs : List Loc) (ls : Array Slot) (st : List Value) (i : Instr) (len : Nat), decode mr.2.1 pc = .ok (i, len) → ab_rt nn_T ct.2.1.length ct.2.2.2.2 mr.2.2.2.2.2.2 i len X = true → ab_Gm cy ad wr cr D vwCl nn_sh nn_T nn_C mr.2.2.1 ct.2.1.length ρ σ (ab_A ad nn_sh.length s.heap.size) s.heap X ρ2 σ2 H locs ls st → W p l e R s m (ct.1.map (ab_V ad wr cr ρ)).toArray below meth c H locs 0 0 Q (F0 m pc ls st)) →
      (∀ (pc : Nat) (X : ab_AS) (ρ2 : Nat → Int) (σ2 : ab_SG) (H : Heap) (locs : List Loc) (ls : Array Slot) (st : List Value) (is : Nat) (tx : String) (k : Nat), osX.any (ab_en nn_T ct.2.1.length X) = true → X.2.1 = [] → ("NameNotes", is, tx, k) ∈ nn_kd.2.2.2 →
        decode mr.2.1 pc = .ok (.new 211, 3) → decode mr.2.1 (pc + 3) = .ok (.dup, 1) → ((decode mr.2.1 (pc + 4) = .ok (.ldc is, 2) ∧ decode mr.2.1 (pc + 6) = .ok (.invokespecial 215, 3) ∧ decode mr.2.1 (pc + 9) = .ok (.athrow, 1)) ∨ (decode mr.2.1 (pc + 4) = .ok (.ldc_w is, 3) ∧ decode mr.2.1 (pc + 7) = .ok (.invokespecial 215, 3) ∧ decode mr.2.1 (pc + 10) = .ok (.athrow, 1))) →
        ab_Gm cy ad wr cr D vwCl nn_sh nn_T nn_C mr.2.2.1 ct.2.1.length ρ σ (ab_A ad nn_sh.length s.heap.size) s.heap X ρ2 σ2 H locs ls st → W p l e R s m (ct.1.map (ab_V ad wr cr ρ)).toArray below meth c H locs 0 0 Q (F0 m pc ls st)) →
      W p l e R s m (ct.1.map (ab_V ad wr cr ρ)).toArray below meth c s.heap [] 0 0 Q (entryFrame m (ct.1.map (ab_V ad wr cr ρ)).toArray mr.2.2.1)) :
    nx_H l cy ad wr cr D (mn, lev, ct, osX) := by
  intro mr9 hmr9
  replace hmr9 : nn_MT[mn]? = some mr9 := hmr9
  rw [hmr] at hmr9
  cases hmr9
  rw [Bool.and_eq_true, Bool.and_eq_true, Bool.and_eq_true, Bool.and_eq_true, Bool.and_eq_true, Bool.or_eq_true, Bool.not_eq_true', decide_eq_true_eq] at hpre
  obtain ⟨⟨⟨⟨⟨h1, h2⟩, h3⟩, h4⟩, hy⟩, hown⟩ := hpre
  refine ⟨Nat.le_of_ble_eq_true h1, fun g => ?_, fun ρ σ sz hK hsy => ?_⟩
  · rcases h2 with h2 | h2
    · rw [g] at h2; cases h2
    · exact nn_rc_ok h2
  refine vx_ofW (cc := mr.2.1) (maxL := mr.2.2.1) (ret := mr.2.2.2.1) hy rfl ?_
  intro p e s m args below meth c s₁ B hml hex hv
  obtain ⟨rfl, hsz, hP, hKK, hN, hCB, hZ⟩ := hv
  have hts := atoms_spec (ws := Jvm.Cond.code mr.1 mr.2.1 mr.2.2.1 mr.2.2.2.1 :: nn_TT) B.pre
  have hown2 : s.vm.findClass "NameNotes" = some m.cls := by rw [← hown]; exact findClass_of_methodNamed B.named
  subst hsz
  have hA : ∀ k, k < nn_sh.length → ab_A ad nn_sh.length s.heap.size (ad k) := fun k hk => Or.inl ⟨k, hk, rfl⟩
  have hsub : ∀ w ∈ nn_TT, w ∈ (Jvm.Cond.code mr.1 mr.2.1 mr.2.2.1 mr.2.2.2.1 :: nn_TT) := fun w hw => List.mem_cons_of_mem _ hw
  have hww : ∀ w ∈ nx_wds, w.before (ct.1.map (ab_V ad wr cr ρ)).toArray s = true := nx_wds_of (fun w hw => hts _ (hsub _ hw)) hZ.2.2
  refine body p e s m below meth c (headSpec (Jvm.Cond.code mr.1 mr.2.1 mr.2.2.1 mr.2.2.2.1 :: nn_TT) (nx_room lev)).room _ ρ σ
    ⟨B.exec, B.bytes, hml, hown2, hts, hKK, hN, fun w hw => ⟨hsub w hw, nn_TT_good w hw⟩, nn_MT_code, hA, fun q hq => Or.inr hq, fun q hq => ab_mlk_mono (hPM q hq) hsub, hKS, ⟨Nat.le_add_right lev 10, Nat.le_add_right (40 * lev) 200⟩, fun q hq => hts _ (hsub _ (hKI q hq)), fun q hq => hts _ (hsub _ (hKJ q hq)), fun q hq => ab_fok_mono (hPF q hq) hsub, ab_WD_D hinj hA, hCB, rfl, fun q hq => ab_psok_mono (hPS q hq) hsub, ⟨Nat.zero_le _, Nat.zero_le _⟩, (fun q => by cases q), nn_DT_ok hmr hdt⟩
    hK hsy hP (fun pc X ρ2 σ2 H locs ls2 st i len hd hr hG => W.widen (k := 1) (n := 6) (by decide) (by decide) (vx_ret (ab_rt_ok B.exec B.bytes B.returns (nn_rk_ok h4) B.notSynchronized hr hd hG))) ?_
  intro pc X ρ2 σ2 H locs ls st is tx k hen hX htx d0 d3 d4 hG
  have hst : st = [] := by have := hG.2.2.2.2.1.1; rw [hX] at this; exact this
  subst hst
  obtain ⟨o, ho, hen⟩ := List.any_eq_true.mp hen
  have hSS := hG.2.2.2.2.2.2
  obtain ⟨ρ', σ', q1, q2, q3, q4, q5⟩ := nx_en hG hen
  have hx : ∀ t : State, s.vm.Alike t.vm → H.size ≤ t.heap.size → (∀ q : Nat, q < H.size → t.heap[q]? = H[q]?) → nx_XC cy ad wr cr D ct.2.1.length ρ σ osX (ab_A ad nn_sh.length s.heap.size) nx_N s t := by
    intro t _ hz hq
    refine ⟨rfl, ⟨o, ho, ρ', σ', q1, q2, q3, q4, q5.kept (fun k q hk => hq _ (vx_lt q5 hk))⟩, Nat.le_trans hSS.1 hz, fun q g1 g2 => ?_⟩
    rw [hq q (Nat.lt_of_lt_of_le g1 hSS.1)]
    exact hSS.2.1 q g1 g2
  have hsize : ls.size = c.maxLocals := hG.2.2.2.1.1.1.trans hml.symm
  have hwk : ∀ w ∈ (nx_atoms "NameNotes" 215).filter vx_no, w.before (ct.1.map (ab_V ad wr cr ρ)).toArray s = true := fun w hw => hww w (List.mem_cons_of_mem _ (List.mem_cons_of_mem _ hw))
  have hstr : vk_R "NameNotes" is tx (cr k) s := hCB.2.2.2.2 _ htx
  have f1 : 5 < (headSpec (Jvm.Cond.code mr.1 mr.2.1 mr.2.2.1 mr.2.2.2.1 :: nn_TT) (nx_room lev)).room.frames := by show 5 < lev + 10; omega
  have f2 : 82 ≤ (headSpec (Jvm.Cond.code mr.1 mr.2.1 mr.2.2.1 mr.2.2.2.1 :: nn_TT) (nx_room lev)).room.locals := by show 82 ≤ 40 * lev + 200; omega
  rcases d4 with ⟨d4, d6, d9⟩ | ⟨d4, d6, d9⟩
  · exact nx_throw B.exec B.bytes htr hown2 (hww _ List.mem_cons_self) (hww _ (List.mem_cons_of_mem _ List.mem_cons_self)) hstr hwk nx_wds_good hZ.1 hZ.2.1 hSS hsize d0 d3 d4 d6 d9 (fun x hx9 => absurd (hex x hx9) id) f1 f2 (Nat.le_refl _) (Nat.le_refl _) B.notSynchronized hx hSS.2.2 (Nat.le_refl _) (Nat.le_refl _)
  · exact nx_throwW B.exec B.bytes htr hown2 (hww _ List.mem_cons_self) (hww _ (List.mem_cons_of_mem _ List.mem_cons_self)) hstr hwk nx_wds_good hZ.1 hZ.2.1 hSS hsize d0 d3 d4 d6 d9 (fun x hx9 => absurd (hex x hx9) id) f1 f2 (Nat.le_refl _) (Nat.le_refl _) B.notSynchronized hx hSS.2.2 (Nat.le_refl _) (Nat.le_refl _)
