/-! one instruction, then on, till a place that is named -/
abbrev fw_K : Type := Nat → fw_L → List ab_AV → ab_SG → Prop
def fw_rt (rk : Nat) (i : Instr) (len : Nat) (S : List ab_AV) (K : Option ab_AV → Prop) : Prop := match i, S with
  | .ireturn, [(0, s, c)] => fw_if (len.beq 1) (match rk with
    | 0 => K (some (0, s, c))
    | 1 => (0 ≤ fw_c c ∧ fw_c c ≤ 1) ∧ K (some (0, s, c))
    | _ => False)
  | .lreturn, [(1, s, c)] => fw_if (len.beq 1 && rk.beq 2) (K (some (1, s, c)))
  | .areturn, [a] => fw_if (len.beq 1 && rk.beq 3 && (2 : Nat).ble a.1) (K (some a))
  | .return_, [] => fw_if (len.beq 1 && rk.beq 4) (K none)
  | _, _ => False
def fw_h1 (cl : List vw_C) (sh : List ab_SP) (kd : ab_KD) (kv : Nat → Nat → Int) (wc : Nat → Int) (PF : ab_PT) (PS : ab_PS) (i : Instr) (len : Nat) (S : List ab_AV) (σ : ab_SG) (K : fw_KH) : Prop := match i, S with
  | .getfield x, (4, s, c) :: S => fw_ks kd kv wc PS (.getfield x) len ((4, s, c) :: S) (fun S' => K S' σ)
  | .iaload, a :: (5, k, z) :: S => fw_ks kd kv wc PS .iaload len (a :: (5, k, z) :: S) (fun S' => K S' σ)
  | .laload, a :: (5, k, z) :: S => fw_ks kd kv wc PS .laload len (a :: (5, k, z) :: S) (fun S' => K S' σ)
  | .aaload, S => fw_ks kd kv wc PS .aaload len S (fun S' => K S' σ)
  | .arraylength, (5, k, z) :: S => fw_ks kd kv wc PS .arraylength len ((5, k, z) :: S) (fun S' => K S' σ)
  | i, S => fw_hp cl sh PF i len S σ K
def fw_p0 (KI KJ : List (Nat × Int)) (nL pc : Nat) (i : Instr) (len : Nat) (L : fw_L) (S : List ab_AV) (σ : ab_SG) (K : fw_K) : Prop := match fw_pu KI KJ nL i len L S with
  | some r => K (pc + len) r.1 r.2 σ
  | none => match fw_dv i len S with
    | some q => q.1 ≠ 0 ∧ K (pc + len) L q.2 σ
    | none => False
def fw_p3 (sh : List ab_SP) (PS : ab_PS) (FK : List fw_CR) (lev pc : Nat) (i : Instr) (len : Nat) (L : fw_L) (S : List ab_AV) (σ : ab_SG) (K : fw_K) : Prop := match i with
  | .invokestatic x => match ab_pk PS x with
    | some z => fw_mth z lev len S (fun S' => K (pc + 3) L S' σ)
    | none => fw_cl sh FK lev (.invokestatic x) len S σ (fun S' σ' => K (pc + 3) L S' σ')
  | i => fw_cl sh FK lev i len S σ (fun S' σ' => K (pc + 3) L S' σ')
/-- one instruction -/
def fw_st (cl : List vw_C) (sh : List ab_SP) (kd : ab_KD) (kv : Nat → Nat → Int) (wc : Nat → Int) (KI KJ : List (Nat × Int)) (PF : ab_PT) (PS : ab_PS) (FK : List fw_CR) (lev : Nat) (dt : ab_DT) (nL rk : Nat) (K : fw_K) (R : fw_KR) : fw_K := fun pc L S σ => match ab_dec dt pc with
  | some (i, len, h) => match h with
    | 0 => fw_p0 KI KJ nL pc i len L S σ K
    | 1 => fw_h1 cl sh kd kv wc PF PS i len S σ (fun S' σ' => K (pc + len) L S' σ')
    | 2 => fw_br pc i len (match ab_dec dt (pc + 1) with | some q => some (q.1, q.2.1) | none => none) S (fun n S' => K n L S' σ)
    | 3 => fw_p3 sh PS FK lev pc i len L S σ K
    | 4 => fw_ks kd kv wc PS i len S (fun S' => K (pc + len) L S' σ)
    | 5 => fw_br pc i len none S (fun n S' => K n L S' σ)
    | _ => fw_rt rk i len S (fun rv => R rv σ)
  | none => False
/-- from here on, till a place of HD -/
def fw_run (stp : fw_K → fw_KR → fw_K) (HD : List Nat) (G : fw_K) (R : fw_KR) : Nat → fw_K
  | 0 => G
  | n + 1 => fun pc L S σ => match HD.any (fun h => h.beq pc) with
    | true => G pc L S σ
    | false => stp (fw_run stp HD G R n) R pc L S σ
/-- what holds wherever one more instruction leads to where it holds -/
def fw_cls (stp : fw_K → fw_KR → fw_K) (R : fw_KR) (G : fw_K) : Prop := ∀ K : fw_K, (∀ pc L S σ, K pc L S σ → G pc L S σ) → ∀ pc L S σ, stp K R pc L S σ → G pc L S σ
theorem fw_runG {stp : fw_K → fw_KR → fw_K} {HD : List Nat} {G : fw_K} {R : fw_KR} (hG : fw_cls stp R G) : ∀ (n : Nat) (pc : Nat) (L : fw_L) (S : List ab_AV) (σ : ab_SG), fw_run stp HD G R n pc L S σ → G pc L S σ := by
  intro n
  induction n with
  | zero => intro pc L S σ h; exact h
  | succ n ih =>
    intro pc L S σ h
    unfold fw_run at h
    cases hc : HD.any (fun h => h.beq pc) with
    | true => rw [hc] at h; exact h
    | false => rw [hc] at h; exact hG _ ih pc L S σ h
/-- from a named place on: one instruction at least -/
theorem fw_on {stp : fw_K → fw_KR → fw_K} {G : fw_K} {R : fw_KR} (hG : fw_cls stp R G) (HD : List Nat) (n : Nat) {pc : Nat} {L : fw_L} {S : List ab_AV} {σ : ab_SG} (h : stp (fw_run stp HD G R n) R pc L S σ) : G pc L S σ := hG _ (fw_runG hG n) pc L S σ h
section
variable {p : Program} {l : Launch} {e : Env} {R : Room} {s : State} {m : MethodId} {args : Array Value} {below : List Frame} {meth : Method} {c : Code} {H : Heap} {locs : List Loc} {cc : ByteArray} {pc : Nat} {ls : Array Slot} {st : List Value}
variable {ad wr cr : Nat → Nat} {cy : Nat → ClassId} {nL lev rk : Nat} {S : List ab_AV} {own : String} {i : Instr} {len : Nat} {D : va_G} {cl : List vw_C} {sh : List ab_SP} {A : Nat → Prop} {Ts TT : List Jvm.Cond} {NW : ab_NW} {kd : ab_KD} {kv : Nat → Nat → Int} {wc : Nat → Int} {MT : List ab_MR} {FK : List fw_CR} {σ : ab_SG} {KI KJ : List (Nat × Int)} {PF : ab_PT} {PS : ab_PS} {dt : ab_DT}
theorem fw_rt_ok {ret : Option FieldType} {K : fw_KR} (hx : p.tables.exec = Jvm.exec) (hb : c.code = cc) (hret : meth.sig.returnType = ret) (hrk : ab_rkok rk ret) (hlocks : meth.locks = false)
    (h : fw_rt rk i len S (fun rv => K rv σ)) (hdg : decode cc pc = .ok (i, len)) (hS : fw_okS ad wr cr S st) (hP : va_P D cl (ab_WD cy ad wr sh σ) H) (hSS : va_S A s.heap H locs) :
    W p l e R s m args below meth c H locs 0 0 (MQ below (fw_QC cy ad wr cr D cl sh K A) args s 0 0 A) (F0 m pc ls st) := by
  have post : ∀ (rv : Option ab_AV), K rv σ → ∀ t : State, t.heap = H → fw_QC cy ad wr cr D cl sh K A args s (.returned (rv.map (ab_V ad wr cr fw_z))) t := fun rv hk t ht => ⟨⟨rv, σ, rfl, hk, by rw [ht]; exact hP⟩, hSS.F ht⟩
  unfold fw_rt at h
  split at h
  · rename_i s9 c9
    have h0 := fw_if_ok h
    clear h
    obtain ⟨g, h⟩ := h0
    have := ab_beq g; subst this
    obtain ⟨st1, rfl, hS1⟩ := fw_pop hS
    have : st1 = [] := hS1
    subst this
    split at h
    · exact W.iret hx hb (hret.trans hrk) (fun t ht _ => post _ h t ht) hSS.2.2 hdg hlocks
    · refine W.zret hx hb (hret.trans hrk) ?_ (fun t ht _ => post _ h.2 t ht) hSS.2.2 hdg hlocks
      have e1 := (ab_nar_zv h.1.1 h.1.2).1
      rw [fw_c_of] at e1
      show narrow .boolean (.int (Int32.ofInt (0 + c9))) = .int (Int32.ofInt (0 + c9))
      rw [Int.zero_add]
      exact e1
    · exact h.elim
  · rename_i s9 c9
    have h0 := fw_if_ok h
    clear h
    obtain ⟨g, h⟩ := h0
    rw [Bool.and_eq_true] at g
    have := ab_beq g.1; subst this
    have g2 := ab_beq g.2
    subst g2
    obtain ⟨st1, rfl, hS1⟩ := fw_pop hS
    have : st1 = [] := hS1
    subst this
    exact W.lret hx hb (hret.trans hrk) (fun t ht _ => post _ h t ht) hSS.2.2 hdg hlocks
  · rename_i a9
    have h0 := fw_if_ok h
    clear h
    obtain ⟨g, h⟩ := h0
    rw [Bool.and_eq_true, Bool.and_eq_true] at g
    have := ab_beq g.1.1; subst this
    have g2 := ab_beq g.1.2
    subst g2
    obtain ⟨st1, rfl, hS1⟩ := fw_pop hS
    have : st1 = [] := hS1
    subst this
    obtain ⟨n9, hn9⟩ := hrk
    refine W.aret (v := ab_V ad wr cr fw_z a9) hx hb (hret.trans hn9) (Or.inl ⟨n9, rfl⟩) ?_ (fun t ht _ => post (some a9) h t ht) hSS.2.2 hdg hlocks
    rcases ab_ref (ad := ad) (wr := wr) (cr := cr) (ρ := fw_z) g.2 with ⟨x, hx1⟩ | hx1
    · exact Or.inr ⟨x, hx1⟩
    · exact Or.inl hx1
  · have h0 := fw_if_ok h
    clear h
    obtain ⟨g, h⟩ := h0
    rw [Bool.and_eq_true] at g
    have := ab_beq g.1; subst this
    have g2 := ab_beq g.2
    subst g2
    have : st = [] := hS
    subst this
    exact W.vret hx hb (hret.trans hrk) (fun t ht _ => post none h t ht) hSS.2.2 hdg hlocks
  · exact h.elim
def fw_Ev (p : Program) (l : Launch) (s : State) (m : MethodId) (args : Array Value) (meth : Method) (c : Code) (cc : ByteArray) (nL lev rk : Nat) (R : Room) (cy : Nat → ClassId) (ad wr cr : Nat → Nat) (D : va_G) (cl : List vw_C) (sh : List ab_SP) (own : String) (A : Nat → Prop) (Ts TT : List Jvm.Cond) (NW : ab_NW) (MT : List ab_MR) (KI KJ : List (Nat × Int)) (PF : ab_PT) (kd : ab_KD) (kv : Nat → Nat → Int) (wc : Nat → Int) (PS : ab_PS) (FK : List fw_CR) (dt : ab_DT) (ret : Option FieldType) : Prop :=
  p.tables.exec = Jvm.exec ∧ c.code = cc ∧ c.maxLocals = nL ∧ s.vm.findClass own = some m.cls ∧ (∀ w ∈ Ts, w.before args s = true) ∧ va_K D cl (ab_tys cy) s ∧ ab_okN NW s ∧ (∀ w ∈ TT, w ∈ Ts ∧ goodWord w = true) ∧ (∀ mr ∈ MT, goodWord (Jvm.Cond.code mr.1 mr.2.1 mr.2.2.1 mr.2.2.2.1) = true) ∧
  (∀ k, k < sh.length → A (ad k)) ∧ (∀ q, s.heap.size ≤ q → A q) ∧ (∀ q ∈ FK, fw_rok l cy ad wr cr D cl sh NW kd kv wc Ts TT MT own q) ∧ (lev ≤ R.frames ∧ 40 * lev ≤ R.locals) ∧
  (∀ q ∈ KI, (Jvm.Cond.constant own q.1 (Int32.ofInt q.2)).before args s = true) ∧ (∀ q ∈ KJ, (Jvm.Cond.constantLong own q.1 (Int64.ofInt q.2)).before args s = true) ∧ (∀ q ∈ PF, ab_fok cl Ts own q) ∧ (∀ σ, va_D A (ab_WD cy ad wr sh σ)) ∧ fw_CB cy ad wr cr kd kv wc A s ∧ (∀ q ∈ PS, ab_psok Ts kd own q) ∧ ab_dtok cc dt = true ∧
  meth.sig.returnType = ret ∧ ab_rkok rk ret ∧ meth.locks = false
/-- at the machine: from such a frame on it comes to an end as K says -/
def fw_Go (p : Program) (l : Launch) (e : Env) (R : Room) (s : State) (m : MethodId) (args : Array Value) (below : List Frame) (meth : Method) (c : Code) (cy : Nat → ClassId) (ad wr cr : Nat → Nat) (D : va_G) (cl : List vw_C) (sh : List ab_SP) (A : Nat → Prop) (nL : Nat) (K : fw_KR) : fw_K := fun pc L S σ =>
  ∀ (H : Heap) (locs : List Loc) (ls : Array Slot) (st : List Value), fw_okL ad wr cr nL L ls → fw_okS ad wr cr S st → va_P D cl (ab_WD cy ad wr sh σ) H → va_S A s.heap H locs → W p l e R s m args below meth c H locs 0 0 (MQ below (fw_QC cy ad wr cr D cl sh K A) args s 0 0 A) (F0 m pc ls st)
set_option maxHeartbeats 4000000 in
theorem fw_st_ok {ret : Option FieldType} {Kr : fw_KR} (hE : fw_Ev p l s m args meth c cc nL lev rk R cy ad wr cr D cl sh own A Ts TT NW MT KI KJ PF kd kv wc PS FK dt ret) :
    fw_cls (fw_st cl sh kd kv wc KI KJ PF PS FK lev dt nL rk) Kr (fw_Go p l e R s m args below meth c cy ad wr cr D cl sh A nL Kr) := by
  intro K hKG pc L S σ h H locs ls st hL hS hP hSS
  obtain ⟨hx, hb, hml, hown, hts, hKK, hN, hTT, hcode, hA, hA2, hFK, hR, hKI, hKJ, hPF, hD, hCB, hPS, hdt, hret, hrk, hlk⟩ := hE
  have hlz : ls.size = nL := hL.1
  have go : ∀ (n : Nat), fw_go p l e R s m args below meth c 0 0 (MQ below (fw_QC cy ad wr cr D cl sh Kr A) args s 0 0 A) ad wr cr cy D cl sh A s.heap (fun S' σ' => K n L S' σ') n ls := fun n S' σ' H' locs' st' hk hP' hSS' hS' => hKG _ _ _ _ hk H' locs' ls st' hL hS' hP' hSS'
  have gb : ∀ (n : Nat) (S' : List ab_AV) (st' : List Value), K n L S' σ → fw_okS ad wr cr S' st' → W p l e R s m args below meth c H locs 0 0 (MQ below (fw_QC cy ad wr cr D cl sh Kr A) args s 0 0 A) (F0 m n ls st') := fun n S' st' hk hS' => hKG _ _ _ _ hk H locs ls st' hL hS' hP hSS
  unfold fw_st at h
  split at h
  · rename_i i9 len9 h9 hdec
    have hdg : decode cc pc = .ok (i9, len9) := ab_dec_ok hdt hdec
    split at h
    · unfold fw_p0 at h
      split at h
      · rename_i r9 hr9
        obtain ⟨L', S'⟩ := r9
        exact fw_pu_ok hx hb hown hKI hKJ hr9 hdg hL hS (fun ls' st' hL' hS' => hKG _ _ _ _ h H locs ls' st' hL' hS' hP hSS)
      · split at h
        · rename_i q9 hq9
          obtain ⟨d9, S'⟩ := q9
          exact fw_dv_ok hx hb hq9 h.1 hdg hS (fun st' hS' => gb _ _ _ h.2 hS')
        · exact h.elim
    · unfold fw_h1 at h
      split at h
      · exact fw_ks_ok hx hb hown hts hCB hPS h hdg hS hSS (fun S' st' hk hS' => gb _ _ _ hk hS')
      · exact fw_ks_ok hx hb hown hts hCB hPS h hdg hS hSS (fun S' st' hk hS' => gb _ _ _ hk hS')
      · exact fw_ks_ok hx hb hown hts hCB hPS h hdg hS hSS (fun S' st' hk hS' => gb _ _ _ hk hS')
      · exact fw_ks_ok hx hb hown hts hCB hPS h hdg hS hSS (fun S' st' hk hS' => gb _ _ _ hk hS')
      · exact fw_ks_ok hx hb hown hts hCB hPS h hdg hS hSS (fun S' st' hk hS' => gb _ _ _ hk hS')
      · exact fw_hp_ok hx hb hown hts hKK hD hPF h hdg hS hP hSS (go _)
    · refine fw_br_ok hx hb hCB.2.2.2 h hdg (fun j n hj => ?_) hS (fun n S' st' hk hS' => gb _ _ _ hk hS')
      split at hj
      · rename_i q9 hq9
        cases hj
        exact ab_dec_ok hdt hq9
      · cases hj
    · unfold fw_p3 at h
      split at h
      · rename_i x9
        split at h
        · rename_i z9 hz9
          exact fw_mth_ok hx hb (hml.trans hlz.symm) hown hts (hPS _ (ab_pk_mem hz9)) hR (Nat.zero_le _) (Nat.zero_le _) h hdg hS (fun S' st' hk hS' => gb _ _ _ hk hS')
        · exact fw_cl_ok ⟨Nat.zero_le _, Nat.zero_le _⟩ hx hb hml hown hts hKK hN hCB rfl hTT hcode hA hA2 hFK hR h hdg hS hlz hP hSS (go _)
      · exact fw_cl_ok ⟨Nat.zero_le _, Nat.zero_le _⟩ hx hb hml hown hts hKK hN hCB rfl hTT hcode hA hA2 hFK hR h hdg hS hlz hP hSS (go _)
    · exact fw_ks_ok hx hb hown hts hCB hPS h hdg hS hSS (fun S' st' hk hS' => gb _ _ _ hk hS')
    · exact fw_br_ok hx hb hCB.2.2.2 h hdg (fun j n hj => by cases hj) hS (fun n S' st' hk hS' => gb _ _ _ hk hS')
    · exact fw_rt_ok hx hb hret hrk hlk h hdg hS hP hSS
  · exact h.elim
end
theorem fw_rok_mono {l : Launch} {cy : Nat → ClassId} {ad wr cr : Nat → Nat} {D : va_G} {cl : List vw_C} {sh : List ab_SP} {NW : ab_NW} {kd : ab_KD} {kv : Nat → Nat → Int} {wc : Nat → Int} {Ts Ts' TT : List Jvm.Cond} {MT : List ab_MR} {own : String} {q : fw_CR} (h : fw_rok l cy ad wr cr D cl sh NW kd kv wc Ts TT MT own q) (hs : ∀ w ∈ Ts, w ∈ Ts') : fw_rok l cy ad wr cr D cl sh NW kd kv wc Ts' TT MT own q := by
  obtain ⟨mn, k, mr, h1, h2, h3, h4, h5, h6, h7⟩ := h
  exact ⟨mn, k, mr, h1, h2, h3, h4, h5, ab_mlk_mono h6 hs, h7⟩
/-- a method does what is said of it -/
theorem fw_met {l : Launch} {cy : Nat → ClassId} {ad wr cr : Nat → Nat} {D : va_G} {cl : List vw_C} {sh : List ab_SP} {NW : ab_NW} {TT : List Jvm.Cond} {MT : List ab_MR} {KI KJ : List (Nat × Int)} {PF : ab_PT} {kd : ab_KD} {kv : Nat → Nat → Int} {wc : Nat → Int} {PS : ab_PS} {FK : List fw_CR} {lev rk : Nat} {dt : ab_DT} {own : String} {mn : Nat} {sp : fw_SP}
    (mr : ab_MR) (hmr : MT[mn]? = some mr)
    (hinj : ∀ i j, i < sh.length → j < sh.length → ad i = ad j → i = j) (hTT : ∀ w ∈ TT, goodWord w = true) (hcode : ∀ mr ∈ MT, goodWord (Jvm.Cond.code mr.1 mr.2.1 mr.2.2.1 mr.2.2.2.1) = true)
    (hKI : ∀ q ∈ KI, Jvm.Cond.constant own q.1 (Int32.ofInt q.2) ∈ TT) (hKJ : ∀ q ∈ KJ, Jvm.Cond.constantLong own q.1 (Int64.ofInt q.2) ∈ TT) (hPF : ∀ q ∈ PF, ab_fok cl TT own q) (hPS : ∀ q ∈ PS, ab_psok TT kd own q)
    (hy : plainName mr.1.cls = true) (hown : mr.1.cls = own) (hrk : ab_rkok rk mr.2.2.2.1)
    (hFK : ∀ q ∈ FK, fw_rok l cy ad wr cr D cl sh NW kd kv wc TT TT MT own q) (hdt : ab_dtok mr.2.1 dt = true)
    (hgo : ∀ (as : List ab_AV) (σ : ab_SG) (K : fw_KR), sp as σ K → (ab_cat as).ble mr.2.2.1 = true ∧ ∀ G : fw_K, fw_cls (fw_st cl sh kd kv wc KI KJ PF PS FK lev dt mr.2.2.1 rk) K G → G 0 (fw_en mr.2.2.1 as) [] σ) :
    fw_hold l cy ad wr cr D cl sh NW kd kv wc TT MT mn lev sp := by
  intro mr9 hmr9 as σ sz K hsp
  rw [hmr] at hmr9
  cases hmr9
  obtain ⟨hfit, hgo⟩ := hgo as σ K hsp
  refine Met.ofW (cc := mr.2.1) (maxL := mr.2.2.1) (ret := mr.2.2.2.1) hy rfl ?_
  intro p e s m args below meth c s₁ B hml hv
  obtain ⟨rfl, hsz, hP, hKK, hN, hCB⟩ := hv
  have hts := atoms_spec (ws := Jvm.Cond.code mr.1 mr.2.1 mr.2.2.1 mr.2.2.2.1 :: TT) B.pre
  have hown2 : s.vm.findClass own = some m.cls := by rw [← hown]; exact findClass_of_methodNamed B.named
  subst hsz
  have hA : ∀ k, k < sh.length → ab_A ad sh.length s.heap.size (ad k) := fun k hk => Or.inl ⟨k, hk, rfl⟩
  have hsub : ∀ w ∈ TT, w ∈ (Jvm.Cond.code mr.1 mr.2.1 mr.2.2.1 mr.2.2.2.1 :: TT) := fun w hw => List.mem_cons_of_mem _ hw
  have hE : fw_Ev p l s m (as.map (ab_V ad wr cr fw_z)).toArray meth c mr.2.1 mr.2.2.1 lev rk (headSpec (Jvm.Cond.code mr.1 mr.2.1 mr.2.2.1 mr.2.2.2.1 :: TT) (ab_room lev)).room cy ad wr cr D cl sh own (ab_A ad sh.length s.heap.size) (Jvm.Cond.code mr.1 mr.2.1 mr.2.2.1 mr.2.2.2.1 :: TT) TT NW MT KI KJ PF kd kv wc PS FK dt mr.2.2.2.1 :=
    ⟨B.exec, B.bytes, hml, hown2, hts, hKK, hN, fun w hw => ⟨hsub w hw, hTT w hw⟩, hcode, hA, fun q hq => Or.inr hq, fun q hq => fw_rok_mono (hFK q hq) hsub, ⟨Nat.le_refl _, Nat.le_refl _⟩, fun q hq => hts _ (hsub _ (hKI q hq)), fun q hq => hts _ (hsub _ (hKJ q hq)), fun q hq => ab_fok_mono (hPF q hq) hsub, ab_WD_D hinj hA, hCB, fun q hq => ab_psok_mono (hPS q hq) hsub, hdt, B.returns, hrk, B.notSynchronized⟩
  have hl := lv_entry (as.map (ab_V ad wr cr fw_z)) (n := mr.2.2.1) (ab_fit_len hfit)
  rw [lg_entry_eq]
  generalize (lg_sl (as.map (ab_V ad wr cr fw_z)) ++ List.replicate (mr.2.2.1 - (lg_sl (as.map (ab_V ad wr cr fw_z))).length) Slot.unset).toArray = ls at hl ⊢
  exact hgo _ (fw_st_ok hE) s.heap [] ls [] ⟨hl.1, hl.2.1, fun j b hb => by
    have := hl.2.2 _ (fw_en_ok (ad := ad) (wr := wr) (cr := cr) as mr.2.2.1 0 j b hb)
    rw [Nat.zero_add] at this
    exact this⟩ rfl hP va_S.rf
