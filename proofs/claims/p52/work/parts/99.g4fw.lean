section
/-! one instruction, then on, till a place that is named -/
abbrev fw_K : Type := Nat → fw_L → List ab_AV → ab_SG → Prop
def fw_rt (rk : Nat) (i : Instr) (len : Nat) (S : List ab_AV) (K : Option ab_AV → Prop) : Prop := match i, S with
  | .ireturn, [(0, s, c)] => fw_if (len.beq 1) (match rk with
    | 0 => K (some (0, s, c))
    | 1 => (0 ≤ fw_c c ∧ fw_c c ≤ 1) ∧ K (some (0, s, c))
    | _ => False)
  | .lreturn, [(1, s, c)] => fw_if (len.beq 1 && rk.beq 2) (K (some (1, s, c)))
  | .areturn, [a] => fw_if (len.beq 1 && rk.beq 3 && (2 : Nat).ble a.1) (K (some a))
  | .return_, [] => fw_if (len.beq 1 && rk.beq 4) (K none)
  | _, _ => False
def fw_h1 (cl : List vw_C) (sh : List ab_SP) (kd : ab_KD) (kv : Nat → Nat → Int) (wc : Nat → Int) (PF : ab_PT) (PS : ab_PS) (i : Instr) (len : Nat) (S : List ab_AV) (σ : ab_SG) (K : fw_KH) : Prop := match i, S with
  | .getfield x, (4, s, c) :: S => fw_ks kd kv wc PS (.getfield x) len ((4, s, c) :: S) (fun S' => K S' σ)
  | .iaload, a :: (5, k, z) :: S => fw_ks kd kv wc PS .iaload len (a :: (5, k, z) :: S) (fun S' => K S' σ)
  | .laload, a :: (5, k, z) :: S => fw_ks kd kv wc PS .laload len (a :: (5, k, z) :: S) (fun S' => K S' σ)
  | .aaload, S => fw_ks kd kv wc PS .aaload len S (fun S' => K S' σ)
  | .arraylength, (5, k, z) :: S => fw_ks kd kv wc PS .arraylength len ((5, k, z) :: S) (fun S' => K S' σ)
  | i, S => fw_hp cl sh PF i len S σ K
def fw_p0 (KI KJ : List (Nat × Int)) (nL pc : Nat) (i : Instr) (len : Nat) (L : fw_L) (S : List ab_AV) (σ : ab_SG) (K : fw_K) : Prop := match fw_pu KI KJ nL i len L S with
  | some r => K (pc + len) r.1 r.2 σ
  | none => match fw_dv i len S with
    | some q => q.1 ≠ 0 ∧ K (pc + len) L q.2 σ
    | none => False
def fw_p3 (sh : List ab_SP) (PS : ab_PS) (FK : List fw_CR) (lev pc : Nat) (i : Instr) (len : Nat) (L : fw_L) (S : List ab_AV) (σ : ab_SG) (K : fw_K) : Prop := match i with
  | .invokestatic x => match ab_pk PS x with
    | some z => fw_mth z lev len S (fun S' => K (pc + 3) L S' σ)
    | none => fw_cl sh FK lev (.invokestatic x) len S σ (fun S' σ' => K (pc + 3) L S' σ')
  | i => fw_cl sh FK lev i len S σ (fun S' σ' => K (pc + 3) L S' σ')
/-- one instruction -/
def fw_st (cl : List vw_C) (sh : List ab_SP) (kd : ab_KD) (kv : Nat → Nat → Int) (wc : Nat → Int) (KI KJ : List (Nat × Int)) (PF : ab_PT) (PS : ab_PS) (FK : List fw_CR) (lev : Nat) (dt : ab_DT) (nL rk : Nat) (K : fw_K) (R : fw_KR) : fw_K := fun pc L S σ => match ab_dec dt pc with
  | some (i, len, h) => match h with
    | 0 => fw_p0 KI KJ nL pc i len L S σ K
    | 1 => fw_h1 cl sh kd kv wc PF PS i len S σ (fun S' σ' => K (pc + len) L S' σ')
    | 2 => fw_br pc i len (match ab_dec dt (pc + 1) with | some q => some (q.1, q.2.1) | none => none) S (fun n S' => K n L S' σ)
    | 3 => fw_p3 sh PS FK lev pc i len L S σ K
    | 4 => fw_ks kd kv wc PS i len S (fun S' => K (pc + len) L S' σ)
    | 5 => fw_br pc i len none S (fun n S' => K n L S' σ)
    | _ => fw_rt rk i len S (fun rv => R rv σ)
  | none => False
/-- from here on, till a place of HD -/
def fw_run (stp : fw_K → fw_KR → fw_K) (HD : List Nat) (G : fw_K) (R : fw_KR) : Nat → fw_K
  | 0 => G
  | n + 1 => fun pc L S σ => match HD.any (fun h => h.beq pc) with
    | true => G pc L S σ
    | false => stp (fw_run stp HD G R n) R pc L S σ
/-- what holds wherever one more instruction leads to where it holds -/
def fw_cls (stp : fw_K → fw_KR → fw_K) (R : fw_KR) (G : fw_K) : Prop := ∀ K : fw_K, (∀ pc L S σ, K pc L S σ → G pc L S σ) → ∀ pc L S σ, stp K R pc L S σ → G pc L S σ
theorem fw_runG {stp : fw_K → fw_KR → fw_K} {HD : List Nat} {G : fw_K} {R : fw_KR} (hG : fw_cls stp R G) : ∀ (n : Nat) (pc : Nat) (L : fw_L) (S : List ab_AV) (σ : ab_SG), fw_run stp HD G R n pc L S σ → G pc L S σ := by
  intro n
  induction n with
  | zero => intro pc L S σ h; exact h
  | succ n ih =>
    intro pc L S σ h
    unfold fw_run at h
    cases hc : HD.any (fun h => h.beq pc) with
    | true => rw [hc] at h; exact h
    | false => rw [hc] at h; exact hG _ ih pc L S σ h
/-- from a named place on: one instruction at least -/
theorem fw_on {stp : fw_K → fw_KR → fw_K} {G : fw_K} {R : fw_KR} (hG : fw_cls stp R G) (HD : List Nat) (n : Nat) {pc : Nat} {L : fw_L} {S : List ab_AV} {σ : ab_SG} (h : stp (fw_run stp HD G R n) R pc L S σ) : G pc L S σ := hG _ (fw_runG hG n) pc L S σ h
section
variable {p : Program} {l : Launch} {e : Env} {R : Room} {s : State} {m : MethodId} {args : Array Value} {below : List Frame} {meth : Method} {c : Code} {H : Heap} {locs : List Loc} {cc : ByteArray} {pc : Nat} {ls : Array Slot} {st : List Value}
variable {ad wr cr : Nat → Nat} {cy : Nat → ClassId} {nL lev rk : Nat} {S : List ab_AV} {own : String} {i : Instr} {len : Nat} {D : va_G} {cl : List vw_C} {sh : List ab_SP} {A : Nat → Prop} {Ts TT : List Jvm.Cond} {NW : ab_NW} {kd : ab_KD} {kv : Nat → Nat → Int} {wc : Nat → Int} {MT : List ab_MR} {FK : List fw_CR} {σ : ab_SG} {KI KJ : List (Nat × Int)} {PF : ab_PT} {PS : ab_PS} {dt : ab_DT}
theorem fw_rt_ok {ret : Option FieldType} {K : fw_KR} (hx : p.tables.exec = Jvm.exec) (hb : c.code = cc) (hret : meth.sig.returnType = ret) (hrk : ab_rkok rk ret) (hlocks : meth.locks = false)
    (h : fw_rt rk i len S (fun rv => K rv σ)) (hdg : decode cc pc = .ok (i, len)) (hS : fw_okS ad wr cr S st) (hP : va_P D cl (ab_WD cy ad wr sh σ) H) (hSS : va_S A s.heap H locs) :
    W p l e R s m args below meth c H locs 0 0 (MQ below (fw_QC cy ad wr cr D cl sh K A) args s 0 0 A) (F0 m pc ls st) := by
  have post : ∀ (rv : Option ab_AV), K rv σ → ∀ t : State, t.heap = H → fw_QC cy ad wr cr D cl sh K A args s (.returned (rv.map (ab_V ad wr cr fw_z))) t := fun rv hk t ht => ⟨⟨rv, σ, rfl, hk, by rw [ht]; exact hP⟩, hSS.F ht⟩
  unfold fw_rt at h
  split at h
  · rename_i s9 c9
    have h0 := fw_if_ok h
    clear h
    obtain ⟨g, h⟩ := h0
    have := ab_beq g; subst this
    obtain ⟨st1, rfl, hS1⟩ := fw_pop hS
    have : st1 = [] := hS1
    subst this
    split at h
    · exact W.iret hx hb (hret.trans hrk) (fun t ht _ => post _ h t ht) hSS.2.2 hdg hlocks
    · refine W.zret hx hb (hret.trans hrk) ?_ (fun t ht _ => post _ h.2 t ht) hSS.2.2 hdg hlocks
      have e1 := (ab_nar_zv h.1.1 h.1.2).1
      rw [fw_c_of] at e1
      show narrow .boolean (.int (Int32.ofInt (0 + c9))) = .int (Int32.ofInt (0 + c9))
      rw [Int.zero_add]
      exact e1
    · exact h.elim
  · rename_i s9 c9
    have h0 := fw_if_ok h
    clear h
    obtain ⟨g, h⟩ := h0
    rw [Bool.and_eq_true] at g
    have := ab_beq g.1; subst this
    have g2 := ab_beq g.2
    subst g2
    obtain ⟨st1, rfl, hS1⟩ := fw_pop hS
    have : st1 = [] := hS1
    subst this
    exact W.lret hx hb (hret.trans hrk) (fun t ht _ => post _ h t ht) hSS.2.2 hdg hlocks
  · rename_i a9
    have h0 := fw_if_ok h
    clear h
    obtain ⟨g, h⟩ := h0
    rw [Bool.and_eq_true, Bool.and_eq_true] at g
    have := ab_beq g.1.1; subst this
    have g2 := ab_beq g.1.2
    subst g2
    obtain ⟨st1, rfl, hS1⟩ := fw_pop hS
    have : st1 = [] := hS1
    subst this
    obtain ⟨n9, hn9⟩ := hrk
    refine W.aret (v := ab_V ad wr cr fw_z a9) hx hb (hret.trans hn9) (Or.inl ⟨n9, rfl⟩) ?_ (fun t ht _ => post (some a9) h t ht) hSS.2.2 hdg hlocks
    rcases ab_ref (ad := ad) (wr := wr) (cr := cr) (ρ := fw_z) g.2 with ⟨x, hx1⟩ | hx1
    · exact Or.inr ⟨x, hx1⟩
    · exact Or.inl hx1
  · have h0 := fw_if_ok h
    clear h
    obtain ⟨g, h⟩ := h0
    rw [Bool.and_eq_true] at g
    have := ab_beq g.1; subst this
    have g2 := ab_beq g.2
    subst g2
    have : st = [] := hS
    subst this
    exact W.vret hx hb (hret.trans hrk) (fun t ht _ => post none h t ht) hSS.2.2 hdg hlocks
  · exact h.elim
def fw_Ev (p : Program) (l : Launch) (s : State) (m : MethodId) (args : Array Value) (meth : Method) (c : Code) (cc : ByteArray) (nL lev rk : Nat) (R : Room) (cy : Nat → ClassId) (ad wr cr : Nat → Nat) (D : va_G) (cl : List vw_C) (sh : List ab_SP) (own : String) (A : Nat → Prop) (Ts TT : List Jvm.Cond) (NW : ab_NW) (MT : List ab_MR) (KI KJ : List (Nat × Int)) (PF : ab_PT) (kd : ab_KD) (kv : Nat → Nat → Int) (wc : Nat → Int) (PS : ab_PS) (FK : List fw_CR) (dt : ab_DT) (ret : Option FieldType) : Prop :=
  p.tables.exec = Jvm.exec ∧ c.code = cc ∧ c.maxLocals = nL ∧ s.vm.findClass own = some m.cls ∧ (∀ w ∈ Ts, w.before args s = true) ∧ va_K D cl (ab_tys cy) s ∧ ab_okN NW s ∧ (∀ w ∈ TT, w ∈ Ts ∧ goodWord w = true) ∧ (∀ mr ∈ MT, goodWord (Jvm.Cond.code mr.1 mr.2.1 mr.2.2.1 mr.2.2.2.1) = true) ∧
  (∀ k, k < sh.length → A (ad k)) ∧ (∀ q, s.heap.size ≤ q → A q) ∧ (∀ q ∈ FK, fw_rok l cy ad wr cr D cl sh NW kd kv wc Ts TT MT own q) ∧ (lev ≤ R.frames ∧ 40 * lev ≤ R.locals) ∧
  (∀ q ∈ KI, (Jvm.Cond.constant own q.1 (Int32.ofInt q.2)).before args s = true) ∧ (∀ q ∈ KJ, (Jvm.Cond.constantLong own q.1 (Int64.ofInt q.2)).before args s = true) ∧ (∀ q ∈ PF, ab_fok cl Ts own q) ∧ (∀ σ, va_D A (ab_WD cy ad wr sh σ)) ∧ fw_CB cy ad wr cr kd kv wc A s ∧ (∀ q ∈ PS, ab_psok Ts kd own q) ∧ ab_dtok cc dt = true ∧
  meth.sig.returnType = ret ∧ ab_rkok rk ret ∧ meth.locks = false
/-- at the machine: from such a frame on it comes to an end as K says -/
def fw_Go (p : Program) (l : Launch) (e : Env) (R : Room) (s : State) (m : MethodId) (args : Array Value) (below : List Frame) (meth : Method) (c : Code) (cy : Nat → ClassId) (ad wr cr : Nat → Nat) (D : va_G) (cl : List vw_C) (sh : List ab_SP) (A : Nat → Prop) (nL : Nat) (K : fw_KR) : fw_K := fun pc L S σ =>
  ∀ (H : Heap) (locs : List Loc) (ls : Array Slot) (st : List Value), fw_okL ad wr cr nL L ls → fw_okS ad wr cr S st → va_P D cl (ab_WD cy ad wr sh σ) H → va_S A s.heap H locs → W p l e R s m args below meth c H locs 0 0 (MQ below (fw_QC cy ad wr cr D cl sh K A) args s 0 0 A) (F0 m pc ls st)
set_option maxHeartbeats 4000000 in
theorem fw_st_ok {ret : Option FieldType} {Kr : fw_KR} (hE : fw_Ev p l s m args meth c cc nL lev rk R cy ad wr cr D cl sh own A Ts TT NW MT KI KJ PF kd kv wc PS FK dt ret) :
    fw_cls (fw_st cl sh kd kv wc KI KJ PF PS FK lev dt nL rk) Kr (fw_Go p l e R s m args below meth c cy ad wr cr D cl sh A nL Kr) := by
  intro K hKG pc L S σ h H locs ls st hL hS hP hSS
  obtain ⟨hx, hb, hml, hown, hts, hKK, hN, hTT, hcode, hA, hA2, hFK, hR, hKI, hKJ, hPF, hD, hCB, hPS, hdt, hret, hrk, hlk⟩ := hE
  have hlz : ls.size = nL := hL.1
  have go : ∀ (n : Nat), fw_go p l e R s m args below meth c 0 0 (MQ below (fw_QC cy ad wr cr D cl sh Kr A) args s 0 0 A) ad wr cr cy D cl sh A s.heap (fun S' σ' => K n L S' σ') n ls := fun n S' σ' H' locs' st' hk hP' hSS' hS' => hKG _ _ _ _ hk H' locs' ls st' hL hS' hP' hSS'
  have gb : ∀ (n : Nat) (S' : List ab_AV) (st' : List Value), K n L S' σ → fw_okS ad wr cr S' st' → W p l e R s m args below meth c H locs 0 0 (MQ below (fw_QC cy ad wr cr D cl sh Kr A) args s 0 0 A) (F0 m n ls st') := fun n S' st' hk hS' => hKG _ _ _ _ hk H locs ls st' hL hS' hP hSS
  unfold fw_st at h
  split at h
  · rename_i i9 len9 h9 hdec
    have hdg : decode cc pc = .ok (i9, len9) := ab_dec_ok hdt hdec
    split at h
    · unfold fw_p0 at h
      split at h
      · rename_i r9 hr9
        obtain ⟨L', S'⟩ := r9
        exact fw_pu_ok hx hb hown hKI hKJ hr9 hdg hL hS (fun ls' st' hL' hS' => hKG _ _ _ _ h H locs ls' st' hL' hS' hP hSS)
      · split at h
        · rename_i q9 hq9
          obtain ⟨d9, S'⟩ := q9
          exact fw_dv_ok hx hb hq9 h.1 hdg hS (fun st' hS' => gb _ _ _ h.2 hS')
        · exact h.elim
    · unfold fw_h1 at h
      split at h
      · exact fw_ks_ok hx hb hown hts hCB hPS h hdg hS hSS (fun S' st' hk hS' => gb _ _ _ hk hS')
      · exact fw_ks_ok hx hb hown hts hCB hPS h hdg hS hSS (fun S' st' hk hS' => gb _ _ _ hk hS')
      · exact fw_ks_ok hx hb hown hts hCB hPS h hdg hS hSS (fun S' st' hk hS' => gb _ _ _ hk hS')
      · exact fw_ks_ok hx hb hown hts hCB hPS h hdg hS hSS (fun S' st' hk hS' => gb _ _ _ hk hS')
      · exact fw_ks_ok hx hb hown hts hCB hPS h hdg hS hSS (fun S' st' hk hS' => gb _ _ _ hk hS')
      · exact fw_hp_ok hx hb hown hts hKK hD hPF h hdg hS hP hSS (go _)
    · refine fw_br_ok hx hb hCB.2.2.2 h hdg (fun j n hj => ?_) hS (fun n S' st' hk hS' => gb _ _ _ hk hS')
      split at hj
      · rename_i q9 hq9
        cases hj
        exact ab_dec_ok hdt hq9
      · cases hj
    · unfold fw_p3 at h
      split at h
      · rename_i x9
        split at h
        · rename_i z9 hz9
          exact fw_mth_ok hx hb (hml.trans hlz.symm) hown hts (hPS _ (ab_pk_mem hz9)) hR (Nat.zero_le _) (Nat.zero_le _) h hdg hS (fun S' st' hk hS' => gb _ _ _ hk hS')
        · exact fw_cl_ok ⟨Nat.zero_le _, Nat.zero_le _⟩ hx hb hml hown hts hKK hN hCB rfl hTT hcode hA hA2 hFK hR h hdg hS hlz hP hSS (go _)
      · exact fw_cl_ok ⟨Nat.zero_le _, Nat.zero_le _⟩ hx hb hml hown hts hKK hN hCB rfl hTT hcode hA hA2 hFK hR h hdg hS hlz hP hSS (go _)
    · exact fw_ks_ok hx hb hown hts hCB hPS h hdg hS hSS (fun S' st' hk hS' => gb _ _ _ hk hS')
    · exact fw_br_ok hx hb hCB.2.2.2 h hdg (fun j n hj => by cases hj) hS (fun n S' st' hk hS' => gb _ _ _ hk hS')
    · exact fw_rt_ok hx hb hret hrk hlk h hdg hS hP hSS
  · exact h.elim
end
theorem fw_rok_mono {l : Launch} {cy : Nat → ClassId} {ad wr cr : Nat → Nat} {D : va_G} {cl : List vw_C} {sh : List ab_SP} {NW : ab_NW} {kd : ab_KD} {kv : Nat → Nat → Int} {wc : Nat → Int} {Ts Ts' TT : List Jvm.Cond} {MT : List ab_MR} {own : String} {q : fw_CR} (h : fw_rok l cy ad wr cr D cl sh NW kd kv wc Ts TT MT own q) (hs : ∀ w ∈ Ts, w ∈ Ts') : fw_rok l cy ad wr cr D cl sh NW kd kv wc Ts' TT MT own q := by
  obtain ⟨mn, k, mr, h1, h2, h3, h4, h5, h6, h7⟩ := h
  exact ⟨mn, k, mr, h1, h2, h3, h4, h5, ab_mlk_mono h6 hs, h7⟩
/-- a method does what is said of it -/
theorem fw_met {l : Launch} {cy : Nat → ClassId} {ad wr cr : Nat → Nat} {D : va_G} {cl : List vw_C} {sh : List ab_SP} {NW : ab_NW} {TT : List Jvm.Cond} {MT : List ab_MR} {KI KJ : List (Nat × Int)} {PF : ab_PT} {kd : ab_KD} {kv : Nat → Nat → Int} {wc : Nat → Int} {PS : ab_PS} {FK : List fw_CR} {lev rk : Nat} {dt : ab_DT} {own : String} {mn : Nat} {sp : fw_SP}
    (mr : ab_MR) (hmr : MT[mn]? = some mr)
    (hinj : ∀ i j, i < sh.length → j < sh.length → ad i = ad j → i = j) (hTT : ∀ w ∈ TT, goodWord w = true) (hcode : ∀ mr ∈ MT, goodWord (Jvm.Cond.code mr.1 mr.2.1 mr.2.2.1 mr.2.2.2.1) = true)
    (hKI : ∀ q ∈ KI, Jvm.Cond.constant own q.1 (Int32.ofInt q.2) ∈ TT) (hKJ : ∀ q ∈ KJ, Jvm.Cond.constantLong own q.1 (Int64.ofInt q.2) ∈ TT) (hPF : ∀ q ∈ PF, ab_fok cl TT own q) (hPS : ∀ q ∈ PS, ab_psok TT kd own q)
    (hy : plainName mr.1.cls = true) (hown : mr.1.cls = own) (hrk : ab_rkok rk mr.2.2.2.1)
    (hFK : ∀ q ∈ FK, fw_rok l cy ad wr cr D cl sh NW kd kv wc TT TT MT own q) (hdt : ab_dtok mr.2.1 dt = true)
    (hgo : ∀ (as : List ab_AV) (σ : ab_SG) (K : fw_KR), sp as σ K → (ab_cat as).ble mr.2.2.1 = true ∧ ∀ G : fw_K, fw_cls (fw_st cl sh kd kv wc KI KJ PF PS FK lev dt mr.2.2.1 rk) K G → G 0 (fw_en mr.2.2.1 as) [] σ) :
    fw_hold l cy ad wr cr D cl sh NW kd kv wc TT MT mn lev sp := by
  intro mr9 hmr9 as σ sz K hsp
  rw [hmr] at hmr9
  cases hmr9
  obtain ⟨hfit, hgo⟩ := hgo as σ K hsp
  refine Met.ofW (cc := mr.2.1) (maxL := mr.2.2.1) (ret := mr.2.2.2.1) hy rfl ?_
  intro p e s m args below meth c s₁ B hml hv
  obtain ⟨rfl, hsz, hP, hKK, hN, hCB⟩ := hv
  have hts := atoms_spec (ws := Jvm.Cond.code mr.1 mr.2.1 mr.2.2.1 mr.2.2.2.1 :: TT) B.pre
  have hown2 : s.vm.findClass own = some m.cls := by rw [← hown]; exact findClass_of_methodNamed B.named
  subst hsz
  have hA : ∀ k, k < sh.length → ab_A ad sh.length s.heap.size (ad k) := fun k hk => Or.inl ⟨k, hk, rfl⟩
  have hsub : ∀ w ∈ TT, w ∈ (Jvm.Cond.code mr.1 mr.2.1 mr.2.2.1 mr.2.2.2.1 :: TT) := fun w hw => List.mem_cons_of_mem _ hw
  have hE : fw_Ev p l s m (as.map (ab_V ad wr cr fw_z)).toArray meth c mr.2.1 mr.2.2.1 lev rk (headSpec (Jvm.Cond.code mr.1 mr.2.1 mr.2.2.1 mr.2.2.2.1 :: TT) (ab_room lev)).room cy ad wr cr D cl sh own (ab_A ad sh.length s.heap.size) (Jvm.Cond.code mr.1 mr.2.1 mr.2.2.1 mr.2.2.2.1 :: TT) TT NW MT KI KJ PF kd kv wc PS FK dt mr.2.2.2.1 :=
    ⟨B.exec, B.bytes, hml, hown2, hts, hKK, hN, fun w hw => ⟨hsub w hw, hTT w hw⟩, hcode, hA, fun q hq => Or.inr hq, fun q hq => fw_rok_mono (hFK q hq) hsub, ⟨Nat.le_refl _, Nat.le_refl _⟩, fun q hq => hts _ (hsub _ (hKI q hq)), fun q hq => hts _ (hsub _ (hKJ q hq)), fun q hq => ab_fok_mono (hPF q hq) hsub, ab_WD_D hinj hA, hCB, fun q hq => ab_psok_mono (hPS q hq) hsub, hdt, B.returns, hrk, B.notSynchronized⟩
  have hl := lv_entry (as.map (ab_V ad wr cr fw_z)) (n := mr.2.2.1) (ab_fit_len hfit)
  rw [lg_entry_eq]
  generalize (lg_sl (as.map (ab_V ad wr cr fw_z)) ++ List.replicate (mr.2.2.1 - (lg_sl (as.map (ab_V ad wr cr fw_z))).length) Slot.unset).toArray = ls at hl ⊢
  exact hgo _ (fw_st_ok hE) s.heap [] ls [] ⟨hl.1, hl.2.1, fun j b hb => by
    have := hl.2.2 _ (fw_en_ok (ad := ad) (wr := wr) (cr := cr) as mr.2.2.1 0 j b hb)
    rw [Nat.zero_add] at this
    exact this⟩ rfl hP va_S.rf
end
section
/-! contracts over known numbers, with this place's tables -/
def fw_kv (k j : Nat) : Int := match k with
  | 1 => ([1, 9, 81, 729, 6561, 59049, 531441, 4782969, 43046721, 387420489] : List Int).getD j 0
  | 2 => ([2520, 1260, 840, 630, 504, 420, 360, 315, 280] : List Int).getD j 0
  | _ => 0
def fw_wc (i : Nat) : Int := ([677317, 111269, 542723566, 12009203, 132677, 215533, 460197, 498, 1476, 14836, 302, 644677, 402789, 15192243, 271592, 12791, 2262675] : List Int).getD i 0
abbrev fw_H (l : Launch) (cy : Nat → ClassId) (ad wr cr : Nat → Nat) (D : va_G) (mn lev : Nat) (sp : fw_SP) : Prop := fw_hold l cy ad wr cr D vwCl nn_sh nn_NW nn_kd fw_kv fw_wc nn_TT nn_MT mn lev sp
abbrev fw_R (l : Launch) (cy : Nat → ClassId) (ad wr cr : Nat → Nat) (D : va_G) (own : String) (q : fw_CR) : Prop := fw_rok l cy ad wr cr D vwCl nn_sh nn_NW nn_kd fw_kv fw_wc nn_TT nn_TT nn_MT own q
theorem fw_row {l : Launch} {cy : Nat → ClassId} {ad wr cr : Nat → Nat} {D : va_G} {own : String} {PM : ab_PC2} (hPM : ∀ q ∈ PM, ab_mlk nn_MT nn_TT nn_NW own q) {x np ci lev mn k : Nat} {ob : Bool} {sp : fw_SP} (mr : ab_MR) (h1 : nn_MT[mn]? = some mr) (h2 : (x, k, mn) ∈ PM) (h3 : mr.2.2.2.2.1 = np) (h4 : mr.2.2.2.2.2.1 = ob) (h5 : mr.2.2.1 ≤ 21)
    (h6 : ob = true → ∃ (T9 : u_T) (N9 : Nat), vwCl[ci]? = some (mr.1.cls, T9, N9)) (h : fw_H l cy ad wr cr D mn lev sp) : fw_R l cy ad wr cr D own (x, np, ob, ci, lev, sp) := ⟨mn, k, mr, h1, h3, h4, h5, h6, hPM _ h2, h⟩
theorem fw_mk {l : Launch} {cy : Nat → ClassId} {ad wr cr : Nat → Nat} {D : va_G} {own : String} {KI KJ : List (Nat × Int)} {PF : ab_PT} {PS : ab_PS} {FK : List fw_CR} {lev rk mn : Nat} {dt : ab_DT} {sp : fw_SP} (hinj : nn_inj ad) (mr : ab_MR) (h1 : nn_MT[mn]? = some mr) (h2 : nn_DT[mn]? = some dt)
    (hKI : ∀ q ∈ KI, Jvm.Cond.constant own q.1 (Int32.ofInt q.2) ∈ nn_TT) (hKJ : ∀ q ∈ KJ, Jvm.Cond.constantLong own q.1 (Int64.ofInt q.2) ∈ nn_TT) (hPF : ∀ q ∈ PF, ab_fok vwCl nn_TT own q) (hPS : ∀ q ∈ PS, ab_psok nn_TT nn_kd own q)
    (hy : plainName mr.1.cls = true) (hown : mr.1.cls = own) (hrk : nn_rkB rk mr.2.2.2.1 = true) (hFK : ∀ q ∈ FK, fw_R l cy ad wr cr D own q)
    (hgo : ∀ (as : List ab_AV) (σ : ab_SG) (K : fw_KR), sp as σ K → (ab_cat as).ble mr.2.2.1 = true ∧ ∀ G : fw_K, fw_cls (fw_st vwCl nn_sh nn_kd fw_kv fw_wc KI KJ PF PS FK lev dt mr.2.2.1 rk) K G → G 0 (fw_en mr.2.2.1 as) [] σ) : fw_H l cy ad wr cr D mn lev sp :=
  fw_met mr h1 hinj nn_TT_good nn_MT_code hKI hKJ hPF hPS hy hown (nn_rk_ok hrk) hFK (nn_DT_ok h1 h2) hgo
def fw_bo (p : Prop) [Decidable p] : Int := if p then 1 else 0
theorem fw_bo_t {p : Prop} [Decidable p] (h : p) : fw_bo p = 1 := if_pos h
theorem fw_bo_f {p : Prop} [Decidable p] (h : ¬ p) : fw_bo p = 0 := if_neg h
theorem fw_c0 : fw_c 0 = 0 := fw_c_id (by decide) (by decide)
theorem fw_c1 : fw_c 1 = 1 := fw_c_id (by decide) (by decide)
theorem fw_bo_c {p : Prop} [Decidable p] : fw_c (fw_bo p) = fw_bo p := by
  unfold fw_bo
  split
  · exact fw_c1
  · exact fw_c0
theorem fw_bo_ne {p : Prop} [Decidable p] (h : fw_c (fw_bo p) ≠ 0) : p := by
  by_cases hp : p
  · exact hp
  · exact absurd (by rw [fw_bo_c, fw_bo_f hp]) h
theorem fw_bo_eq {p : Prop} [Decidable p] (h : fw_c (fw_bo p) = 0) : ¬ p := fun hp => by
  rw [fw_bo_c, fw_bo_t hp] at h
  exact absurd h (by decide)
theorem fw_01 : 0 ≤ fw_c 0 ∧ fw_c 0 ≤ 1 := by rw [fw_c0]; decide
theorem fw_11 : 0 ≤ fw_c 1 ∧ fw_c 1 ≤ 1 := by rw [fw_c1]; decide
/-! the tape's small methods: what they do -/
def sp_isBlank : fw_SP := fun as σ K => ∃ x : Int, as = [(0, 0, x)] ∧ K (some (0, 0, fw_bo (fw_c x = 32 ∨ fw_c x = 10))) σ
def sp_isLetter : fw_SP := fun as σ K => ∃ x : Int, as = [(0, 0, x)] ∧ K (some (0, 0, fw_bo (97 ≤ fw_c x ∧ fw_c x ≤ 122))) σ
def sp_isDigit : fw_SP := fun as σ K => ∃ x : Int, as = [(0, 0, x)] ∧ K (some (0, 0, fw_bo (48 ≤ fw_c x ∧ fw_c x ≤ 57))) σ
def sp_isSign : fw_SP := fun as σ K => ∃ x : Int, as = [(0, 0, x)] ∧ K (some (0, 0, fw_bo (fw_c x = 59 ∨ (60 ≤ fw_c x ∧ fw_c x ≤ 62) ∨ fw_c x = 40 ∨ fw_c x = 41 ∨ fw_c x = 46))) σ
/-- byte i of the class's tape, nought behind it -/
def tp_lk (σ : ab_SG) (i : Int) : Int := if 0 ≤ fw_c i ∧ fw_c i < fw_c (σ 1 1) ∧ fw_c i < 940 then fw_op 8 (σ 2 (fw_c i).toNat) 255 else 0
def sp_look : fw_SP := fun as σ K => ∃ x : Int, as = [(2, 1, 0), (0, 0, x)] ∧ K (some (0, 0, tp_lk σ x)) σ
end
section
/-! the class's tape: its small methods -/
abbrev fk_isBlank : List fw_CR := []
abbrev st_isBlank : fw_K → fw_KR → fw_K := fw_st vwCl nn_sh nn_kd fw_kv fw_wc (nn_KI2.map (fun x => x.1)) (nn_KJ2.map (fun x => x.1)) (nn_PF2.map (fun x => x.1)) (nn_PS2.map (fun x => x.1)) fk_isBlank 0 nn_dt12 1 1
theorem fs_isBlank_0 {G : fw_K} {R : fw_KR} (hG : fw_cls st_isBlank R G) {x : Int} {σ : ab_SG} (h : (fw_c x = fw_c 32 → (0 ≤ fw_c 1 ∧ fw_c 1 ≤ 1) ∧ R (some (0, 0, 1)) σ) ∧ (fw_c x ≠ fw_c 32 → (fw_c x ≠ fw_c 10 → (0 ≤ fw_c 0 ∧ fw_c 0 ≤ 1) ∧ R (some (0, 0, 0)) σ) ∧ (fw_c x = fw_c 10 → (0 ≤ fw_c 1 ∧ fw_c 1 ≤ 1) ∧ R (some (0, 0, 1)) σ))) : G 0 [some (0, 0, x)] [] σ := fw_on hG [] 200 h
abbrev fk_isLetter : List fw_CR := []
abbrev st_isLetter : fw_K → fw_KR → fw_K := fw_st vwCl nn_sh nn_kd fw_kv fw_wc (nn_KI2.map (fun x => x.1)) (nn_KJ2.map (fun x => x.1)) (nn_PF2.map (fun x => x.1)) (nn_PS2.map (fun x => x.1)) fk_isLetter 0 nn_dt13 1 1
theorem fs_isLetter_0 {G : fw_K} {R : fw_KR} (hG : fw_cls st_isLetter R G) {x : Int} {σ : ab_SG} (h : (fw_c x < fw_c 97 → (0 ≤ fw_c 0 ∧ fw_c 0 ≤ 1) ∧ R (some (0, 0, 0)) σ) ∧ (fw_c 97 ≤ fw_c x → (fw_c 122 < fw_c x → (0 ≤ fw_c 0 ∧ fw_c 0 ≤ 1) ∧ R (some (0, 0, 0)) σ) ∧ (fw_c x ≤ fw_c 122 → (0 ≤ fw_c 1 ∧ fw_c 1 ≤ 1) ∧ R (some (0, 0, 1)) σ))) : G 0 [some (0, 0, x)] [] σ := fw_on hG [] 200 h
abbrev fk_isDigit : List fw_CR := []
abbrev st_isDigit : fw_K → fw_KR → fw_K := fw_st vwCl nn_sh nn_kd fw_kv fw_wc (nn_KI2.map (fun x => x.1)) (nn_KJ2.map (fun x => x.1)) (nn_PF2.map (fun x => x.1)) (nn_PS2.map (fun x => x.1)) fk_isDigit 0 nn_dt14 1 1
theorem fs_isDigit_0 {G : fw_K} {R : fw_KR} (hG : fw_cls st_isDigit R G) {x : Int} {σ : ab_SG} (h : (fw_c x < fw_c 48 → (0 ≤ fw_c 0 ∧ fw_c 0 ≤ 1) ∧ R (some (0, 0, 0)) σ) ∧ (fw_c 48 ≤ fw_c x → (fw_c 57 < fw_c x → (0 ≤ fw_c 0 ∧ fw_c 0 ≤ 1) ∧ R (some (0, 0, 0)) σ) ∧ (fw_c x ≤ fw_c 57 → (0 ≤ fw_c 1 ∧ fw_c 1 ≤ 1) ∧ R (some (0, 0, 1)) σ))) : G 0 [some (0, 0, x)] [] σ := fw_on hG [] 200 h
abbrev fk_look : List fw_CR := []
abbrev st_look : fw_K → fw_KR → fw_K := fw_st vwCl nn_sh nn_kd fw_kv fw_wc (nn_KI2.map (fun x => x.1)) (nn_KJ2.map (fun x => x.1)) (nn_PF2.map (fun x => x.1)) (nn_PS2.map (fun x => x.1)) fk_look 0 nn_dt11 2 0
theorem fs_look_0 {G : fw_K} {R : fw_KR} (hG : fw_cls st_look R G) {x : Int} {σ : ab_SG} (h : (fw_c x < 0 → R (some (0, 0, 0)) σ) ∧ (0 ≤ fw_c x → (fw_c (σ 1 1) ≤ fw_c x → R (some (0, 0, 0)) σ) ∧ (fw_c x < fw_c (σ 1 1) → (fw_c ((940 : Nat) : Int) ≤ fw_c x → R (some (0, 0, 0)) σ) ∧ (fw_c x < fw_c ((940 : Nat) : Int) → (0 ≤ fw_c x ∧ fw_c x < ((940 : Nat) : Int)) ∧ (R (some (0, 0, fw_op 8 (σ 2 (fw_c x).toNat) 255)) σ))))) : G 0 [some (2, 1, 0), some (0, 0, x)] [] σ := fw_on hG [] 200 h
section
variable {l : Launch} {cy : Nat → ClassId} {ad wr cr : Nat → Nat} {D : va_G}
theorem fm_isBlank (hinj : nn_inj ad) : fw_H l cy ad wr cr D 12 0 sp_isBlank := fw_mk hinj (⟨"NameNotes$Tape", "isBlank", "(I)Z"⟩, prog_10_method_16_code, 1, (Option.some Jvm.ClassFile.FieldType.boolean), 1, false, 1) rfl rfl nn_KI2_ok nn_KJ2_ok nn_PF2_ok nn_PS2_ok (by decide +kernel) rfl rfl (fun _ h => absurd h List.not_mem_nil) (fun as σ K h => by
  obtain ⟨x, rfl, h⟩ := h
  refine ⟨rfl, fun G hG => fs_isBlank_0 hG ?_⟩
  have e1 : fw_c 32 = 32 := fw_c_id (by decide) (by decide)
  have e2 : fw_c 10 = 10 := fw_c_id (by decide) (by decide)
  rw [e1, e2]
  refine ⟨fun q => ⟨fw_11, ?_⟩, fun q => ⟨fun q2 => ⟨fw_01, ?_⟩, fun q2 => ⟨fw_11, ?_⟩⟩⟩
  · rw [fw_bo_t (Or.inl q)] at h; exact h
  · rw [fw_bo_f (fun z => z.elim q q2)] at h; exact h
  · rw [fw_bo_t (Or.inr q2)] at h; exact h)
theorem fm_isLetter (hinj : nn_inj ad) : fw_H l cy ad wr cr D 13 0 sp_isLetter := fw_mk hinj (⟨"NameNotes$Tape", "isLetter", "(I)Z"⟩, prog_10_method_17_code, 1, (Option.some Jvm.ClassFile.FieldType.boolean), 1, false, 1) rfl rfl nn_KI2_ok nn_KJ2_ok nn_PF2_ok nn_PS2_ok (by decide +kernel) rfl rfl (fun _ h => absurd h List.not_mem_nil) (fun as σ K h => by
  obtain ⟨x, rfl, h⟩ := h
  refine ⟨rfl, fun G hG => fs_isLetter_0 hG ?_⟩
  have e1 : fw_c 97 = 97 := fw_c_id (by decide) (by decide)
  have e2 : fw_c 122 = 122 := fw_c_id (by decide) (by decide)
  rw [e1, e2]
  refine ⟨fun q => ⟨fw_01, ?_⟩, fun q => ⟨fun q2 => ⟨fw_01, ?_⟩, fun q2 => ⟨fw_11, ?_⟩⟩⟩
  · rw [fw_bo_f (by omega)] at h; exact h
  · rw [fw_bo_f (by omega)] at h; exact h
  · rw [fw_bo_t ⟨q, q2⟩] at h; exact h)
theorem fm_isDigit (hinj : nn_inj ad) : fw_H l cy ad wr cr D 14 0 sp_isDigit := fw_mk hinj (⟨"NameNotes$Tape", "isDigit", "(I)Z"⟩, prog_10_method_18_code, 1, (Option.some Jvm.ClassFile.FieldType.boolean), 1, false, 1) rfl rfl nn_KI2_ok nn_KJ2_ok nn_PF2_ok nn_PS2_ok (by decide +kernel) rfl rfl (fun _ h => absurd h List.not_mem_nil) (fun as σ K h => by
  obtain ⟨x, rfl, h⟩ := h
  refine ⟨rfl, fun G hG => fs_isDigit_0 hG ?_⟩
  have e1 : fw_c 48 = 48 := fw_c_id (by decide) (by decide)
  have e2 : fw_c 57 = 57 := fw_c_id (by decide) (by decide)
  rw [e1, e2]
  refine ⟨fun q => ⟨fw_01, ?_⟩, fun q => ⟨fun q2 => ⟨fw_01, ?_⟩, fun q2 => ⟨fw_11, ?_⟩⟩⟩
  · rw [fw_bo_f (by omega)] at h; exact h
  · rw [fw_bo_f (by omega)] at h; exact h
  · rw [fw_bo_t ⟨q, q2⟩] at h; exact h)
theorem fm_look (hinj : nn_inj ad) : fw_H l cy ad wr cr D 11 0 sp_look := fw_mk hinj (⟨"NameNotes$Tape", "look", "(I)I"⟩, prog_10_method_8_code, 2, (Option.some Jvm.ClassFile.FieldType.int), 1, true, 0) rfl rfl nn_KI2_ok nn_KJ2_ok nn_PF2_ok nn_PS2_ok (by decide +kernel) rfl rfl (fun _ h => absurd h List.not_mem_nil) (fun as σ K h => by
  obtain ⟨x, rfl, h⟩ := h
  refine ⟨rfl, fun G hG => fs_look_0 hG ?_⟩
  have e1 : fw_c ((940 : Nat) : Int) = 940 := fw_c_id (by decide) (by decide)
  rw [e1]
  unfold tp_lk at h
  refine ⟨fun q => ?_, fun q => ⟨fun q2 => ?_, fun q2 => ⟨fun q3 => ?_, fun q3 => ⟨⟨q, by omega⟩, ?_⟩⟩⟩⟩
  · rw [if_neg (by omega)] at h; exact h
  · rw [if_neg (by omega)] at h; exact h
  · rw [if_neg (by omega)] at h; exact h
  · rw [if_pos ⟨q, q2, q3⟩] at h; exact h)
end
end
section
/-! the class's tape: a run of letters and digits; what a step finds -/
/-- byte j of the class's tape -/
def tp_t (σ : ab_SG) (j : Nat) : Int := fw_op 8 (σ 2 j) 255
theorem tp_t_in (σ : ab_SG) (j : Nat) : 0 ≤ tp_t σ j ∧ tp_t σ j ≤ 255 := by
  have h := ab_bit_and (Int32.ofInt (σ 2 j)) (Int32.ofInt 255) (by decide)
  have e : (Int32.ofInt 255).toInt = 255 := by decide
  rw [e] at h
  exact h
theorem tp_t_c (σ : ab_SG) (j : Nat) : fw_c (tp_t σ j) = tp_t σ j := by
  have := tp_t_in σ j
  exact fw_c_id (by omega) (by omega)
theorem fw_okM_c {M : ab_ML} {σ σ' : ab_SG} {a : Nat} (h : ab_okM M σ σ') (hm : M.all (fun q => !(q.1.beq a)) = true) : σ' a = σ a := by
  funext b
  refine h a b (fun q hq hq2 => ?_)
  have := List.all_eq_true.mp hm q hq
  rw [Bool.not_eq_true'] at this
  rw [hq2.1] at this
  rw [Nat.beq_refl] at this
  cases this
theorem fw_okM_refl (M : ab_ML) (σ : ab_SG) : ab_okM M σ σ := fun _ _ _ => rfl
theorem fw_okM_ups {M : ab_ML} {σ σ' : ab_SG} {k j : Nat} {x : Int} (h : ab_okM M σ σ') (hm : M.any (fun q => q.1.beq k && q.2.beq j) = true) : ab_okM M σ (ab_ups σ' k j x) := by
  intro a b hab
  rw [ab_ups_ne ?_]
  · exact h a b hab
  · rintro ⟨rfl, rfl⟩
    obtain ⟨q, hq, hq2⟩ := List.any_eq_true.mp hm
    rw [Bool.and_eq_true] at hq2
    exact hab q hq ⟨ab_beq hq2.1, Or.inl (ab_beq hq2.2)⟩
theorem fw_okM_tr {M M' : ab_ML} {σ σ' σ'' : ab_SG} (h : ab_okM M σ σ') (h' : ab_okM M' σ' σ'') (hm : ∀ q ∈ M', q ∈ M) : ab_okM M σ σ'' := by
  intro a b hab
  rw [h' a b (fun q hq => hab q (hm q hq))]
  exact h a b hab
theorem tp_t_M {M : ab_ML} {σ σ' : ab_SG} (h : ab_okM M σ σ') (hm : M.all (fun q => !(q.1.beq 2)) = true) : tp_t σ' = tp_t σ := by
  funext j
  unfold tp_t
  rw [fw_okM_c h hm]
/-- byte p, where there is one -/
theorem tp_lk_at {σ : ab_SG} {p : Nat} (h1 : σ 1 1 ≤ 940) (h2 : (p : Int) < σ 1 1) : tp_lk σ (p : Int) = tp_t σ p := by
  have e1 : fw_c (p : Int) = p := fw_c_id (by omega) (by omega)
  have e2 : fw_c (σ 1 1) = σ 1 1 := fw_c_id (by omega) (by omega)
  unfold tp_lk
  rw [e1, e2, if_pos ⟨by omega, h2, by omega⟩]
  rfl
/-- letters, digits, the word, the number -/
abbrev tk_S : Type := Int × Int × Int × Int
def tk_run (t : Nat → Int) : Nat → Nat → tk_S → Nat × tk_S
  | 0, p, s => (p, s)
  | f + 1, p, s => if 97 ≤ t p ∧ t p ≤ 122 then tk_run t f (p + 1) (s.1 + 1, s.2.1, fw_d (s.2.2.1 * 32 + t p - 97 + 1), s.2.2.2)
    else if 48 ≤ t p ∧ t p ≤ 57 then tk_run t f (p + 1) (s.1, s.2.1 + 1, s.2.2.1, fw_c (s.2.2.2 * 10 + t p - 48))
    else (p, s)
def sp_withLetter : fw_SP := fun as σ K => ∃ w x : Int, as = [(1, 0, w), (0, 0, x)] ∧ K (some (1, 0, w * 32 + fw_c x - 97 + ((1 : Nat) : Int))) σ
/-- the word's number among those that no name may be -/
def kw_of : Nat → Int → Int → Int
  | 0, _, d => d
  | i + 1, w, d => if fw_wc i = w then (i : Int) else kw_of i w d
def sp_findKeyword : fw_SP := fun as σ K => as = [(2, 1, 0)] ∧ fw_d (σ 1 6) = σ 1 6 ∧ ∀ σ' : ab_SG, ab_okM [(1, 7)] σ σ' → σ' 1 7 = kw_of 17 (σ 1 6) (σ 1 7) → K none σ'
def rr_M : ab_ML := [(1, 3), (1, 5), (1, 6), (1, 7), (1, 8)]
/-- what a run leaves: where it ends, its kind, its word, its number -/
def rr_post (σ σ' : ab_SG) (r : Nat × tk_S) : Prop := ab_okM rr_M σ σ' ∧ σ' 1 3 = (r.1 : Int) ∧
  (r.2.2.1 = 0 ∧ r.2.1 ≤ 7 → σ' 1 5 = 2 ∧ σ' 1 6 = r.2.2.2.1 ∧ σ' 1 7 = kw_of 17 r.2.2.2.1 (σ 1 7)) ∧
  (¬ (r.2.2.1 = 0 ∧ r.2.1 ≤ 7) → r.2.1 = 0 ∧ r.2.2.1 ≤ 2 → σ' 1 5 = 3 ∧ σ' 1 8 = r.2.2.2.2 ∧ σ' 1 7 = σ 1 7) ∧
  (¬ (r.2.2.1 = 0 ∧ r.2.1 ≤ 7) → ¬ (r.2.1 = 0 ∧ r.2.2.1 ≤ 2) → σ' 1 5 = 1 ∧ σ' 1 7 = σ 1 7)
def sp_readRun : fw_SP := fun as σ K => as = [(2, 1, 0)] ∧ (0 ≤ σ 1 3 ∧ σ 1 3 ≤ σ 1 1 ∧ σ 1 1 ≤ 940) ∧
  ∀ σ' : ab_SG, rr_post σ σ' (tk_run (tp_t σ) ((σ 1 1).toNat - (σ 1 3).toNat) (σ 1 3).toNat (0, 0, 0, 0)) → K none σ'
abbrev fk_withLetter : List fw_CR := []
abbrev st_withLetter : fw_K → fw_KR → fw_K := fw_st vwCl nn_sh nn_kd fw_kv fw_wc (nn_KI2.map (fun x => x.1)) (nn_KJ2.map (fun x => x.1)) (nn_PF2.map (fun x => x.1)) (nn_PS2.map (fun x => x.1)) fk_withLetter 0 nn_dt16 3 2
theorem fs_withLetter_0 {G : fw_K} {R : fw_KR} (hG : fw_cls st_withLetter R G) {w x : Int} {σ : ab_SG} (h : R (some (1, 0, (((w * 32) + (fw_c x)) - 97) + ((1 : Nat) : Int))) σ) : G 0 [some (1, 0, w), none, some (0, 0, x)] [] σ := fw_on hG [] 200 h
abbrev fk_findKeyword : List fw_CR := []
abbrev st_findKeyword : fw_K → fw_KR → fw_K := fw_st vwCl nn_sh nn_kd fw_kv fw_wc (nn_KI2.map (fun x => x.1)) (nn_KJ2.map (fun x => x.1)) (nn_PF2.map (fun x => x.1)) (nn_PS2.map (fun x => x.1)) fk_findKeyword 0 nn_dt17 2 4
theorem fs_findKeyword_0 {G : fw_K} {R : fw_KR} (hG : fw_cls st_findKeyword R G) {σ : ab_SG} (h : G 2 [some (2, 1, 0), some (0, 0, 0)] [] σ) : G 0 [some (2, 1, 0), none] [] σ := fw_on hG [2, 35] 200 h
theorem fs_findKeyword_2 {G : fw_K} {R : fw_KR} (hG : fw_cls st_findKeyword R G) {a1 : Int} {σ : ab_SG} (h : (fw_c ((17 : Nat) : Int) ≤ fw_c a1 → R none σ) ∧ (fw_c a1 < fw_c ((17 : Nat) : Int) → (0 ≤ fw_c a1 ∧ fw_c a1 < ((17 : Nat) : Int)) ∧ ((0 ≤ fw_c a1 ∧ fw_c a1 ≤ 16) ∧ ((fw_d (fw_wc (fw_c a1).toNat) ≠ fw_d (σ 1 6) → G 35 [some (2, 1, 0), some (0, 0, a1)] [] σ) ∧ (fw_d (fw_wc (fw_c a1).toNat) = fw_d (σ 1 6) → (0 ≤ fw_c a1 ∧ fw_c a1 < ((17 : Nat) : Int)) ∧ (G 35 [some (2, 1, 0), some (0, 0, a1)] [] (ab_ups σ 1 7 (fw_c a1)))))))) : G 2 [some (2, 1, 0), some (0, 0, a1)] [] σ := fw_on hG [2, 35] 200 h
theorem fs_findKeyword_35 {G : fw_K} {R : fw_KR} (hG : fw_cls st_findKeyword R G) {a1 : Int} {σ : ab_SG} (h : G 2 [some (2, 1, 0), some (0, 0, a1 + 1)] [] σ) : G 35 [some (2, 1, 0), some (0, 0, a1)] [] σ := fw_on hG [2, 35] 200 h
abbrev fk_readRun : List fw_CR := [(34, 1, true, 8, 0, sp_look), (52, 1, false, 0, 0, sp_isLetter), (55, 1, false, 0, 0, sp_isDigit), (71, 2, false, 0, 0, sp_withLetter), (75, 0, true, 8, 0, sp_findKeyword)]
abbrev st_readRun : fw_K → fw_KR → fw_K := fw_st vwCl nn_sh nn_kd fw_kv fw_wc (nn_KI2.map (fun x => x.1)) (nn_KJ2.map (fun x => x.1)) (nn_PF2.map (fun x => x.1)) (nn_PS2.map (fun x => x.1)) fk_readRun 1 nn_dt15 4 4
theorem fs_readRun_0 {G : fw_K} {R : fw_KR} (hG : fw_cls st_readRun R G) {σ : ab_SG} (h : sp_look [(2, 1, 0), (0, 0, σ 1 3)] (ab_ups (ab_ups σ 1 6 (fw_d ((0 : Nat) : Int))) 1 8 (fw_c 0)) (fun rv σ2 => G 22 [some (2, 1, 0), some (0, 0, 0), some (0, 0, 0), none] (rv.toList ++ []) σ2)) : G 0 [some (2, 1, 0), none, none, none] [] σ := fw_on hG [22, 23, 38, 45, 48, 52, 67, 92, 110, 114, 138, 141] 200 h
theorem fs_readRun_22 {G : fw_K} {R : fw_KR} (hG : fw_cls st_readRun R G) {a1 a2 b0 : Int} {σ : ab_SG} (h : G 23 [some (2, 1, 0), some (0, 0, a1), some (0, 0, a2), some (0, 0, b0)] [] σ) : G 22 [some (2, 1, 0), some (0, 0, a1), some (0, 0, a2), none] [(0, 0, b0)] σ := fw_on hG [22, 23, 38, 45, 48, 52, 67, 92, 110, 114, 138, 141] 200 h
theorem fs_readRun_23 {G : fw_K} {R : fw_KR} (hG : fw_cls st_readRun R G) {a1 a2 a3 : Int} {σ : ab_SG} (h : (fw_c (σ 1 1) ≤ fw_c (σ 1 3) → G 114 [some (2, 1, 0), some (0, 0, a1), some (0, 0, a2), some (0, 0, a3)] [] σ) ∧ (fw_c (σ 1 3) < fw_c (σ 1 1) → sp_isLetter [(0, 0, a3)] σ (fun rv σ2 => G 38 [some (2, 1, 0), some (0, 0, a1), some (0, 0, a2), some (0, 0, a3)] (rv.toList ++ []) σ2))) : G 23 [some (2, 1, 0), some (0, 0, a1), some (0, 0, a2), some (0, 0, a3)] [] σ := fw_on hG [22, 23, 38, 45, 48, 52, 67, 92, 110, 114, 138, 141] 200 h
theorem fs_readRun_114 {G : fw_K} {R : fw_KR} (hG : fw_cls st_readRun R G) {a1 a2 a3 : Int} {σ : ab_SG} (h : (fw_c a2 ≠ 0 → G 141 [some (2, 1, 0), some (0, 0, a1), some (0, 0, a2), some (0, 0, a3)] [] (ab_ups σ 1 5 (fw_c 1))) ∧ (fw_c a2 = 0 → (fw_c 7 < fw_c a1 → G 141 [some (2, 1, 0), some (0, 0, a1), some (0, 0, a2), some (0, 0, a3)] [] (ab_ups σ 1 5 (fw_c 1))) ∧ (fw_c a1 ≤ fw_c 7 → sp_findKeyword [(2, 1, 0)] (ab_ups (ab_ups σ 1 5 (fw_c 1)) 1 5 (fw_c 2)) (fun rv σ2 => G 138 [some (2, 1, 0), some (0, 0, a1), some (0, 0, a2), some (0, 0, a3)] (rv.toList ++ []) σ2)))) : G 114 [some (2, 1, 0), some (0, 0, a1), some (0, 0, a2), some (0, 0, a3)] [] σ := fw_on hG [22, 23, 38, 45, 48, 52, 67, 92, 110, 114, 138, 141] 200 h
theorem fs_readRun_38 {G : fw_K} {R : fw_KR} (hG : fw_cls st_readRun R G) {a1 a2 a3 b0 : Int} {σ : ab_SG} (h : (fw_c b0 ≠ 0 → G 48 [some (2, 1, 0), some (0, 0, a1), some (0, 0, a2), some (0, 0, a3)] [] σ) ∧ (fw_c b0 = 0 → sp_isDigit [(0, 0, a3)] σ (fun rv σ2 => G 45 [some (2, 1, 0), some (0, 0, a1), some (0, 0, a2), some (0, 0, a3)] (rv.toList ++ []) σ2))) : G 38 [some (2, 1, 0), some (0, 0, a1), some (0, 0, a2), some (0, 0, a3)] [(0, 0, b0)] σ := fw_on hG [22, 23, 38, 45, 48, 52, 67, 92, 110, 114, 138, 141] 200 h
theorem fs_readRun_141 {G : fw_K} {R : fw_KR} (hG : fw_cls st_readRun R G) {a1 a2 a3 : Int} {σ : ab_SG} (h : (fw_c a1 ≠ 0 → R none σ) ∧ (fw_c a1 = 0 → (fw_c 2 < fw_c a2 → R none σ) ∧ (fw_c a2 ≤ fw_c 2 → R none (ab_ups σ 1 5 (fw_c 3))))) : G 141 [some (2, 1, 0), some (0, 0, a1), some (0, 0, a2), some (0, 0, a3)] [] σ := fw_on hG [22, 23, 38, 45, 48, 52, 67, 92, 110, 114, 138, 141] 200 h
theorem fs_readRun_138 {G : fw_K} {R : fw_KR} (hG : fw_cls st_readRun R G) {a1 a2 a3 : Int} {σ : ab_SG} (h : R none σ) : G 138 [some (2, 1, 0), some (0, 0, a1), some (0, 0, a2), some (0, 0, a3)] [] σ := fw_on hG [22, 23, 38, 45, 48, 52, 67, 92, 110, 114, 138, 141] 200 h
theorem fs_readRun_48 {G : fw_K} {R : fw_KR} (hG : fw_cls st_readRun R G) {a1 a2 a3 : Int} {σ : ab_SG} (h : sp_isLetter [(0, 0, a3)] σ (fun rv σ2 => G 52 [some (2, 1, 0), some (0, 0, a1), some (0, 0, a2), some (0, 0, a3)] (rv.toList ++ []) σ2)) : G 48 [some (2, 1, 0), some (0, 0, a1), some (0, 0, a2), some (0, 0, a3)] [] σ := fw_on hG [22, 23, 38, 45, 48, 52, 67, 92, 110, 114, 138, 141] 200 h
theorem fs_readRun_45 {G : fw_K} {R : fw_KR} (hG : fw_cls st_readRun R G) {a1 a2 a3 b0 : Int} {σ : ab_SG} (h : (fw_c b0 = 0 → G 114 [some (2, 1, 0), some (0, 0, a1), some (0, 0, a2), some (0, 0, a3)] [] σ) ∧ (fw_c b0 ≠ 0 → G 48 [some (2, 1, 0), some (0, 0, a1), some (0, 0, a2), some (0, 0, a3)] [] σ)) : G 45 [some (2, 1, 0), some (0, 0, a1), some (0, 0, a2), some (0, 0, a3)] [(0, 0, b0)] σ := fw_on hG [22, 23, 38, 45, 48, 52, 67, 92, 110, 114, 138, 141] 200 h
theorem fs_readRun_52 {G : fw_K} {R : fw_KR} (hG : fw_cls st_readRun R G) {a1 a2 a3 b0 : Int} {σ : ab_SG} (h : (fw_c b0 = 0 → G 92 [some (2, 1, 0), some (0, 0, a1), some (0, 0, a2 + 1), some (0, 0, a3)] [] (ab_ups σ 1 8 (fw_c ((((σ 1 8) * 10) + a3) - 48)))) ∧ (fw_c b0 ≠ 0 → sp_withLetter [(1, 0, σ 1 6), (0, 0, a3)] σ (fun rv σ2 => G 67 [some (2, 1, 0), some (0, 0, a1 + 1), some (0, 0, a2), some (0, 0, a3)] (rv.toList ++ [(2, 1, 0)]) σ2))) : G 52 [some (2, 1, 0), some (0, 0, a1), some (0, 0, a2), some (0, 0, a3)] [(0, 0, b0)] σ := fw_on hG [22, 23, 38, 45, 48, 52, 67, 92, 110, 114, 138, 141] 200 h
theorem fs_readRun_92 {G : fw_K} {R : fw_KR} (hG : fw_cls st_readRun R G) {a1 a2 a3 : Int} {σ : ab_SG} (h : sp_look [(2, 1, 0), (0, 0, (fw_c ((σ 1 3) + 1)))] (ab_ups σ 1 3 (fw_c ((σ 1 3) + 1))) (fun rv σ2 => G 110 [some (2, 1, 0), some (0, 0, a1), some (0, 0, a2), some (0, 0, a3)] (rv.toList ++ []) σ2)) : G 92 [some (2, 1, 0), some (0, 0, a1), some (0, 0, a2), some (0, 0, a3)] [] σ := fw_on hG [22, 23, 38, 45, 48, 52, 67, 92, 110, 114, 138, 141] 200 h
theorem fs_readRun_67 {G : fw_K} {R : fw_KR} (hG : fw_cls st_readRun R G) {a1 a2 a3 b0 : Int} {σ : ab_SG} (h : G 92 [some (2, 1, 0), some (0, 0, a1), some (0, 0, a2), some (0, 0, a3)] [] (ab_ups σ 1 6 (fw_d b0))) : G 67 [some (2, 1, 0), some (0, 0, a1), some (0, 0, a2), some (0, 0, a3)] [(1, 0, b0), (2, 1, 0)] σ := fw_on hG [22, 23, 38, 45, 48, 52, 67, 92, 110, 114, 138, 141] 200 h
theorem fs_readRun_110 {G : fw_K} {R : fw_KR} (hG : fw_cls st_readRun R G) {a1 a2 a3 b0 : Int} {σ : ab_SG} (h : G 23 [some (2, 1, 0), some (0, 0, a1), some (0, 0, a2), some (0, 0, b0)] [] σ) : G 110 [some (2, 1, 0), some (0, 0, a1), some (0, 0, a2), some (0, 0, a3)] [(0, 0, b0)] σ := fw_on hG [22, 23, 38, 45, 48, 52, 67, 92, 110, 114, 138, 141] 200 h
theorem fw_17 : fw_c ((17 : Nat) : Int) = 17 := fw_c_id (by decide) (by decide)
theorem fw_wc_d : ∀ i : Nat, i < 17 → fw_d (fw_wc i) = fw_wc i := by decide +kernel
theorem kw_step {G : fw_K} {K : fw_KR} (hG : fw_cls st_findKeyword K G) {σ0 : ab_SG} (hd : fw_d (σ0 1 6) = σ0 1 6) (hK : ∀ σ' : ab_SG, ab_okM [(1, 7)] σ0 σ' → σ' 1 7 = kw_of 17 (σ0 1 6) (σ0 1 7) → K none σ') :
    ∀ (f i : Nat) (σ : ab_SG), i + f = 17 → ab_okM [(1, 7)] σ0 σ → σ 1 7 = kw_of i (σ0 1 6) (σ0 1 7) → G 2 [some (2, 1, 0), some (0, 0, (i : Int))] [] σ := by
  intro f
  induction f with
  | zero =>
    intro i σ hi hM hk
    have e0 : i = 17 := by omega
    subst e0
    have e1 : fw_c ((17 : Nat) : Int) = 17 := fw_17
    refine fs_findKeyword_2 hG ?_
    rw [e1]
    exact ⟨fun _ => hK σ hM hk, fun q => absurd q (by omega)⟩
  | succ f ih =>
    intro i σ hi hM hk
    have e1 : fw_c (i : Int) = i := fw_c_id (by omega) (by omega)
    have e6 : σ 1 6 = σ0 1 6 := hM 1 6 (by decide)
    have e5 : (i : Int).toNat = i := Int.toNat_natCast i
    refine fs_findKeyword_2 hG ?_
    rw [e1, fw_17, e6, hd, e5, fw_wc_d i (by omega)]
    refine ⟨fun q => absurd q (by omega), fun _ => ⟨⟨by omega, by show (i : Int) < 17; omega⟩, ⟨by omega, by omega⟩, fun q => ?_, fun q => ⟨⟨by omega, by show (i : Int) < 17; omega⟩, ?_⟩⟩⟩
    · refine fs_findKeyword_35 hG ?_
      refine ih (i + 1) σ (by omega) hM ?_
      show _ = if fw_wc i = σ0 1 6 then (i : Int) else kw_of i (σ0 1 6) (σ0 1 7)
      rw [if_neg q]
      exact hk
    · refine fs_findKeyword_35 hG ?_
      refine ih (i + 1) _ (by omega) (fw_okM_ups hM (by decide)) ?_
      show _ = if fw_wc i = σ0 1 6 then (i : Int) else kw_of i (σ0 1 6) (σ0 1 7)
      rw [if_pos q, ab_ups_eq]
section
variable {l : Launch} {cy : Nat → ClassId} {ad wr cr : Nat → Nat} {D : va_G}
theorem fm_withLetter (hinj : nn_inj ad) : fw_H l cy ad wr cr D 16 0 sp_withLetter := fw_mk hinj (⟨"NameNotes$Tape", "withLetter", "(JI)J"⟩, prog_10_method_15_code, 3, (Option.some Jvm.ClassFile.FieldType.long), 2, false, 2) rfl rfl nn_KI2_ok nn_KJ2_ok nn_PF2_ok nn_PS2_ok (by decide +kernel) rfl rfl (fun _ h => absurd h List.not_mem_nil) (fun as σ K h => by
  obtain ⟨w, x, rfl, h⟩ := h
  exact ⟨rfl, fun G hG => fs_withLetter_0 hG h⟩)
theorem fm_findKeyword (hinj : nn_inj ad) : fw_H l cy ad wr cr D 17 0 sp_findKeyword := fw_mk hinj (⟨"NameNotes$Tape", "findKeyword", "()V"⟩, prog_10_method_7_code, 2, (Option.none : Option Jvm.ClassFile.FieldType), 0, true, 4) rfl rfl nn_KI2_ok nn_KJ2_ok nn_PF2_ok nn_PS2_ok (by decide +kernel) rfl rfl (fun _ h => absurd h List.not_mem_nil) (fun as σ K h => by
  obtain ⟨rfl, hd, h⟩ := h
  refine ⟨rfl, fun G hG => fs_findKeyword_0 hG ?_⟩
  exact kw_step hG hd h 17 0 σ rfl (fw_okM_refl _ _) rfl)
end
theorem rr_loop {G : fw_K} {K : fw_KR} (hG : fw_cls st_readRun K G) {σ0 : ab_SG} (hn : 0 ≤ σ0 1 1 ∧ σ0 1 1 ≤ 940) {r : Nat × tk_S}
    (hx : ∀ (σ : ab_SG) (c : Int), ab_okM rr_M σ0 σ → σ 1 3 = (r.1 : Int) → σ 1 7 = σ0 1 7 → σ 1 6 = r.2.2.2.1 → σ 1 8 = r.2.2.2.2 → fw_d (σ 1 6) = σ 1 6 → 0 ≤ r.2.1 → r.2.1 ≤ 940 → 0 ≤ r.2.2.1 → r.2.2.1 ≤ 940 → G 114 [some (2, 1, 0), some (0, 0, r.2.1), some (0, 0, r.2.2.1), some (0, 0, c)] [] σ) :
    ∀ (f p : Nat) (s : tk_S) (c : Int) (σ : ab_SG), p + f = (σ0 1 1).toNat → ab_okM rr_M σ0 σ → σ 1 3 = (p : Int) → σ 1 7 = σ0 1 7 → σ 1 6 = s.2.2.1 → σ 1 8 = s.2.2.2 → fw_d (σ 1 6) = σ 1 6 → (0 < f → c = tp_t σ0 p) → 0 ≤ s.1 → s.1 ≤ p → 0 ≤ s.2.1 → s.2.1 ≤ p → tk_run (tp_t σ0) f p s = r →
      G 23 [some (2, 1, 0), some (0, 0, s.1), some (0, 0, s.2.1), some (0, 0, c)] [] σ := by
  intro f
  induction f with
  | zero =>
    intro p s c σ hp hM h3 h7 h6 h8 hd _ a1 a2 a3 a4 hr
    have hr : (p, s) = r := hr
    subst hr
    have e1 : σ 1 1 = σ0 1 1 := hM 1 1 (by decide)
    have e3 : fw_c (σ 1 3) = σ 1 3 := fw_c_id (by omega) (by omega)
    have e2 : fw_c (σ0 1 1) = σ0 1 1 := fw_c_id (by omega) (by omega)
    refine fs_readRun_23 hG ?_
    rw [e1, e2, e3]
    exact ⟨fun _ => hx σ c hM h3 h7 h6 h8 hd a1 (by show s.1 ≤ 940; omega) a3 (by show s.2.1 ≤ 940; omega), fun q => absurd q (by omega)⟩
  | succ f ih =>
    intro p s c σ hp hM h3 h7 h6 h8 hd hc a1 a2 a3 a4 hr
    have hc := hc (Nat.succ_pos f)
    subst hc
    have e1 : σ 1 1 = σ0 1 1 := hM 1 1 (by decide)
    have e3 : fw_c (σ 1 3) = σ 1 3 := fw_c_id (by omega) (by omega)
    have e2 : fw_c (σ0 1 1) = σ0 1 1 := fw_c_id (by omega) (by omega)
    have et := tp_t_in σ0 p
    have ec := tp_t_c σ0 p
    have q48 : fw_c 48 = 48 := fw_c_id (by decide) (by decide)
    -- behind both: one byte on
    have on : ∀ (s' : tk_S) (σ' : ab_SG), ab_okM rr_M σ0 σ' → σ' 1 3 = (p : Int) → σ' 1 7 = σ0 1 7 → σ' 1 6 = s'.2.2.1 → σ' 1 8 = s'.2.2.2 → fw_d (σ' 1 6) = σ' 1 6 → 0 ≤ s'.1 → s'.1 ≤ p + 1 → 0 ≤ s'.2.1 → s'.2.1 ≤ p + 1 → tk_run (tp_t σ0) f (p + 1) s' = r →
        G 92 [some (2, 1, 0), some (0, 0, s'.1), some (0, 0, s'.2.1), some (0, 0, tp_t σ0 p)] [] σ' := by
      intro s' σ' hM' h3' h7' h6' h8' hd' b1 b2 b3 b4 hr'
      have ep : fw_c (σ' 1 3 + 1) = ((p + 1 : Nat) : Int) := by rw [h3', fw_c_id (by omega) (by omega)]; rfl
      refine fs_readRun_92 hG ?_
      rw [ep]
      have hM2 : ab_okM rr_M σ0 (ab_ups σ' 1 3 ((p + 1 : Nat) : Int)) := fw_okM_ups hM' (by decide)
      refine ⟨_, rfl, ?_⟩
      refine fs_readRun_110 hG ?_
      refine ih (p + 1) s' _ _ (by omega) hM2 ab_ups_eq ?_ ?_ ?_ ?_ ?_ b1 (by omega) b3 (by omega) hr'
      · rw [ab_ups_ne (by decide)]; exact h7'
      · rw [ab_ups_ne (by decide)]; exact h6'
      · rw [ab_ups_ne (by decide)]; exact h8'
      · rw [ab_ups_ne (by decide)]; exact hd'
      · intro hf
        have g1 : ab_ups σ' 1 3 ((p + 1 : Nat) : Int) 1 1 = σ0 1 1 := hM2 1 1 (by decide)
        rw [tp_lk_at (by rw [g1]; omega) (by rw [g1]; omega), tp_t_M hM2 (by decide)]
    refine fs_readRun_23 hG ?_
    rw [e1, e2, e3]
    refine ⟨fun q => absurd q (by omega), fun _ => ⟨_, rfl, ?_⟩⟩
    rw [ec]
    have hr2 : (if 97 ≤ tp_t σ0 p ∧ tp_t σ0 p ≤ 122 then tk_run (tp_t σ0) f (p + 1) (s.1 + 1, s.2.1, fw_d (s.2.2.1 * 32 + tp_t σ0 p - 97 + 1), s.2.2.2)
      else if 48 ≤ tp_t σ0 p ∧ tp_t σ0 p ≤ 57 then tk_run (tp_t σ0) f (p + 1) (s.1, s.2.1 + 1, s.2.2.1, fw_c (s.2.2.2 * 10 + tp_t σ0 p - 48))
      else (p, s)) = r := hr
    have lett : 97 ≤ tp_t σ0 p ∧ tp_t σ0 p ≤ 122 → G 48 [some (2, 1, 0), some (0, 0, s.1), some (0, 0, s.2.1), some (0, 0, tp_t σ0 p)] [] σ := by
      intro hl
      rw [if_pos hl] at hr2
      refine fs_readRun_48 hG ⟨_, rfl, ?_⟩
      rw [ec]
      refine fs_readRun_52 hG ⟨fun q => absurd hl (fw_bo_eq q), fun _ => ⟨_, _, rfl, ?_⟩⟩
      refine fs_readRun_67 hG ?_
      rw [ec, h6]
      refine on (s.1 + 1, s.2.1, fw_d (s.2.2.1 * 32 + tp_t σ0 p - 97 + 1), s.2.2.2) _ (fw_okM_ups hM (by decide)) ?_ ?_ ?_ ?_ ?_ (by show 0 ≤ s.1 + 1; omega) (by show s.1 + 1 ≤ _; omega) a3 (by show s.2.1 ≤ _; omega) hr2
      · rw [ab_ups_ne (by decide)]; exact h3
      · rw [ab_ups_ne (by decide)]; exact h7
      · rw [ab_ups_eq]; rfl
      · rw [ab_ups_ne (by decide)]; exact h8
      · rw [ab_ups_eq, fw_d_d]
    refine fs_readRun_38 hG ⟨fun q => lett (fw_bo_ne q), fun q => ⟨_, rfl, ?_⟩⟩
    have hnl := fw_bo_eq q
    rw [ec]
    refine fs_readRun_45 hG ⟨fun q2 => ?_, fun q2 => ?_⟩
    · have hnd := fw_bo_eq q2
      rw [if_neg hnl, if_neg hnd] at hr2
      subst hr2
      exact hx σ _ hM h3 h7 h6 h8 hd a1 (by show s.1 ≤ 940; omega) a3 (by show s.2.1 ≤ 940; omega)
    · have hdg := fw_bo_ne q2
      rw [if_neg hnl, if_pos hdg] at hr2
      refine fs_readRun_48 hG ⟨_, rfl, ?_⟩
      rw [ec]
      refine fs_readRun_52 hG ⟨fun _ => ?_, fun q3 => absurd (fw_bo_ne q3) hnl⟩
      rw [h8]
      refine on (s.1, s.2.1 + 1, s.2.2.1, fw_c (s.2.2.2 * 10 + tp_t σ0 p - 48)) _ (fw_okM_ups hM (by decide)) ?_ ?_ ?_ ?_ ?_ a1 (by show s.1 ≤ _; omega) (by show 0 ≤ s.2.1 + 1; omega) (by show s.2.1 + 1 ≤ _; omega) hr2
      · rw [ab_ups_ne (by decide)]; exact h3
      · rw [ab_ups_ne (by decide)]; exact h7
      · rw [ab_ups_ne (by decide)]; exact h6
      · rw [ab_ups_eq]
      · rw [ab_ups_ne (by decide)]; exact hd
section
variable {l : Launch} {cy : Nat → ClassId} {ad wr cr : Nat → Nat} {D : va_G}
theorem fm_readRun (hinj : nn_inj ad) : fw_H l cy ad wr cr D 15 1 sp_readRun := fw_mk hinj (⟨"NameNotes$Tape", "readRun", "()V"⟩, prog_10_method_6_code, 4, (Option.none : Option Jvm.ClassFile.FieldType), 0, true, 4) rfl rfl nn_KI2_ok nn_KJ2_ok nn_PF2_ok nn_PS2_ok (by decide +kernel) rfl rfl (List.forall_mem_cons.mpr ⟨fw_row nn_PM2_ok (x := 34) (k := 0) (mn := 11) (np := 1) (ob := true) (ci := 8) (⟨"NameNotes$Tape", "look", "(I)I"⟩, prog_10_method_8_code, 2, (Option.some Jvm.ClassFile.FieldType.int), 1, true, 0) rfl (by decide +kernel) rfl rfl (by decide) (fun _ => ⟨_, _, rfl⟩) (fm_look hinj), (List.forall_mem_cons.mpr ⟨fw_row nn_PM2_ok (x := 52) (k := 0) (mn := 13) (np := 1) (ob := false) (ci := 0) (⟨"NameNotes$Tape", "isLetter", "(I)Z"⟩, prog_10_method_17_code, 1, (Option.some Jvm.ClassFile.FieldType.boolean), 1, false, 1) rfl (by decide +kernel) rfl rfl (by decide) (fun q => by cases q) (fm_isLetter hinj), (List.forall_mem_cons.mpr ⟨fw_row nn_PM2_ok (x := 55) (k := 0) (mn := 14) (np := 1) (ob := false) (ci := 0) (⟨"NameNotes$Tape", "isDigit", "(I)Z"⟩, prog_10_method_18_code, 1, (Option.some Jvm.ClassFile.FieldType.boolean), 1, false, 1) rfl (by decide +kernel) rfl rfl (by decide) (fun q => by cases q) (fm_isDigit hinj), (List.forall_mem_cons.mpr ⟨fw_row nn_PM2_ok (x := 71) (k := 0) (mn := 16) (np := 2) (ob := false) (ci := 0) (⟨"NameNotes$Tape", "withLetter", "(JI)J"⟩, prog_10_method_15_code, 3, (Option.some Jvm.ClassFile.FieldType.long), 2, false, 2) rfl (by decide +kernel) rfl rfl (by decide) (fun q => by cases q) (fm_withLetter hinj), (List.forall_mem_cons.mpr ⟨fw_row nn_PM2_ok (x := 75) (k := 0) (mn := 17) (np := 0) (ob := true) (ci := 8) (⟨"NameNotes$Tape", "findKeyword", "()V"⟩, prog_10_method_7_code, 2, (Option.none : Option Jvm.ClassFile.FieldType), 0, true, 4) rfl (by decide +kernel) rfl rfl (by decide) (fun _ => ⟨_, _, rfl⟩) (fm_findKeyword hinj), (fun _ h => absurd h List.not_mem_nil)⟩)⟩)⟩)⟩)⟩) (fun as σ K h => by
  obtain ⟨rfl, ⟨n1, n2, n3⟩, h⟩ := h
  refine ⟨rfl, fun G hG => fs_readRun_0 hG ⟨_, rfl, ?_⟩⟩
  have z1 : fw_d ((0 : Nat) : Int) = 0 := fw_d_id (by decide) (by decide)
  have z7 : fw_c 7 = 7 := fw_c_id (by decide) (by decide)
  have z2 : fw_c 2 = 2 := fw_c_id (by decide) (by decide)
  have z3 : fw_c 3 = 3 := fw_c_id (by decide) (by decide)
  refine fs_readRun_22 hG ?_
  rw [z1, fw_c0]
  generalize hr : tk_run (tp_t σ) ((σ 1 1).toNat - (σ 1 3).toNat) (σ 1 3).toNat (0, 0, 0, 0) = r at h
  have hM0 : ab_okM rr_M σ (ab_ups (ab_ups σ 1 6 0) 1 8 0) := fw_okM_ups (fw_okM_ups (fw_okM_refl _ _) (by decide)) (by decide)
  refine rr_loop hG (σ0 := σ) ⟨by omega, n3⟩ (r := r) ?_ ((σ 1 1).toNat - (σ 1 3).toNat) (σ 1 3).toNat (0, 0, 0, 0) _ _ (by omega) hM0 ?_ rfl rfl rfl ?_ ?_ (Int.le_refl _) (Int.natCast_nonneg _) (Int.le_refl _) (Int.natCast_nonneg _) hr
  · intro σ1 c hM h3 h7 h6 h8 hd b1 b2 b3 b4
    have e1 : fw_c r.2.1 = r.2.1 := fw_c_id (by omega) (by omega)
    have e2 : fw_c r.2.2.1 = r.2.2.1 := fw_c_id (by omega) (by omega)
    -- no word
    have nw : ∀ c : Int, ¬ (r.2.2.1 = 0 ∧ r.2.1 ≤ 7) → G 141 [some (2, 1, 0), some (0, 0, r.2.1), some (0, 0, r.2.2.1), some (0, 0, c)] [] (ab_ups σ1 1 5 (fw_c 1)) := by
      intro c hnw
      have hM2 : ab_okM rr_M σ (ab_ups σ1 1 5 (fw_c 1)) := fw_okM_ups hM (by decide)
      have p3 : (ab_ups σ1 1 5 (fw_c 1)) 1 3 = (r.1 : Int) := by rw [ab_ups_ne (by decide)]; exact h3
      have p5 : (ab_ups σ1 1 5 (fw_c 1)) 1 5 = 1 := by rw [ab_ups_eq, fw_c1]
      have p7 : (ab_ups σ1 1 5 (fw_c 1)) 1 7 = σ 1 7 := by rw [ab_ups_ne (by decide)]; exact h7
      refine fs_readRun_141 hG ?_
      rw [e1, e2, z2, z3]
      refine ⟨fun q => h _ ⟨hM2, p3, fun z => absurd z hnw, fun _ z => absurd z.1 q, fun _ _ => ⟨p5, p7⟩⟩, fun q => ⟨fun q2 => h _ ⟨hM2, p3, fun z => absurd z hnw, fun _ z => absurd z.2 (by omega), fun _ _ => ⟨p5, p7⟩⟩, fun q2 => h _ ⟨fw_okM_ups hM2 (by decide), ?_, fun z => absurd z hnw, fun _ _ => ⟨ab_ups_eq, ?_, ?_⟩, fun _ z => absurd ⟨q, q2⟩ z⟩⟩⟩
      · rw [ab_ups_ne (by decide)]; exact p3
      · rw [ab_ups_ne (by decide), ab_ups_ne (by decide)]; exact h8
      · rw [ab_ups_ne (by decide)]; exact p7
    refine fs_readRun_114 hG ?_
    rw [e1, e2, z7]
    refine ⟨fun q => nw c (fun z => q z.1), fun q => ⟨fun q2 => nw c (by omega), fun q2 => ?_⟩⟩
    have hM3 : ab_okM rr_M σ (ab_ups (ab_ups σ1 1 5 (fw_c 1)) 1 5 (fw_c 2)) := fw_okM_ups (fw_okM_ups hM (by decide)) (by decide)
    have p6 : (ab_ups (ab_ups σ1 1 5 (fw_c 1)) 1 5 (fw_c 2)) 1 6 = r.2.2.2.1 := by rw [ab_ups_ne (by decide), ab_ups_ne (by decide)]; exact h6
    have p7 : (ab_ups (ab_ups σ1 1 5 (fw_c 1)) 1 5 (fw_c 2)) 1 7 = σ 1 7 := by rw [ab_ups_ne (by decide), ab_ups_ne (by decide)]; exact h7
    have p3 : (ab_ups (ab_ups σ1 1 5 (fw_c 1)) 1 5 (fw_c 2)) 1 3 = (r.1 : Int) := by rw [ab_ups_ne (by decide), ab_ups_ne (by decide)]; exact h3
    refine ⟨rfl, by rw [p6, ← h6]; exact hd, fun σ2 hM4 hk => ?_⟩
    refine fs_readRun_138 hG (h σ2 ⟨fw_okM_tr hM3 hM4 (by decide), ?_, fun _ => ⟨?_, ?_, ?_⟩, fun z => absurd ⟨q, q2⟩ z, fun z => absurd ⟨q, q2⟩ z⟩)
    · rw [hM4 1 3 (by decide)]; exact p3
    · rw [hM4 1 5 (by decide), ab_ups_eq, z2]
    · rw [hM4 1 6 (by decide)]; exact p6
    · rw [hk, p6, p7]
  · show σ 1 3 = _
    omega
  · show fw_d 0 = 0
    exact fw_d_id (by decide) (by decide)
  · intro hf
    have g1 : (ab_ups (ab_ups σ 1 6 0) 1 8 0) 1 1 = σ 1 1 := rfl
    have g2 : σ 1 3 = ((σ 1 3).toNat : Int) := by omega
    rw [g2, tp_lk_at (by rw [g1]; exact n3) (by rw [g1]; omega), tp_t_M hM0 (by decide)]
    rfl)
end
end
section
/-! a token, and the class's step to the next one -/
def tk_sk (t : Nat → Int) : Nat → Nat → Nat
  | 0, p => p
  | f + 1, p => if t p = 32 ∨ t p = 10 then tk_sk t f (p + 1) else p
theorem tk_sk_le (t : Nat → Int) : ∀ (f p : Nat), p ≤ tk_sk t f p ∧ tk_sk t f p ≤ p + f := by
  intro f
  induction f with
  | zero => intro p; exact ⟨Nat.le_refl _, Nat.le_refl _⟩
  | succ f ih =>
    intro p
    have := ih (p + 1)
    show p ≤ (if t p = 32 ∨ t p = 10 then tk_sk t f (p + 1) else p) ∧ (if t p = 32 ∨ t p = 10 then tk_sk t f (p + 1) else p) ≤ p + (f + 1)
    split <;> omega
theorem tk_run_le (t : Nat → Int) : ∀ (f p : Nat) (s : tk_S), p ≤ (tk_run t f p s).1 ∧ (tk_run t f p s).1 ≤ p + f := by
  intro f
  induction f with
  | zero => intro p s; exact ⟨Nat.le_refl _, Nat.le_refl _⟩
  | succ f ih =>
    intro p s
    unfold tk_run
    split
    · have := ih (p + 1) (s.1 + 1, s.2.1, fw_d (s.2.2.1 * 32 + t p - 97 + 1), s.2.2.2)
      omega
    · split
      · have := ih (p + 1) (s.1, s.2.1 + 1, s.2.2.1, fw_c (s.2.2.2 * 10 + t p - 48))
        omega
      · exact ⟨Nat.le_refl _, by omega⟩
/-- kind (0 the end, 1 none, 2 a word, 3 a number, else the sign), place, what is next, the word, the number -/
abbrev tk_T : Type := Int × Int × Nat × Int × Int
def tk_rt (q : Nat) (r : Nat × tk_S) : tk_T := if r.2.2.1 = 0 ∧ r.2.1 ≤ 7 then (2, q, r.1, r.2.2.2.1, 0) else if r.2.1 = 0 ∧ r.2.2.1 ≤ 2 then (3, q, r.1, 0, r.2.2.2.2) else (1, q, r.1, 0, 0)
def tk_at (t : Nat → Int) (n : Nat) (lim : Int) (q : Nat) : tk_T :=
  if lim < (n : Int) ∧ lim ≤ (q : Int) then (1, lim, q, 0, 0)
  else if n ≤ q then (0, q, q, 0, 0)
  else if (97 ≤ t q ∧ t q ≤ 122) ∨ (48 ≤ t q ∧ t q ≤ 57) then tk_rt q (tk_run t (n - q) q (0, 0, 0, 0))
  else (if t q = 59 ∨ (60 ≤ t q ∧ t q ≤ 62) ∨ t q = 40 ∨ t q = 41 ∨ t q = 46 then t q else 1, q, q + 1, 0, 0)
def tk_tok (t : Nat → Int) (n : Nat) (lim : Int) (p : Nat) : tk_T := tk_at t n lim (tk_sk t (n - p) p)
def st_M : ab_ML := [(1, 3), (1, 4), (1, 5), (1, 6), (1, 7), (1, 8)]
/-- the class's fields tell a token -/
def st_is (σ' : ab_SG) (k : tk_T) : Prop := σ' 1 5 = k.1 ∧ σ' 1 4 = k.2.1 ∧ σ' 1 3 = (k.2.2.1 : Int) ∧ (k.1 = 2 → σ' 1 6 = k.2.2.2.1 ∧ σ' 1 7 = kw_of 17 k.2.2.2.1 (-1)) ∧ (k.1 ≠ 2 → σ' 1 7 = -1) ∧ (k.1 = 3 → σ' 1 8 = k.2.2.2.2)
def sp_step : fw_SP := fun as σ K => as = [(2, 1, 0)] ∧ (0 ≤ σ 1 3 ∧ σ 1 3 ≤ σ 1 1 ∧ σ 1 1 ≤ 940 ∧ 0 ≤ σ 1 2 ∧ σ 1 2 ≤ 940) ∧
  ∀ σ' : ab_SG, ab_okM st_M σ σ' → st_is σ' (tk_tok (tp_t σ) (σ 1 1).toNat (σ 1 2) (σ 1 3).toNat) → K none σ'
abbrev fk_isSign : List fw_CR := []
abbrev st_isSign : fw_K → fw_KR → fw_K := fw_st vwCl nn_sh nn_kd fw_kv fw_wc (nn_KI2.map (fun x => x.1)) (nn_KJ2.map (fun x => x.1)) (nn_PF2.map (fun x => x.1)) (nn_PS2.map (fun x => x.1)) fk_isSign 0 nn_dt18 1 1
theorem fs_isSign_0 {G : fw_K} {R : fw_KR} (hG : fw_cls st_isSign R G) {x : Int} {σ : ab_SG} (h : (fw_c x = fw_c 59 → (0 ≤ fw_c 1 ∧ fw_c 1 ≤ 1) ∧ R (some (0, 0, 1)) σ) ∧ (fw_c x ≠ fw_c 59 → (fw_c x < fw_c 60 → G 18 [some (0, 0, x)] [] σ) ∧ (fw_c 60 ≤ fw_c x → (fw_c x ≤ fw_c 62 → (0 ≤ fw_c 1 ∧ fw_c 1 ≤ 1) ∧ R (some (0, 0, 1)) σ) ∧ (fw_c 62 < fw_c x → G 18 [some (0, 0, x)] [] σ)))) : G 0 [some (0, 0, x)] [] σ := fw_on hG [18] 200 h
theorem fs_isSign_18 {G : fw_K} {R : fw_KR} (hG : fw_cls st_isSign R G) {a0 : Int} {σ : ab_SG} (h : (fw_c a0 = fw_c 40 → (0 ≤ fw_c 1 ∧ fw_c 1 ≤ 1) ∧ R (some (0, 0, 1)) σ) ∧ (fw_c a0 ≠ fw_c 40 → (fw_c a0 = fw_c 41 → (0 ≤ fw_c 1 ∧ fw_c 1 ≤ 1) ∧ R (some (0, 0, 1)) σ) ∧ (fw_c a0 ≠ fw_c 41 → (fw_c a0 ≠ fw_c 46 → (0 ≤ fw_c 0 ∧ fw_c 0 ≤ 1) ∧ R (some (0, 0, 0)) σ) ∧ (fw_c a0 = fw_c 46 → (0 ≤ fw_c 1 ∧ fw_c 1 ≤ 1) ∧ R (some (0, 0, 1)) σ)))) : G 18 [some (0, 0, a0)] [] σ := fw_on hG [18] 200 h
abbrev fk_step : List fw_CR := [(34, 1, true, 8, 0, sp_look), (38, 1, false, 0, 0, sp_isBlank), (52, 1, false, 0, 0, sp_isLetter), (55, 1, false, 0, 0, sp_isDigit), (58, 0, true, 8, 1, sp_readRun), (61, 1, false, 0, 0, sp_isSign)]
abbrev st_step : fw_K → fw_KR → fw_K := fw_st vwCl nn_sh nn_kd fw_kv fw_wc (nn_KI2.map (fun x => x.1)) (nn_KJ2.map (fun x => x.1)) (nn_PF2.map (fun x => x.1)) (nn_PS2.map (fun x => x.1)) fk_step 2 nn_dt10 2 4
theorem fs_step_0 {G : fw_K} {R : fw_KR} (hG : fw_cls st_step R G) {σ : ab_SG} (h : (fw_c (σ 1 1) ≤ fw_c (σ 1 3) → G 38 [some (2, 1, 0), none] [] σ) ∧ (fw_c (σ 1 3) < fw_c (σ 1 1) → sp_look [(2, 1, 0), (0, 0, σ 1 3)] σ (fun rv σ2 => G 19 [some (2, 1, 0), none] (rv.toList ++ []) σ2))) : G 0 [some (2, 1, 0), none] [] σ := fw_on hG [0, 19, 22, 38, 79, 95, 119, 126, 129, 133, 141, 149] 200 h
theorem fs_step_38 {G : fw_K} {R : fw_KR} (hG : fw_cls st_step R G) {σ : ab_SG} (h : (fw_c (σ 1 1) ≤ fw_c (σ 1 2) → G 79 [some (2, 1, 0), none] [] (ab_ups σ 1 7 (-1))) ∧ (fw_c (σ 1 2) < fw_c (σ 1 1) → (fw_c (σ 1 3) < fw_c (σ 1 2) → G 79 [some (2, 1, 0), none] [] (ab_ups σ 1 7 (-1))) ∧ (fw_c (σ 1 2) ≤ fw_c (σ 1 3) → R none (ab_ups (ab_ups (ab_ups σ 1 7 (-1)) 1 4 (fw_c (σ 1 2))) 1 5 (fw_c 1))))) : G 38 [some (2, 1, 0), none] [] σ := fw_on hG [0, 19, 22, 38, 79, 95, 119, 126, 129, 133, 141, 149] 200 h
theorem fs_step_19 {G : fw_K} {R : fw_KR} (hG : fw_cls st_step R G) {b0 : Int} {σ : ab_SG} (h : sp_isBlank [(0, 0, b0)] σ (fun rv σ2 => G 22 [some (2, 1, 0), none] (rv.toList ++ []) σ2)) : G 19 [some (2, 1, 0), none] [(0, 0, b0)] σ := fw_on hG [0, 19, 22, 38, 79, 95, 119, 126, 129, 133, 141, 149] 200 h
theorem fs_step_79 {G : fw_K} {R : fw_KR} (hG : fw_cls st_step R G) {σ : ab_SG} (h : sp_look [(2, 1, 0), (0, 0, σ 1 3)] (ab_ups σ 1 4 (fw_c (σ 1 3))) (fun rv σ2 => G 95 [some (2, 1, 0), none] (rv.toList ++ []) σ2)) : G 79 [some (2, 1, 0), none] [] σ := fw_on hG [0, 19, 22, 38, 79, 95, 119, 126, 129, 133, 141, 149] 200 h
theorem fs_step_22 {G : fw_K} {R : fw_KR} (hG : fw_cls st_step R G) {b0 : Int} {σ : ab_SG} (h : (fw_c b0 = 0 → G 38 [some (2, 1, 0), none] [] σ) ∧ (fw_c b0 ≠ 0 → G 0 [some (2, 1, 0), none] [] (ab_ups σ 1 3 (fw_c ((σ 1 3) + 1))))) : G 22 [some (2, 1, 0), none] [(0, 0, b0)] σ := fw_on hG [0, 19, 22, 38, 79, 95, 119, 126, 129, 133, 141, 149] 200 h
theorem fs_step_95 {G : fw_K} {R : fw_KR} (hG : fw_cls st_step R G) {b0 : Int} {σ : ab_SG} (h : (fw_c (σ 1 3) < fw_c (σ 1 1) → sp_isLetter [(0, 0, b0)] σ (fun rv σ2 => G 119 [some (2, 1, 0), some (0, 0, b0)] (rv.toList ++ []) σ2)) ∧ (fw_c (σ 1 1) ≤ fw_c (σ 1 3) → R none (ab_ups σ 1 5 (fw_c 0)))) : G 95 [some (2, 1, 0), none] [(0, 0, b0)] σ := fw_on hG [0, 19, 22, 38, 79, 95, 119, 126, 129, 133, 141, 149] 200 h
theorem fs_step_119 {G : fw_K} {R : fw_KR} (hG : fw_cls st_step R G) {a1 b0 : Int} {σ : ab_SG} (h : (fw_c b0 ≠ 0 → G 129 [some (2, 1, 0), some (0, 0, a1)] [] σ) ∧ (fw_c b0 = 0 → sp_isDigit [(0, 0, a1)] σ (fun rv σ2 => G 126 [some (2, 1, 0), some (0, 0, a1)] (rv.toList ++ []) σ2))) : G 119 [some (2, 1, 0), some (0, 0, a1)] [(0, 0, b0)] σ := fw_on hG [0, 19, 22, 38, 79, 95, 119, 126, 129, 133, 141, 149] 200 h
theorem fs_step_129 {G : fw_K} {R : fw_KR} (hG : fw_cls st_step R G) {a1 : Int} {σ : ab_SG} (h : sp_readRun [(2, 1, 0)] σ (fun rv σ2 => G 133 [some (2, 1, 0), some (0, 0, a1)] (rv.toList ++ []) σ2)) : G 129 [some (2, 1, 0), some (0, 0, a1)] [] σ := fw_on hG [0, 19, 22, 38, 79, 95, 119, 126, 129, 133, 141, 149] 200 h
theorem fs_step_126 {G : fw_K} {R : fw_KR} (hG : fw_cls st_step R G) {a1 b0 : Int} {σ : ab_SG} (h : (fw_c b0 = 0 → sp_isSign [(0, 0, a1)] σ (fun rv σ2 => G 141 [some (2, 1, 0), some (0, 0, a1)] (rv.toList ++ [(2, 1, 0)]) σ2)) ∧ (fw_c b0 ≠ 0 → G 129 [some (2, 1, 0), some (0, 0, a1)] [] σ)) : G 126 [some (2, 1, 0), some (0, 0, a1)] [(0, 0, b0)] σ := fw_on hG [0, 19, 22, 38, 79, 95, 119, 126, 129, 133, 141, 149] 200 h
theorem fs_step_133 {G : fw_K} {R : fw_KR} (hG : fw_cls st_step R G) {a1 : Int} {σ : ab_SG} (h : R none σ) : G 133 [some (2, 1, 0), some (0, 0, a1)] [] σ := fw_on hG [0, 19, 22, 38, 79, 95, 119, 126, 129, 133, 141, 149] 200 h
theorem fs_step_141 {G : fw_K} {R : fw_KR} (hG : fw_cls st_step R G) {a1 b0 : Int} {σ : ab_SG} (h : (fw_c b0 = 0 → G 149 [some (2, 1, 0), some (0, 0, a1)] [(0, 0, 1), (2, 1, 0)] σ) ∧ (fw_c b0 ≠ 0 → G 149 [some (2, 1, 0), some (0, 0, a1)] [(0, 0, a1), (2, 1, 0)] σ)) : G 141 [some (2, 1, 0), some (0, 0, a1)] [(0, 0, b0), (2, 1, 0)] σ := fw_on hG [0, 19, 22, 38, 79, 95, 119, 126, 129, 133, 141, 149] 200 h
theorem fs_step_149 {G : fw_K} {R : fw_KR} (hG : fw_cls st_step R G) {a1 b0 : Int} {σ : ab_SG} (h : R none (ab_ups (ab_ups σ 1 5 (fw_c b0)) 1 3 (fw_c ((σ 1 3) + 1)))) : G 149 [some (2, 1, 0), some (0, 0, a1)] [(0, 0, b0), (2, 1, 0)] σ := fw_on hG [0, 19, 22, 38, 79, 95, 119, 126, 129, 133, 141, 149] 200 h
theorem st_skip {G : fw_K} {K : fw_KR} (hG : fw_cls st_step K G) {σ0 : ab_SG} (hn : 0 ≤ σ0 1 1 ∧ σ0 1 1 ≤ 940)
    :
    ∀ (f p : Nat) (σ : ab_SG), p + f = (σ0 1 1).toNat → ab_okM st_M σ0 σ → σ 1 3 = (p : Int) →
      (∀ σ1 : ab_SG, ab_okM st_M σ0 σ1 → σ1 1 3 = ((tk_sk (tp_t σ0) f p : Nat) : Int) → G 38 [some (2, 1, 0), none] [] σ1) → G 0 [some (2, 1, 0), none] [] σ := by
  intro f
  induction f with
  | zero =>
    intro p σ hp hM h3 hk
    have e1 : σ 1 1 = σ0 1 1 := hM 1 1 (by decide)
    have e3 : fw_c (σ 1 3) = σ 1 3 := fw_c_id (by omega) (by omega)
    have e2 : fw_c (σ0 1 1) = σ0 1 1 := fw_c_id (by omega) (by omega)
    refine fs_step_0 hG ?_
    rw [e1, e2, e3]
    exact ⟨fun _ => hk σ hM h3, fun q => absurd q (by omega)⟩
  | succ f ih =>
    intro p σ hp hM h3 hk
    have e1 : σ 1 1 = σ0 1 1 := hM 1 1 (by decide)
    have e3 : fw_c (σ 1 3) = σ 1 3 := fw_c_id (by omega) (by omega)
    have e2 : fw_c (σ0 1 1) = σ0 1 1 := fw_c_id (by omega) (by omega)
    have ec := tp_t_c σ0 p
    have el : tp_lk σ (σ 1 3) = tp_t σ0 p := by
      rw [h3, tp_lk_at (by rw [e1]; omega) (by rw [e1]; omega), tp_t_M hM (by decide)]
    replace hk : ∀ σ1 : ab_SG, ab_okM st_M σ0 σ1 → σ1 1 3 = (((if tp_t σ0 p = 32 ∨ tp_t σ0 p = 10 then tk_sk (tp_t σ0) f (p + 1) else p) : Nat) : Int) → G 38 [some (2, 1, 0), none] [] σ1 := hk
    refine fs_step_0 hG ?_
    rw [e1, e2, e3]
    refine ⟨fun q => absurd q (by omega), fun _ => ⟨_, rfl, ?_⟩⟩
    rw [el]
    refine fs_step_19 hG ⟨_, rfl, ?_⟩
    rw [ec]
    refine fs_step_22 hG ⟨fun q => ?_, fun q => ?_⟩
    · have hb := fw_bo_eq q
      rw [if_neg hb] at hk
      exact hk σ hM h3
    · have hb := fw_bo_ne q
      rw [if_pos hb] at hk
      have ep : fw_c (σ 1 3 + 1) = ((p + 1 : Nat) : Int) := by rw [h3, fw_c_id (by omega) (by omega)]; rfl
      rw [ep]
      exact ih (p + 1) _ (by omega) (fw_okM_ups hM (by decide)) ab_ups_eq hk
section
variable {l : Launch} {cy : Nat → ClassId} {ad wr cr : Nat → Nat} {D : va_G}
theorem fm_isSign (hinj : nn_inj ad) : fw_H l cy ad wr cr D 18 0 sp_isSign := fw_mk hinj (⟨"NameNotes$Tape", "isSign", "(I)Z"⟩, prog_10_method_19_code, 1, (Option.some Jvm.ClassFile.FieldType.boolean), 1, false, 1) rfl rfl nn_KI2_ok nn_KJ2_ok nn_PF2_ok nn_PS2_ok (by decide +kernel) rfl rfl (fun _ h => absurd h List.not_mem_nil) (fun as σ K h => by
  obtain ⟨x, rfl, h⟩ := h
  refine ⟨rfl, fun G hG => fs_isSign_0 hG ?_⟩
  have e1 : fw_c 59 = 59 := fw_c_id (by decide) (by decide)
  have e2 : fw_c 60 = 60 := fw_c_id (by decide) (by decide)
  have e3 : fw_c 62 = 62 := fw_c_id (by decide) (by decide)
  have e4 : fw_c 40 = 40 := fw_c_id (by decide) (by decide)
  have e5 : fw_c 41 = 41 := fw_c_id (by decide) (by decide)
  have e6 : fw_c 46 = 46 := fw_c_id (by decide) (by decide)
  have at18 : fw_c x ≠ 59 → ¬ (60 ≤ fw_c x ∧ fw_c x ≤ 62) → G 18 [some (0, 0, x)] [] σ := by
    intro q1 q2
    refine fs_isSign_18 hG ?_
    rw [e4, e5, e6]
    refine ⟨fun q => ⟨fw_11, ?_⟩, fun q => ⟨fun q3 => ⟨fw_11, ?_⟩, fun q3 => ⟨fun q4 => ⟨fw_01, ?_⟩, fun q4 => ⟨fw_11, ?_⟩⟩⟩⟩
    · rw [fw_bo_t (by omega)] at h; exact h
    · rw [fw_bo_t (by omega)] at h; exact h
    · rw [fw_bo_f (by omega)] at h; exact h
    · rw [fw_bo_t (by omega)] at h; exact h
  rw [e1, e2, e3]
  refine ⟨fun q => ⟨fw_11, ?_⟩, fun q => ⟨fun q2 => at18 q (by omega), fun q2 => ⟨fun q3 => ⟨fw_11, ?_⟩, fun q3 => at18 q (by omega)⟩⟩⟩
  · rw [fw_bo_t (Or.inl q)] at h; exact h
  · rw [fw_bo_t (by omega)] at h; exact h)
theorem fm_step (hinj : nn_inj ad) : fw_H l cy ad wr cr D 10 2 sp_step := fw_mk hinj (⟨"NameNotes$Tape", "step", "()V"⟩, prog_10_method_5_code, 2, (Option.none : Option Jvm.ClassFile.FieldType), 0, true, 4) rfl rfl nn_KI2_ok nn_KJ2_ok nn_PF2_ok nn_PS2_ok (by decide +kernel) rfl rfl (List.forall_mem_cons.mpr ⟨fw_row nn_PM2_ok (x := 34) (k := 0) (mn := 11) (np := 1) (ob := true) (ci := 8) (⟨"NameNotes$Tape", "look", "(I)I"⟩, prog_10_method_8_code, 2, (Option.some Jvm.ClassFile.FieldType.int), 1, true, 0) rfl (by decide +kernel) rfl rfl (by decide) (fun _ => ⟨_, _, rfl⟩) (fm_look hinj), (List.forall_mem_cons.mpr ⟨fw_row nn_PM2_ok (x := 38) (k := 0) (mn := 12) (np := 1) (ob := false) (ci := 0) (⟨"NameNotes$Tape", "isBlank", "(I)Z"⟩, prog_10_method_16_code, 1, (Option.some Jvm.ClassFile.FieldType.boolean), 1, false, 1) rfl (by decide +kernel) rfl rfl (by decide) (fun q => by cases q) (fm_isBlank hinj), (List.forall_mem_cons.mpr ⟨fw_row nn_PM2_ok (x := 52) (k := 0) (mn := 13) (np := 1) (ob := false) (ci := 0) (⟨"NameNotes$Tape", "isLetter", "(I)Z"⟩, prog_10_method_17_code, 1, (Option.some Jvm.ClassFile.FieldType.boolean), 1, false, 1) rfl (by decide +kernel) rfl rfl (by decide) (fun q => by cases q) (fm_isLetter hinj), (List.forall_mem_cons.mpr ⟨fw_row nn_PM2_ok (x := 55) (k := 0) (mn := 14) (np := 1) (ob := false) (ci := 0) (⟨"NameNotes$Tape", "isDigit", "(I)Z"⟩, prog_10_method_18_code, 1, (Option.some Jvm.ClassFile.FieldType.boolean), 1, false, 1) rfl (by decide +kernel) rfl rfl (by decide) (fun q => by cases q) (fm_isDigit hinj), (List.forall_mem_cons.mpr ⟨fw_row nn_PM2_ok (x := 58) (k := 0) (mn := 15) (np := 0) (ob := true) (ci := 8) (⟨"NameNotes$Tape", "readRun", "()V"⟩, prog_10_method_6_code, 4, (Option.none : Option Jvm.ClassFile.FieldType), 0, true, 4) rfl (by decide +kernel) rfl rfl (by decide) (fun _ => ⟨_, _, rfl⟩) (fm_readRun hinj), (List.forall_mem_cons.mpr ⟨fw_row nn_PM2_ok (x := 61) (k := 0) (mn := 18) (np := 1) (ob := false) (ci := 0) (⟨"NameNotes$Tape", "isSign", "(I)Z"⟩, prog_10_method_19_code, 1, (Option.some Jvm.ClassFile.FieldType.boolean), 1, false, 1) rfl (by decide +kernel) rfl rfl (by decide) (fun q => by cases q) (fm_isSign hinj), (fun _ h => absurd h List.not_mem_nil)⟩)⟩)⟩)⟩)⟩)⟩) (fun as σ K h => by
  obtain ⟨rfl, ⟨n1, n2, n3, n4, n5⟩, h⟩ := h
  refine ⟨rfl, fun G hG => ?_⟩
  have z1 : fw_c 1 = 1 := fw_c1
  refine st_skip hG (σ0 := σ) ⟨by omega, n3⟩ ((σ 1 1).toNat - (σ 1 3).toNat) (σ 1 3).toNat σ (by omega) (fw_okM_refl _ _) (by omega) (fun σ1 hM h3 => ?_)
  have hq := tk_sk_le (tp_t σ) ((σ 1 1).toNat - (σ 1 3).toNat) (σ 1 3).toNat
  unfold tk_tok at h
  generalize tk_sk (tp_t σ) ((σ 1 1).toNat - (σ 1 3).toNat) (σ 1 3).toNat = q at h h3 hq
  have hqn : q ≤ (σ 1 1).toNat := by omega
  have e1 : σ1 1 1 = σ 1 1 := hM 1 1 (by decide)
  have e2 : σ1 1 2 = σ 1 2 := hM 1 2 (by decide)
  have c1 : fw_c (σ 1 1) = σ 1 1 := fw_c_id (by omega) (by omega)
  have c2 : fw_c (σ 1 2) = σ 1 2 := fw_c_id (by omega) (by omega)
  have c3 : fw_c (q : Int) = q := fw_c_id (by omega) (by omega)
  -- from the place of the token on
  have at79 : ¬ (σ 1 2 < ((σ 1 1).toNat : Int) ∧ σ 1 2 ≤ (q : Int)) → G 79 [some (2, 1, 0), none] [] (ab_ups σ1 1 7 (-1)) := by
    intro hno
    unfold tk_at at h
    rw [if_neg hno] at h
    have hM2 : ab_okM st_M σ (ab_ups (ab_ups σ1 1 7 (-1)) 1 4 (q : Int)) := fw_okM_ups (fw_okM_ups hM (by decide)) (by decide)
    have p3 : (ab_ups (ab_ups σ1 1 7 (-1)) 1 4 (q : Int)) 1 3 = (q : Int) := by rw [ab_ups_ne (by decide), ab_ups_ne (by decide)]; exact h3
    have p1 : (ab_ups (ab_ups σ1 1 7 (-1)) 1 4 (q : Int)) 1 1 = σ 1 1 := hM2 1 1 (by decide)
    have p7 : (ab_ups (ab_ups σ1 1 7 (-1)) 1 4 (q : Int)) 1 7 = -1 := by rw [ab_ups_ne (by decide), ab_ups_eq]
    have p4 : (ab_ups (ab_ups σ1 1 7 (-1)) 1 4 (q : Int)) 1 4 = (q : Int) := ab_ups_eq
    refine fs_step_79 hG ?_
    have g3 : (ab_ups σ1 1 7 (-1)) 1 3 = (q : Int) := by rw [ab_ups_ne (by decide)]; exact h3
    rw [g3, c3]
    generalize ab_ups (ab_ups σ1 1 7 (-1)) 1 4 (q : Int) = σ2 at hM2 p3 p1 p7 p4 ⊢
    refine ⟨_, rfl, ?_⟩
    refine fs_step_95 hG ?_
    rw [p3, p1, c1, c3]
    refine ⟨fun qn => ?_, fun qn => ?_⟩
    · have el : tp_lk σ2 (q : Int) = tp_t σ q := by rw [tp_lk_at (by rw [p1]; exact n3) (by rw [p1]; exact qn), tp_t_M hM2 (by decide)]
      have ec := tp_t_c σ q
      rw [if_neg (show ¬ (σ 1 1).toNat ≤ q by omega)] at h
      rw [el]
      refine ⟨_, rfl, ?_⟩
      rw [ec]
      have at129 : (97 ≤ tp_t σ q ∧ tp_t σ q ≤ 122) ∨ (48 ≤ tp_t σ q ∧ tp_t σ q ≤ 57) → G 129 [some (2, 1, 0), some (0, 0, tp_t σ q)] [] σ2 := by
        intro hal
        rw [if_pos hal] at h
        refine fs_step_129 hG ⟨rfl, by rw [p1, p3]; exact ⟨by omega, by omega, n3⟩, fun σ3 hr => ?_⟩
        refine fs_step_133 hG (h σ3 (fw_okM_tr hM2 hr.1 (by decide)) ?_)
        obtain ⟨hM3, r3, r4, r5, r6⟩ := hr
        rw [tp_t_M hM2 (by decide), p1, p3] at r3 r4 r5 r6
        rw [p7] at r4 r5 r6
        have eq : ((q : Int)).toNat = q := Int.toNat_natCast q
        rw [eq] at r3 r4 r5 r6
        have r7 : σ3 1 4 = (q : Int) := by rw [hM3 1 4 (by decide)]; exact p4
        generalize tk_run (tp_t σ) ((σ 1 1).toNat - q) q (0, 0, 0, 0) = r at r3 r4 r5 r6 ⊢
        unfold tk_rt
        by_cases w1 : r.2.2.1 = 0 ∧ r.2.1 ≤ 7
        · rw [if_pos w1]
          obtain ⟨a1, a2, a3⟩ := r4 w1
          exact ⟨a1, r7, r3, fun _ => ⟨a2, a3⟩, fun z => absurd rfl z, fun z => absurd z (by show ¬ (2 : Int) = 3; decide)⟩
        · rw [if_neg w1]
          by_cases w2 : r.2.1 = 0 ∧ r.2.2.1 ≤ 2
          · rw [if_pos w2]
            obtain ⟨a1, a2, a3⟩ := r5 w1 w2
            exact ⟨a1, r7, r3, fun z => absurd z (by show ¬ (3 : Int) = 2; decide), fun _ => a3, fun _ => a2⟩
          · rw [if_neg w2]
            obtain ⟨a1, a3⟩ := r6 w1 w2
            exact ⟨a1, r7, r3, fun z => absurd z (by show ¬ (1 : Int) = 2; decide), fun _ => a3, fun z => absurd z (by show ¬ (1 : Int) = 3; decide)⟩
      refine fs_step_119 hG ⟨fun z => at129 (Or.inl (fw_bo_ne z)), fun z => ⟨_, rfl, ?_⟩⟩
      have hnl := fw_bo_eq z
      rw [ec]
      refine fs_step_126 hG ⟨fun z2 => ⟨_, rfl, ?_⟩, fun z2 => at129 (Or.inr (fw_bo_ne z2))⟩
      have hnd := fw_bo_eq z2
      rw [if_neg (show ¬ ((97 ≤ tp_t σ q ∧ tp_t σ q ≤ 122) ∨ (48 ≤ tp_t σ q ∧ tp_t σ q ≤ 57)) from fun y => y.elim hnl hnd)] at h
      rw [ec]
      have fin : ∀ v : Int, fw_c v = v → v = (if tp_t σ q = 59 ∨ (60 ≤ tp_t σ q ∧ tp_t σ q ≤ 62) ∨ tp_t σ q = 40 ∨ tp_t σ q = 41 ∨ tp_t σ q = 46 then tp_t σ q else 1) → v ≠ 2 → v ≠ 3 → G 149 [some (2, 1, 0), some (0, 0, tp_t σ q)] [(0, 0, v), (2, 1, 0)] σ2 := by
        intro v hv hv2 hv3 hv4
        refine fs_step_149 hG ?_
        have ep : fw_c (σ2 1 3 + 1) = ((q + 1 : Nat) : Int) := by rw [p3, fw_c_id (by omega) (by omega)]; rfl
        rw [ep, hv]
        refine h _ (fw_okM_ups (fw_okM_ups hM2 (by decide)) (by decide)) ?_
        rw [← hv2]
        refine ⟨?_, ?_, ab_ups_eq, fun y => absurd y hv3, fun _ => ?_, fun y => absurd y hv4⟩
        · rw [ab_ups_ne (by decide), ab_ups_eq]
        · rw [ab_ups_ne (by decide), ab_ups_ne (by decide)]; exact p4
        · rw [ab_ups_ne (by decide), ab_ups_ne (by decide)]; exact p7
      refine fs_step_141 hG ⟨fun z3 => ?_, fun z3 => ?_⟩
      · have hs := fw_bo_eq z3
        refine fin 1 z1 ?_ (by decide) (by decide)
        rw [if_neg hs]
      · have hs := fw_bo_ne z3
        refine fin _ ec ?_ (by omega) (by omega)
        rw [if_pos hs]
    · rw [if_pos (show (σ 1 1).toNat ≤ q by omega)] at h
      refine h _ (fw_okM_ups hM2 (by decide)) ⟨?_, ?_, ?_, fun z => absurd z (by show ¬ (0 : Int) = 2; decide), fun _ => ?_, fun z => absurd z (by show ¬ (0 : Int) = 3; decide)⟩
      · rw [ab_ups_eq, fw_c0]
      · rw [ab_ups_ne (by decide)]; exact p4
      · rw [ab_ups_ne (by decide)]; exact p3
      · rw [ab_ups_ne (by decide)]; exact p7
  refine fs_step_38 hG ?_
  rw [e1, e2, h3, c1, c2, c3]
  refine ⟨fun q1 => at79 (fun z => by omega), fun q1 => ⟨fun q2 => at79 (fun z => by omega), fun q2 => ?_⟩⟩
  have hyes : σ 1 2 < ((σ 1 1).toNat : Int) ∧ σ 1 2 ≤ (q : Int) := ⟨by omega, q2⟩
  unfold tk_at at h
  rw [if_pos hyes] at h
  refine h _ (fw_okM_ups (fw_okM_ups (fw_okM_ups hM (by decide)) (by decide)) (by decide)) ⟨?_, ?_, ?_, fun z => absurd z (by show ¬ (1 : Int) = 2; decide), fun _ => ?_, fun z => absurd z (by show ¬ (1 : Int) = 3; decide)⟩
  · rw [ab_ups_eq, z1]
  · rw [ab_ups_ne (by decide), ab_ups_eq]
  · rw [ab_ups_ne (by decide), ab_ups_ne (by decide), ab_ups_ne (by decide)]; exact h3
  · rw [ab_ups_ne (by decide), ab_ups_ne (by decide), ab_ups_eq])
end
end
section
/-! the class's tape: what is asked of a token; rows read, written, filled, sought in -/
def tp_rf (σ : ab_SG) (x : Int) : ab_SG := ab_ups (ab_ups σ 1 9 (fw_c x)) 1 10 (fw_c (σ 1 4))
def sp_isName : fw_SP := fun as σ K => as = [(2, 1, 0)] ∧ K (some (0, 0, fw_bo (fw_c (σ 1 5) = 2 ∧ σ 1 7 < 0))) σ
def sp_isWord : fw_SP := fun as σ K => ∃ x : Int, as = [(2, 1, 0), (4, 0, x)] ∧ (-1 ≤ σ 1 7 ∧ σ 1 7 ≤ 16 ∧ -1 ≤ x ∧ x ≤ 16) ∧ K (some (0, 0, fw_bo (fw_c (σ 1 5) = 2 ∧ σ 1 7 = x))) σ
def sp_refuse : fw_SP := fun as σ K => ∃ x : Int, as = [(2, 1, 0), (0, 0, x)] ∧ K (some (0, 0, 0)) (tp_rf σ x)
def sp_needNumber : fw_SP := fun as σ K => ∃ x y : Int, as = [(2, 1, 0), (0, 0, x), (0, 0, y)] ∧
  (fw_c (σ 1 5) ≠ 3 → K (some (0, 0, 0)) (tp_rf σ 1)) ∧ (fw_c (σ 1 5) = 3 → ¬ (fw_c x ≤ fw_c (σ 1 8) ∧ fw_c (σ 1 8) ≤ fw_c y) → K (some (0, 0, 0)) (tp_rf σ 2)) ∧
  (fw_c (σ 1 5) = 3 → fw_c x ≤ fw_c (σ 1 8) ∧ fw_c (σ 1 8) ≤ fw_c y → K (some (0, 0, 1)) σ)
/-- a step may be made -/
abbrev st_pre (σ : ab_SG) : Prop := 0 ≤ σ 1 3 ∧ σ 1 3 ≤ σ 1 1 ∧ σ 1 1 ≤ 940 ∧ 0 ≤ σ 1 2 ∧ σ 1 2 ≤ 940
def st_nx (σ : ab_SG) : tk_T := tk_tok (tp_t σ) (σ 1 1).toNat (σ 1 2) (σ 1 3).toNat
def sp_takeSign : fw_SP := fun as σ K => ∃ x : Int, as = [(2, 1, 0), (0, 0, x)] ∧ (fw_c (σ 1 5) ≠ fw_c x → K (some (0, 0, 0)) (tp_rf σ 1)) ∧
  (fw_c (σ 1 5) = fw_c x → st_pre σ ∧ ∀ σ' : ab_SG, ab_okM st_M σ σ' → st_is σ' (st_nx σ) → K (some (0, 0, 1)) σ')
def sp_opn : fw_SP := fun as σ K => ∃ x : Int, as = [(2, 1, 0), (0, 0, x)] ∧ (0 ≤ σ 1 1 ∧ σ 1 1 ≤ 940 ∧ 0 ≤ fw_c x ∧ fw_c x ≤ 940) ∧
  ∀ σ' : ab_SG, ab_okM ((1, 2) :: (1, 9) :: (1, 10) :: st_M) σ σ' → σ' 1 2 = fw_c x → σ' 1 9 = 0 → st_is σ' (tk_tok (tp_t σ) (σ 1 1).toNat (fw_c x) 0) → K none σ'
/-- the rows of ints and of longs that the reader's methods are given, and how long they are -/
def rw_I : List (Nat × Nat) := [(50, 81), (51, 81), (52, 9), (54, 6), (55, 45), (56, 5), (64, 5), (53, 324)]
def rw_L : List (Nat × Nat) := [(57, 9), (58, 6), (59, 5)]
def at_k (k n : Nat) : fw_SP := fun as σ K => ∃ x : Int, as = [(2, k, 0), (0, 0, x)] ∧ (0 ≤ fw_c x ∧ fw_c x < (n : Int) → K (some (0, 0, σ k (fw_c x).toNat)) σ) ∧ (¬ (0 ≤ fw_c x ∧ fw_c x < (n : Int)) → K (some (0, 0, 0)) σ)
def put_k (k n : Nat) : fw_SP := fun as σ K => ∃ x v : Int, as = [(2, k, 0), (0, 0, x), (0, 0, v)] ∧ (0 ≤ fw_c x ∧ fw_c x < (n : Int) → K none (ab_ups σ k (fw_c x).toNat (fw_c v))) ∧ (¬ (0 ≤ fw_c x ∧ fw_c x < (n : Int)) → K none σ)
def putl_k (k n : Nat) : fw_SP := fun as σ K => ∃ x v : Int, as = [(2, k, 0), (0, 0, x), (1, 0, v)] ∧ (0 ≤ fw_c x ∧ fw_c x < (n : Int) → K none (ab_ups σ k (fw_c x).toNat (fw_d v))) ∧ (¬ (0 ≤ fw_c x ∧ fw_c x < (n : Int)) → K none σ)
def fill_k (k n : Nat) : fw_SP := fun as σ K => ∃ v : Int, as = [(2, k, 0), (0, 0, v)] ∧ ∀ σ' : ab_SG, (∀ a b : Nat, ¬ (a = k ∧ b < n) → σ' a b = σ a b) → (∀ b : Nat, b < n → σ' k b = fw_c v) → K none σ'
/-- the first of a row's first numbers that is w -/
def rw_fd (a : Nat → Int) (w : Int) : Nat → Nat → Int
  | 0, _ => -1
  | f + 1, i => if a i = w then (i : Int) else rw_fd a w f (i + 1)
def isIn_k (k n : Nat) : fw_SP := fun as σ K => ∃ x : Int, as = [(2, 48, 0), (2, k, 0), (0, 0, x)] ∧ (0 ≤ x ∧ x ≤ (n : Int)) ∧ (∀ j : Nat, (j : Int) < x → fw_d (σ k j) = σ k j) ∧ fw_d (σ 1 6) = σ 1 6 ∧ K (some (0, 0, fw_bo (0 ≤ rw_fd (σ k) (σ 1 6) x.toNat 0))) σ
def seek_k (k n : Nat) : fw_SP := fun as σ K => ∃ x : Int, as = [(2, 1, 0), (2, k, 0), (0, 0, x)] ∧ (0 ≤ x ∧ x ≤ (n : Int)) ∧ (∀ j : Nat, (j : Int) < x → fw_d (σ k j) = σ k j) ∧ (fw_c (σ 1 5) = 2 ∧ σ 1 7 < 0 → fw_d (σ 1 6) = σ 1 6) ∧
  (¬ (fw_c (σ 1 5) = 2 ∧ σ 1 7 < 0) → K (some (0, 0, -1)) (tp_rf σ 1)) ∧ (fw_c (σ 1 5) = 2 ∧ σ 1 7 < 0 → rw_fd (σ k) (σ 1 6) x.toNat 0 < 0 → K (some (0, 0, -1)) (tp_rf σ 3)) ∧
  (fw_c (σ 1 5) = 2 ∧ σ 1 7 < 0 → 0 ≤ rw_fd (σ k) (σ 1 6) x.toNat 0 → K (some (0, 0, rw_fd (σ k) (σ 1 6) x.toNat 0)) σ)
def sp_of (f : Nat → Nat → fw_SP) (l : List (Nat × Nat)) : fw_SP := fun as σ K => ∃ q ∈ l, f q.1 q.2 as σ K
def sp_at : fw_SP := sp_of at_k rw_I
def sp_put : fw_SP := sp_of put_k rw_I
def sp_putl : fw_SP := sp_of putl_k rw_L
def sp_fill : fw_SP := sp_of fill_k rw_I
def sp_isIn : fw_SP := sp_of isIn_k rw_L
def sp_seek : fw_SP := sp_of seek_k rw_L
theorem fw_H_of {l : Launch} {cy : Nat → ClassId} {ad wr cr : Nat → Nat} {D : va_G} {mn lev : Nat} {f : Nat → Nat → fw_SP} {ks : List (Nat × Nat)} (h : ∀ q ∈ ks, fw_H l cy ad wr cr D mn lev (f q.1 q.2)) : fw_H l cy ad wr cr D mn lev (sp_of f ks) := by
  intro mr hmr as σ sz K ⟨q, hq, hsp⟩
  exact h q hq mr hmr as σ sz K hsp
/-- a set and one more -/
def pr_or (s x : Int) : Int := fw_c (fw_op 9 s (fw_op 5 1 x))
def sp_has : fw_SP := fun as σ K => ∃ s x : Int, as = [(0, 0, s), (0, 0, x)] ∧ (0 ≤ fw_c x ∧ fw_c x < 9) ∧ K (some (0, 0, fw_bo (fw_c (fw_op 8 (fw_op 6 s x) 1) = 1))) σ
abbrev fk_isName : List fw_CR := []
abbrev st_isName : fw_K → fw_KR → fw_K := fw_st vwCl nn_sh nn_kd fw_kv fw_wc (nn_KI2.map (fun x => x.1)) (nn_KJ2.map (fun x => x.1)) (nn_PF2.map (fun x => x.1)) (nn_PS2.map (fun x => x.1)) fk_isName 0 nn_dt24 1 1
theorem fs_isName_0 {G : fw_K} {R : fw_KR} (hG : fw_cls st_isName R G) {σ : ab_SG} (h : (fw_c (σ 1 5) ≠ fw_c 2 → (0 ≤ fw_c 0 ∧ fw_c 0 ≤ 1) ∧ R (some (0, 0, 0)) σ) ∧ (fw_c (σ 1 5) = fw_c 2 → (0 ≤ (σ 1 7) → (0 ≤ fw_c 0 ∧ fw_c 0 ≤ 1) ∧ R (some (0, 0, 0)) σ) ∧ ((σ 1 7) < 0 → (0 ≤ fw_c 1 ∧ fw_c 1 ≤ 1) ∧ R (some (0, 0, 1)) σ))) : G 0 [some (2, 1, 0)] [] σ := fw_on hG [] 200 h
abbrev fk_isWord : List fw_CR := []
abbrev st_isWord : fw_K → fw_KR → fw_K := fw_st vwCl nn_sh nn_kd fw_kv fw_wc (nn_KI2.map (fun x => x.1)) (nn_KJ2.map (fun x => x.1)) (nn_PF2.map (fun x => x.1)) (nn_PS2.map (fun x => x.1)) fk_isWord 0 nn_dt20 2 1
theorem fs_isWord_0 {G : fw_K} {R : fw_KR} (hG : fw_cls st_isWord R G) {x : Int} {σ : ab_SG} (h : (fw_c (σ 1 5) ≠ fw_c 2 → (0 ≤ fw_c 0 ∧ fw_c 0 ≤ 1) ∧ R (some (0, 0, 0)) σ) ∧ (fw_c (σ 1 5) = fw_c 2 → (-1 ≤ σ 1 7 ∧ σ 1 7 ≤ 16 ∧ -1 ≤ x ∧ x ≤ 16) ∧ (((σ 1 7) ≠ x → (0 ≤ fw_c 0 ∧ fw_c 0 ≤ 1) ∧ R (some (0, 0, 0)) σ) ∧ ((σ 1 7) = x → (0 ≤ fw_c 1 ∧ fw_c 1 ≤ 1) ∧ R (some (0, 0, 1)) σ)))) : G 0 [some (2, 1, 0), some (4, 0, x)] [] σ := fw_on hG [] 200 h
abbrev fk_refuse : List fw_CR := []
abbrev st_refuse : fw_K → fw_KR → fw_K := fw_st vwCl nn_sh nn_kd fw_kv fw_wc (nn_KI2.map (fun x => x.1)) (nn_KJ2.map (fun x => x.1)) (nn_PF2.map (fun x => x.1)) (nn_PS2.map (fun x => x.1)) fk_refuse 0 nn_dt22 2 1
theorem fs_refuse_0 {G : fw_K} {R : fw_KR} (hG : fw_cls st_refuse R G) {x : Int} {σ : ab_SG} (h : (0 ≤ fw_c 0 ∧ fw_c 0 ≤ 1) ∧ R (some (0, 0, 0)) (ab_ups (ab_ups σ 1 9 (fw_c x)) 1 10 (fw_c (σ 1 4)))) : G 0 [some (2, 1, 0), some (0, 0, x)] [] σ := fw_on hG [] 200 h
abbrev fk_needNumber : List fw_CR := [(91, 1, true, 8, 0, sp_refuse)]
abbrev st_needNumber : fw_K → fw_KR → fw_K := fw_st vwCl nn_sh nn_kd fw_kv fw_wc (nn_KI2.map (fun x => x.1)) (nn_KJ2.map (fun x => x.1)) (nn_PF2.map (fun x => x.1)) (nn_PS2.map (fun x => x.1)) fk_needNumber 1 nn_dt30 3 1
theorem fs_needNumber_0 {G : fw_K} {R : fw_KR} (hG : fw_cls st_needNumber R G) {x y : Int} {σ : ab_SG} (h : (fw_c (σ 1 5) = fw_c 3 → (fw_c (σ 1 8) < fw_c x → G 30 [some (2, 1, 0), some (0, 0, x), some (0, 0, y)] [] σ) ∧ (fw_c x ≤ fw_c (σ 1 8) → (fw_c (σ 1 8) ≤ fw_c y → (0 ≤ fw_c 1 ∧ fw_c 1 ≤ 1) ∧ R (some (0, 0, 1)) σ) ∧ (fw_c y < fw_c (σ 1 8) → G 30 [some (2, 1, 0), some (0, 0, x), some (0, 0, y)] [] σ))) ∧ (fw_c (σ 1 5) ≠ fw_c 3 → sp_refuse [(2, 1, 0), (0, 0, 1)] σ (fun rv σ2 => G 13 [some (2, 1, 0), some (0, 0, x), some (0, 0, y)] (rv.toList ++ []) σ2))) : G 0 [some (2, 1, 0), some (0, 0, x), some (0, 0, y)] [] σ := fw_on hG [13, 30, 35] 200 h
theorem fs_needNumber_30 {G : fw_K} {R : fw_KR} (hG : fw_cls st_needNumber R G) {a1 a2 : Int} {σ : ab_SG} (h : sp_refuse [(2, 1, 0), (0, 0, 2)] σ (fun rv σ2 => G 35 [some (2, 1, 0), some (0, 0, a1), some (0, 0, a2)] (rv.toList ++ []) σ2)) : G 30 [some (2, 1, 0), some (0, 0, a1), some (0, 0, a2)] [] σ := fw_on hG [13, 30, 35] 200 h
theorem fs_needNumber_13 {G : fw_K} {R : fw_KR} (hG : fw_cls st_needNumber R G) {a1 a2 b0 : Int} {σ : ab_SG} (h : (0 ≤ fw_c b0 ∧ fw_c b0 ≤ 1) ∧ R (some (0, 0, b0)) σ) : G 13 [some (2, 1, 0), some (0, 0, a1), some (0, 0, a2)] [(0, 0, b0)] σ := fw_on hG [13, 30, 35] 200 h
theorem fs_needNumber_35 {G : fw_K} {R : fw_KR} (hG : fw_cls st_needNumber R G) {a1 a2 b0 : Int} {σ : ab_SG} (h : (fw_c b0 = 0 → (0 ≤ fw_c 0 ∧ fw_c 0 ≤ 1) ∧ R (some (0, 0, 0)) σ) ∧ (fw_c b0 ≠ 0 → (0 ≤ fw_c 1 ∧ fw_c 1 ≤ 1) ∧ R (some (0, 0, 1)) σ)) : G 35 [some (2, 1, 0), some (0, 0, a1), some (0, 0, a2)] [(0, 0, b0)] σ := fw_on hG [13, 30, 35] 200 h
abbrev fk_takeSign : List fw_CR := [(31, 0, true, 8, 2, sp_step), (91, 1, true, 8, 0, sp_refuse)]
abbrev st_takeSign : fw_K → fw_KR → fw_K := fw_st vwCl nn_sh nn_kd fw_kv fw_wc (nn_KI2.map (fun x => x.1)) (nn_KJ2.map (fun x => x.1)) (nn_PF2.map (fun x => x.1)) (nn_PS2.map (fun x => x.1)) fk_takeSign 3 nn_dt40 2 1
theorem fs_takeSign_0 {G : fw_K} {R : fw_KR} (hG : fw_cls st_takeSign R G) {x : Int} {σ : ab_SG} (h : (fw_c (σ 1 5) = fw_c x → sp_step [(2, 1, 0)] σ (fun rv σ2 => G 18 [some (2, 1, 0), some (0, 0, x)] (rv.toList ++ []) σ2)) ∧ (fw_c (σ 1 5) ≠ fw_c x → sp_refuse [(2, 1, 0), (0, 0, 1)] σ (fun rv σ2 => G 13 [some (2, 1, 0), some (0, 0, x)] (rv.toList ++ []) σ2))) : G 0 [some (2, 1, 0), some (0, 0, x)] [] σ := fw_on hG [13, 18] 200 h
theorem fs_takeSign_18 {G : fw_K} {R : fw_KR} (hG : fw_cls st_takeSign R G) {a1 : Int} {σ : ab_SG} (h : (0 ≤ fw_c 1 ∧ fw_c 1 ≤ 1) ∧ R (some (0, 0, 1)) σ) : G 18 [some (2, 1, 0), some (0, 0, a1)] [] σ := fw_on hG [13, 18] 200 h
theorem fs_takeSign_13 {G : fw_K} {R : fw_KR} (hG : fw_cls st_takeSign R G) {a1 b0 : Int} {σ : ab_SG} (h : (0 ≤ fw_c b0 ∧ fw_c b0 ≤ 1) ∧ R (some (0, 0, b0)) σ) : G 13 [some (2, 1, 0), some (0, 0, a1)] [(0, 0, b0)] σ := fw_on hG [13, 18] 200 h
abbrev fk_opn : List fw_CR := [(31, 0, true, 8, 2, sp_step)]
abbrev st_opn : fw_K → fw_KR → fw_K := fw_st vwCl nn_sh nn_kd fw_kv fw_wc (nn_KI2.map (fun x => x.1)) (nn_KJ2.map (fun x => x.1)) (nn_PF2.map (fun x => x.1)) (nn_PS2.map (fun x => x.1)) fk_opn 3 nn_dt9 2 4
theorem fs_opn_0 {G : fw_K} {R : fw_KR} (hG : fw_cls st_opn R G) {x : Int} {σ : ab_SG} (h : sp_step [(2, 1, 0)] (ab_ups (ab_ups (ab_ups (ab_ups σ 1 2 (fw_c x)) 1 3 (fw_c 0)) 1 9 (fw_c 0)) 1 10 (fw_c 0)) (fun rv σ2 => G 24 [some (2, 1, 0), some (0, 0, x)] (rv.toList ++ []) σ2)) : G 0 [some (2, 1, 0), some (0, 0, x)] [] σ := fw_on hG [24] 200 h
theorem fs_opn_24 {G : fw_K} {R : fw_KR} (hG : fw_cls st_opn R G) {a1 : Int} {σ : ab_SG} (h : R none σ) : G 24 [some (2, 1, 0), some (0, 0, a1)] [] σ := fw_on hG [24] 200 h
abbrev fk_has : List fw_CR := []
abbrev st_has : fw_K → fw_KR → fw_K := fw_st vwCl nn_sh nn_kd fw_kv fw_wc (nn_KI1.map (fun x => x.1)) (nn_KJ1.map (fun x => x.1)) (nn_PF1.map (fun x => x.1)) (nn_PS1.map (fun x => x.1)) fk_has 0 nn_dt34 2 1
theorem fs_has_0 {G : fw_K} {R : fw_KR} (hG : fw_cls st_has R G) {s x : Int} {σ : ab_SG} (h : (fw_c x < 0 → (0 ≤ fw_c 0 ∧ fw_c 0 ≤ 1) ∧ R (some (0, 0, 0)) σ) ∧ (0 ≤ fw_c x → (fw_c 9 ≤ fw_c x → (0 ≤ fw_c 0 ∧ fw_c 0 ≤ 1) ∧ R (some (0, 0, 0)) σ) ∧ (fw_c x < fw_c 9 → (fw_c (fw_op 8 (fw_op 6 s x) 1) ≠ fw_c 1 → (0 ≤ fw_c 0 ∧ fw_c 0 ≤ 1) ∧ R (some (0, 0, 0)) σ) ∧ (fw_c (fw_op 8 (fw_op 6 s x) 1) = fw_c 1 → (0 ≤ fw_c 1 ∧ fw_c 1 ≤ 1) ∧ R (some (0, 0, 1)) σ)))) : G 0 [some (0, 0, s), some (0, 0, x)] [] σ := fw_on hG [] 200 h
theorem rw_fd_le (a : Nat → Int) (w : Int) : ∀ (f i : Nat), rw_fd a w f i < 0 ∨ ((i : Int) ≤ rw_fd a w f i ∧ rw_fd a w f i < (i : Int) + f) := by
  intro f
  induction f with
  | zero => intro i; exact Or.inl (by show (-1 : Int) < 0; decide)
  | succ f ih =>
    intro i
    unfold rw_fd
    split
    · exact Or.inr ⟨Int.le_refl _, by omega⟩
    · rcases ih (i + 1) with h | h
      · exact Or.inl h
      · exact Or.inr ⟨by omega, by omega⟩
section
variable {l : Launch} {cy : Nat → ClassId} {ad wr cr : Nat → Nat} {D : va_G}
theorem fm_isName (hinj : nn_inj ad) : fw_H l cy ad wr cr D 24 0 sp_isName := fw_mk hinj (⟨"NameNotes$Tape", "isName", "()Z"⟩, prog_10_method_9_code, 1, (Option.some Jvm.ClassFile.FieldType.boolean), 0, true, 1) rfl rfl nn_KI2_ok nn_KJ2_ok nn_PF2_ok nn_PS2_ok (by decide +kernel) rfl rfl (fun _ h => absurd h List.not_mem_nil) (fun as σ K h => by
  obtain ⟨rfl, h⟩ := h
  refine ⟨rfl, fun G hG => fs_isName_0 hG ?_⟩
  have e2 : fw_c 2 = 2 := fw_c_id (by decide) (by decide)
  rw [e2]
  refine ⟨fun q => ⟨fw_01, ?_⟩, fun q => ⟨fun q2 => ⟨fw_01, ?_⟩, fun q2 => ⟨fw_11, ?_⟩⟩⟩
  · rw [fw_bo_f (fun z => q z.1)] at h; exact h
  · rw [fw_bo_f (fun z => absurd z.2 (by omega))] at h; exact h
  · rw [fw_bo_t ⟨q, q2⟩] at h; exact h)
theorem fm_isWord (hinj : nn_inj ad) : fw_H l cy ad wr cr D 20 0 sp_isWord := fw_mk hinj (⟨"NameNotes$Tape", "isWord", "(LNameNotes$Word;)Z"⟩, prog_10_method_10_code, 2, (Option.some Jvm.ClassFile.FieldType.boolean), 1, true, 1) rfl rfl nn_KI2_ok nn_KJ2_ok nn_PF2_ok nn_PS2_ok (by decide +kernel) rfl rfl (fun _ h => absurd h List.not_mem_nil) (fun as σ K h => by
  obtain ⟨x, rfl, hb, h⟩ := h
  refine ⟨rfl, fun G hG => fs_isWord_0 hG ?_⟩
  have e2 : fw_c 2 = 2 := fw_c_id (by decide) (by decide)
  rw [e2]
  refine ⟨fun q => ⟨fw_01, ?_⟩, fun q => ⟨hb, fun q2 => ⟨fw_01, ?_⟩, fun q2 => ⟨fw_11, ?_⟩⟩⟩
  · rw [fw_bo_f (fun z => q z.1)] at h; exact h
  · rw [fw_bo_f (fun z => q2 z.2)] at h; exact h
  · rw [fw_bo_t ⟨q, q2⟩] at h; exact h)
theorem fm_refuse (hinj : nn_inj ad) : fw_H l cy ad wr cr D 22 0 sp_refuse := fw_mk hinj (⟨"NameNotes$Tape", "refuse", "(I)Z"⟩, prog_10_method_14_code, 2, (Option.some Jvm.ClassFile.FieldType.boolean), 1, true, 1) rfl rfl nn_KI2_ok nn_KJ2_ok nn_PF2_ok nn_PS2_ok (by decide +kernel) rfl rfl (fun _ h => absurd h List.not_mem_nil) (fun as σ K h => by
  obtain ⟨x, rfl, h⟩ := h
  exact ⟨rfl, fun G hG => fs_refuse_0 hG ⟨fw_01, h⟩⟩)
theorem fm_needNumber (hinj : nn_inj ad) : fw_H l cy ad wr cr D 30 1 sp_needNumber := fw_mk hinj (⟨"NameNotes$Tape", "needNumber", "(II)Z"⟩, prog_10_method_12_code, 3, (Option.some Jvm.ClassFile.FieldType.boolean), 2, true, 1) rfl rfl nn_KI2_ok nn_KJ2_ok nn_PF2_ok nn_PS2_ok (by decide +kernel) rfl rfl (List.forall_mem_cons.mpr ⟨fw_row nn_PM2_ok (x := 91) (k := 0) (mn := 22) (np := 1) (ob := true) (ci := 8) (⟨"NameNotes$Tape", "refuse", "(I)Z"⟩, prog_10_method_14_code, 2, (Option.some Jvm.ClassFile.FieldType.boolean), 1, true, 1) rfl (by decide +kernel) rfl rfl (by decide) (fun _ => ⟨_, _, rfl⟩) (fm_refuse hinj), (fun _ h => absurd h List.not_mem_nil)⟩) (fun as σ K h => by
  obtain ⟨x, y, rfl, h1, h2, h3⟩ := h
  refine ⟨rfl, fun G hG => fs_needNumber_0 hG ?_⟩
  have e3 : fw_c 3 = 3 := fw_c_id (by decide) (by decide)
  rw [e3]
  have at30 : fw_c (σ 1 5) = 3 → ¬ (fw_c x ≤ fw_c (σ 1 8) ∧ fw_c (σ 1 8) ≤ fw_c y) → G 30 [some (2, 1, 0), some (0, 0, x), some (0, 0, y)] [] σ := fun q q2 => fs_needNumber_30 hG ⟨_, rfl, fs_needNumber_35 hG ⟨fun _ => ⟨fw_01, h2 q q2⟩, fun z => absurd fw_c0 z⟩⟩
  refine ⟨fun q => ⟨fun q2 => at30 q (by omega), fun q2 => ⟨fun q3 => ⟨fw_11, h3 q ⟨q2, q3⟩⟩, fun q3 => at30 q (by omega)⟩⟩, fun q => ⟨_, rfl, fs_needNumber_13 hG ⟨fw_01, h1 q⟩⟩⟩)
theorem fm_takeSign (hinj : nn_inj ad) : fw_H l cy ad wr cr D 40 3 sp_takeSign := fw_mk hinj (⟨"NameNotes$Tape", "takeSign", "(I)Z"⟩, prog_10_method_13_code, 2, (Option.some Jvm.ClassFile.FieldType.boolean), 1, true, 1) rfl rfl nn_KI2_ok nn_KJ2_ok nn_PF2_ok nn_PS2_ok (by decide +kernel) rfl rfl (List.forall_mem_cons.mpr ⟨fw_row nn_PM2_ok (x := 31) (k := 0) (mn := 10) (np := 0) (ob := true) (ci := 8) (⟨"NameNotes$Tape", "step", "()V"⟩, prog_10_method_5_code, 2, (Option.none : Option Jvm.ClassFile.FieldType), 0, true, 4) rfl (by decide +kernel) rfl rfl (by decide) (fun _ => ⟨_, _, rfl⟩) (fm_step hinj), (List.forall_mem_cons.mpr ⟨fw_row nn_PM2_ok (x := 91) (k := 0) (mn := 22) (np := 1) (ob := true) (ci := 8) (⟨"NameNotes$Tape", "refuse", "(I)Z"⟩, prog_10_method_14_code, 2, (Option.some Jvm.ClassFile.FieldType.boolean), 1, true, 1) rfl (by decide +kernel) rfl rfl (by decide) (fun _ => ⟨_, _, rfl⟩) (fm_refuse hinj), (fun _ h => absurd h List.not_mem_nil)⟩)⟩) (fun as σ K h => by
  obtain ⟨x, rfl, h1, h2⟩ := h
  refine ⟨rfl, fun G hG => fs_takeSign_0 hG ⟨fun q => ⟨rfl, (h2 q).1, fun σ' a b => fs_takeSign_18 hG ⟨fw_11, (h2 q).2 σ' a b⟩⟩, fun q => ⟨_, rfl, fs_takeSign_13 hG ⟨fw_01, h1 q⟩⟩⟩⟩)
theorem fm_opn (hinj : nn_inj ad) : fw_H l cy ad wr cr D 9 3 sp_opn := fw_mk hinj (⟨"NameNotes$Tape", "open", "(I)V"⟩, prog_10_method_4_code, 2, (Option.none : Option Jvm.ClassFile.FieldType), 1, true, 4) rfl rfl nn_KI2_ok nn_KJ2_ok nn_PF2_ok nn_PS2_ok (by decide +kernel) rfl rfl (List.forall_mem_cons.mpr ⟨fw_row nn_PM2_ok (x := 31) (k := 0) (mn := 10) (np := 0) (ob := true) (ci := 8) (⟨"NameNotes$Tape", "step", "()V"⟩, prog_10_method_5_code, 2, (Option.none : Option Jvm.ClassFile.FieldType), 0, true, 4) rfl (by decide +kernel) rfl rfl (by decide) (fun _ => ⟨_, _, rfl⟩) (fm_step hinj), (fun _ h => absurd h List.not_mem_nil)⟩) (fun as σ K h => by
  obtain ⟨x, rfl, ⟨n1, n2, n3, n4⟩, h⟩ := h
  refine ⟨rfl, fun G hG => fs_opn_0 hG ?_⟩
  rw [fw_c0]
  generalize hs : ab_ups (ab_ups (ab_ups (ab_ups σ 1 2 (fw_c x)) 1 3 0) 1 9 0) 1 10 0 = σ1
  have hM : ab_okM ((1, 2) :: (1, 9) :: (1, 10) :: st_M) σ σ1 := by
    rw [← hs]
    exact fw_okM_ups (fw_okM_ups (fw_okM_ups (fw_okM_ups (fw_okM_refl _ _) (by decide)) (by decide)) (by decide)) (by decide)
  have e1 : σ1 1 1 = σ 1 1 := hM 1 1 (by decide)
  have e2 : σ1 1 2 = fw_c x := by rw [← hs]; rfl
  have e3 : σ1 1 3 = 0 := by rw [← hs]; rfl
  have e9 : σ1 1 9 = 0 := by rw [← hs]; rfl
  refine ⟨rfl, by rw [e1, e2, e3]; exact ⟨Int.le_refl _, n1, n2, n3, n4⟩, fun σ' a b => fs_opn_24 hG (h σ' (fw_okM_tr hM a (by decide)) ?_ ?_ ?_)⟩
  · rw [a 1 2 (by decide)]; exact e2
  · rw [a 1 9 (by decide)]; exact e9
  · rw [tp_t_M hM (by decide), e1, e2, e3] at b
    exact b)
theorem fm_has (hinj : nn_inj ad) : fw_H l cy ad wr cr D 34 0 sp_has := fw_mk hinj (⟨"NameNotes", "has", "(II)Z"⟩, prog_1_method_80_code, 2, (Option.some Jvm.ClassFile.FieldType.boolean), 2, false, 1) rfl rfl nn_KI1_ok nn_KJ1_ok nn_PF1_ok nn_PS1_ok (by decide +kernel) rfl rfl (fun _ h => absurd h List.not_mem_nil) (fun as σ K h => by
  obtain ⟨s, x, rfl, hb, h⟩ := h
  refine ⟨rfl, fun G hG => fs_has_0 hG ?_⟩
  have e9 : fw_c 9 = 9 := fw_c_id (by decide) (by decide)
  rw [e9, fw_c1]
  refine ⟨fun q => absurd q (by omega), fun _ => ⟨fun q => absurd q (by omega), fun _ => ⟨fun q => ⟨fw_01, ?_⟩, fun q => ⟨fw_11, ?_⟩⟩⟩⟩
  · rw [fw_bo_f q] at h; exact h
  · rw [fw_bo_t q] at h; exact h)
end
end
section
abbrev fk_at50 : List fw_CR := []
abbrev st_at50 : fw_K → fw_KR → fw_K := fw_st vwCl nn_sh nn_kd fw_kv fw_wc (nn_KI1.map (fun x => x.1)) (nn_KJ1.map (fun x => x.1)) (nn_PF1.map (fun x => x.1)) (nn_PS1.map (fun x => x.1)) fk_at50 0 nn_dt29 2 0
theorem fs_at50_0 {G : fw_K} {R : fw_KR} (hG : fw_cls st_at50 R G) {x : Int} {σ : ab_SG} (h : (fw_c x < 0 → R (some (0, 0, 0)) σ) ∧ (0 ≤ fw_c x → (fw_c ((81 : Nat) : Int) ≤ fw_c x → R (some (0, 0, 0)) σ) ∧ (fw_c x < fw_c ((81 : Nat) : Int) → (0 ≤ fw_c x ∧ fw_c x < ((81 : Nat) : Int)) ∧ (R (some (0, 0, σ 50 (fw_c x).toNat)) σ)))) : G 0 [some (2, 50, 0), some (0, 0, x)] [] σ := fw_on hG [] 200 h
abbrev fk_put50 : List fw_CR := []
abbrev st_put50 : fw_K → fw_KR → fw_K := fw_st vwCl nn_sh nn_kd fw_kv fw_wc (nn_KI1.map (fun x => x.1)) (nn_KJ1.map (fun x => x.1)) (nn_PF1.map (fun x => x.1)) (nn_PS1.map (fun x => x.1)) fk_put50 0 nn_dt27 3 4
theorem fs_put50_0 {G : fw_K} {R : fw_KR} (hG : fw_cls st_put50 R G) {x v : Int} {σ : ab_SG} (h : (fw_c x < 0 → R none σ) ∧ (0 ≤ fw_c x → (fw_c ((81 : Nat) : Int) ≤ fw_c x → R none σ) ∧ (fw_c x < fw_c ((81 : Nat) : Int) → (0 ≤ fw_c x ∧ fw_c x < ((81 : Nat) : Int)) ∧ True ∧ (R none (ab_ups σ 50 (fw_c x).toNat (fw_c v)))))) : G 0 [some (2, 50, 0), some (0, 0, x), some (0, 0, v)] [] σ := fw_on hG [] 200 h
abbrev fk_fill50 : List fw_CR := []
abbrev st_fill50 : fw_K → fw_KR → fw_K := fw_st vwCl nn_sh nn_kd fw_kv fw_wc (nn_KI1.map (fun x => x.1)) (nn_KJ1.map (fun x => x.1)) (nn_PF1.map (fun x => x.1)) (nn_PS1.map (fun x => x.1)) fk_fill50 0 nn_dt7 3 4
theorem fs_fill50_0 {G : fw_K} {R : fw_KR} (hG : fw_cls st_fill50 R G) {v : Int} {σ : ab_SG} (h : G 2 [some (2, 50, 0), some (0, 0, v), some (0, 0, 0)] [] σ) : G 0 [some (2, 50, 0), some (0, 0, v), none] [] σ := fw_on hG [2] 200 h
theorem fs_fill50_2 {G : fw_K} {R : fw_KR} (hG : fw_cls st_fill50 R G) {a1 a2 : Int} {σ : ab_SG} (h : (fw_c ((81 : Nat) : Int) ≤ fw_c a2 → R none σ) ∧ (fw_c a2 < fw_c ((81 : Nat) : Int) → (0 ≤ fw_c a2 ∧ fw_c a2 < ((81 : Nat) : Int)) ∧ True ∧ (G 2 [some (2, 50, 0), some (0, 0, a1), some (0, 0, a2 + 1)] [] (ab_ups σ 50 (fw_c a2).toNat (fw_c a1))))) : G 2 [some (2, 50, 0), some (0, 0, a1), some (0, 0, a2)] [] σ := fw_on hG [2] 200 h
abbrev fk_at51 : List fw_CR := []
abbrev st_at51 : fw_K → fw_KR → fw_K := fw_st vwCl nn_sh nn_kd fw_kv fw_wc (nn_KI1.map (fun x => x.1)) (nn_KJ1.map (fun x => x.1)) (nn_PF1.map (fun x => x.1)) (nn_PS1.map (fun x => x.1)) fk_at51 0 nn_dt29 2 0
theorem fs_at51_0 {G : fw_K} {R : fw_KR} (hG : fw_cls st_at51 R G) {x : Int} {σ : ab_SG} (h : (fw_c x < 0 → R (some (0, 0, 0)) σ) ∧ (0 ≤ fw_c x → (fw_c ((81 : Nat) : Int) ≤ fw_c x → R (some (0, 0, 0)) σ) ∧ (fw_c x < fw_c ((81 : Nat) : Int) → (0 ≤ fw_c x ∧ fw_c x < ((81 : Nat) : Int)) ∧ (R (some (0, 0, σ 51 (fw_c x).toNat)) σ)))) : G 0 [some (2, 51, 0), some (0, 0, x)] [] σ := fw_on hG [] 200 h
abbrev fk_put51 : List fw_CR := []
abbrev st_put51 : fw_K → fw_KR → fw_K := fw_st vwCl nn_sh nn_kd fw_kv fw_wc (nn_KI1.map (fun x => x.1)) (nn_KJ1.map (fun x => x.1)) (nn_PF1.map (fun x => x.1)) (nn_PS1.map (fun x => x.1)) fk_put51 0 nn_dt27 3 4
theorem fs_put51_0 {G : fw_K} {R : fw_KR} (hG : fw_cls st_put51 R G) {x v : Int} {σ : ab_SG} (h : (fw_c x < 0 → R none σ) ∧ (0 ≤ fw_c x → (fw_c ((81 : Nat) : Int) ≤ fw_c x → R none σ) ∧ (fw_c x < fw_c ((81 : Nat) : Int) → (0 ≤ fw_c x ∧ fw_c x < ((81 : Nat) : Int)) ∧ True ∧ (R none (ab_ups σ 51 (fw_c x).toNat (fw_c v)))))) : G 0 [some (2, 51, 0), some (0, 0, x), some (0, 0, v)] [] σ := fw_on hG [] 200 h
abbrev fk_fill51 : List fw_CR := []
abbrev st_fill51 : fw_K → fw_KR → fw_K := fw_st vwCl nn_sh nn_kd fw_kv fw_wc (nn_KI1.map (fun x => x.1)) (nn_KJ1.map (fun x => x.1)) (nn_PF1.map (fun x => x.1)) (nn_PS1.map (fun x => x.1)) fk_fill51 0 nn_dt7 3 4
theorem fs_fill51_0 {G : fw_K} {R : fw_KR} (hG : fw_cls st_fill51 R G) {v : Int} {σ : ab_SG} (h : G 2 [some (2, 51, 0), some (0, 0, v), some (0, 0, 0)] [] σ) : G 0 [some (2, 51, 0), some (0, 0, v), none] [] σ := fw_on hG [2] 200 h
theorem fs_fill51_2 {G : fw_K} {R : fw_KR} (hG : fw_cls st_fill51 R G) {a1 a2 : Int} {σ : ab_SG} (h : (fw_c ((81 : Nat) : Int) ≤ fw_c a2 → R none σ) ∧ (fw_c a2 < fw_c ((81 : Nat) : Int) → (0 ≤ fw_c a2 ∧ fw_c a2 < ((81 : Nat) : Int)) ∧ True ∧ (G 2 [some (2, 51, 0), some (0, 0, a1), some (0, 0, a2 + 1)] [] (ab_ups σ 51 (fw_c a2).toNat (fw_c a1))))) : G 2 [some (2, 51, 0), some (0, 0, a1), some (0, 0, a2)] [] σ := fw_on hG [2] 200 h
abbrev fk_at52 : List fw_CR := []
abbrev st_at52 : fw_K → fw_KR → fw_K := fw_st vwCl nn_sh nn_kd fw_kv fw_wc (nn_KI1.map (fun x => x.1)) (nn_KJ1.map (fun x => x.1)) (nn_PF1.map (fun x => x.1)) (nn_PS1.map (fun x => x.1)) fk_at52 0 nn_dt29 2 0
theorem fs_at52_0 {G : fw_K} {R : fw_KR} (hG : fw_cls st_at52 R G) {x : Int} {σ : ab_SG} (h : (fw_c x < 0 → R (some (0, 0, 0)) σ) ∧ (0 ≤ fw_c x → (fw_c ((9 : Nat) : Int) ≤ fw_c x → R (some (0, 0, 0)) σ) ∧ (fw_c x < fw_c ((9 : Nat) : Int) → (0 ≤ fw_c x ∧ fw_c x < ((9 : Nat) : Int)) ∧ (R (some (0, 0, σ 52 (fw_c x).toNat)) σ)))) : G 0 [some (2, 52, 0), some (0, 0, x)] [] σ := fw_on hG [] 200 h
abbrev fk_put52 : List fw_CR := []
abbrev st_put52 : fw_K → fw_KR → fw_K := fw_st vwCl nn_sh nn_kd fw_kv fw_wc (nn_KI1.map (fun x => x.1)) (nn_KJ1.map (fun x => x.1)) (nn_PF1.map (fun x => x.1)) (nn_PS1.map (fun x => x.1)) fk_put52 0 nn_dt27 3 4
theorem fs_put52_0 {G : fw_K} {R : fw_KR} (hG : fw_cls st_put52 R G) {x v : Int} {σ : ab_SG} (h : (fw_c x < 0 → R none σ) ∧ (0 ≤ fw_c x → (fw_c ((9 : Nat) : Int) ≤ fw_c x → R none σ) ∧ (fw_c x < fw_c ((9 : Nat) : Int) → (0 ≤ fw_c x ∧ fw_c x < ((9 : Nat) : Int)) ∧ True ∧ (R none (ab_ups σ 52 (fw_c x).toNat (fw_c v)))))) : G 0 [some (2, 52, 0), some (0, 0, x), some (0, 0, v)] [] σ := fw_on hG [] 200 h
abbrev fk_fill52 : List fw_CR := []
abbrev st_fill52 : fw_K → fw_KR → fw_K := fw_st vwCl nn_sh nn_kd fw_kv fw_wc (nn_KI1.map (fun x => x.1)) (nn_KJ1.map (fun x => x.1)) (nn_PF1.map (fun x => x.1)) (nn_PS1.map (fun x => x.1)) fk_fill52 0 nn_dt7 3 4
theorem fs_fill52_0 {G : fw_K} {R : fw_KR} (hG : fw_cls st_fill52 R G) {v : Int} {σ : ab_SG} (h : G 2 [some (2, 52, 0), some (0, 0, v), some (0, 0, 0)] [] σ) : G 0 [some (2, 52, 0), some (0, 0, v), none] [] σ := fw_on hG [2] 200 h
theorem fs_fill52_2 {G : fw_K} {R : fw_KR} (hG : fw_cls st_fill52 R G) {a1 a2 : Int} {σ : ab_SG} (h : (fw_c ((9 : Nat) : Int) ≤ fw_c a2 → R none σ) ∧ (fw_c a2 < fw_c ((9 : Nat) : Int) → (0 ≤ fw_c a2 ∧ fw_c a2 < ((9 : Nat) : Int)) ∧ True ∧ (G 2 [some (2, 52, 0), some (0, 0, a1), some (0, 0, a2 + 1)] [] (ab_ups σ 52 (fw_c a2).toNat (fw_c a1))))) : G 2 [some (2, 52, 0), some (0, 0, a1), some (0, 0, a2)] [] σ := fw_on hG [2] 200 h
abbrev fk_at54 : List fw_CR := []
abbrev st_at54 : fw_K → fw_KR → fw_K := fw_st vwCl nn_sh nn_kd fw_kv fw_wc (nn_KI1.map (fun x => x.1)) (nn_KJ1.map (fun x => x.1)) (nn_PF1.map (fun x => x.1)) (nn_PS1.map (fun x => x.1)) fk_at54 0 nn_dt29 2 0
theorem fs_at54_0 {G : fw_K} {R : fw_KR} (hG : fw_cls st_at54 R G) {x : Int} {σ : ab_SG} (h : (fw_c x < 0 → R (some (0, 0, 0)) σ) ∧ (0 ≤ fw_c x → (fw_c ((6 : Nat) : Int) ≤ fw_c x → R (some (0, 0, 0)) σ) ∧ (fw_c x < fw_c ((6 : Nat) : Int) → (0 ≤ fw_c x ∧ fw_c x < ((6 : Nat) : Int)) ∧ (R (some (0, 0, σ 54 (fw_c x).toNat)) σ)))) : G 0 [some (2, 54, 0), some (0, 0, x)] [] σ := fw_on hG [] 200 h
abbrev fk_put54 : List fw_CR := []
abbrev st_put54 : fw_K → fw_KR → fw_K := fw_st vwCl nn_sh nn_kd fw_kv fw_wc (nn_KI1.map (fun x => x.1)) (nn_KJ1.map (fun x => x.1)) (nn_PF1.map (fun x => x.1)) (nn_PS1.map (fun x => x.1)) fk_put54 0 nn_dt27 3 4
theorem fs_put54_0 {G : fw_K} {R : fw_KR} (hG : fw_cls st_put54 R G) {x v : Int} {σ : ab_SG} (h : (fw_c x < 0 → R none σ) ∧ (0 ≤ fw_c x → (fw_c ((6 : Nat) : Int) ≤ fw_c x → R none σ) ∧ (fw_c x < fw_c ((6 : Nat) : Int) → (0 ≤ fw_c x ∧ fw_c x < ((6 : Nat) : Int)) ∧ True ∧ (R none (ab_ups σ 54 (fw_c x).toNat (fw_c v)))))) : G 0 [some (2, 54, 0), some (0, 0, x), some (0, 0, v)] [] σ := fw_on hG [] 200 h
abbrev fk_fill54 : List fw_CR := []
abbrev st_fill54 : fw_K → fw_KR → fw_K := fw_st vwCl nn_sh nn_kd fw_kv fw_wc (nn_KI1.map (fun x => x.1)) (nn_KJ1.map (fun x => x.1)) (nn_PF1.map (fun x => x.1)) (nn_PS1.map (fun x => x.1)) fk_fill54 0 nn_dt7 3 4
theorem fs_fill54_0 {G : fw_K} {R : fw_KR} (hG : fw_cls st_fill54 R G) {v : Int} {σ : ab_SG} (h : G 2 [some (2, 54, 0), some (0, 0, v), some (0, 0, 0)] [] σ) : G 0 [some (2, 54, 0), some (0, 0, v), none] [] σ := fw_on hG [2] 200 h
theorem fs_fill54_2 {G : fw_K} {R : fw_KR} (hG : fw_cls st_fill54 R G) {a1 a2 : Int} {σ : ab_SG} (h : (fw_c ((6 : Nat) : Int) ≤ fw_c a2 → R none σ) ∧ (fw_c a2 < fw_c ((6 : Nat) : Int) → (0 ≤ fw_c a2 ∧ fw_c a2 < ((6 : Nat) : Int)) ∧ True ∧ (G 2 [some (2, 54, 0), some (0, 0, a1), some (0, 0, a2 + 1)] [] (ab_ups σ 54 (fw_c a2).toNat (fw_c a1))))) : G 2 [some (2, 54, 0), some (0, 0, a1), some (0, 0, a2)] [] σ := fw_on hG [2] 200 h
abbrev fk_at55 : List fw_CR := []
abbrev st_at55 : fw_K → fw_KR → fw_K := fw_st vwCl nn_sh nn_kd fw_kv fw_wc (nn_KI1.map (fun x => x.1)) (nn_KJ1.map (fun x => x.1)) (nn_PF1.map (fun x => x.1)) (nn_PS1.map (fun x => x.1)) fk_at55 0 nn_dt29 2 0
theorem fs_at55_0 {G : fw_K} {R : fw_KR} (hG : fw_cls st_at55 R G) {x : Int} {σ : ab_SG} (h : (fw_c x < 0 → R (some (0, 0, 0)) σ) ∧ (0 ≤ fw_c x → (fw_c ((45 : Nat) : Int) ≤ fw_c x → R (some (0, 0, 0)) σ) ∧ (fw_c x < fw_c ((45 : Nat) : Int) → (0 ≤ fw_c x ∧ fw_c x < ((45 : Nat) : Int)) ∧ (R (some (0, 0, σ 55 (fw_c x).toNat)) σ)))) : G 0 [some (2, 55, 0), some (0, 0, x)] [] σ := fw_on hG [] 200 h
abbrev fk_put55 : List fw_CR := []
abbrev st_put55 : fw_K → fw_KR → fw_K := fw_st vwCl nn_sh nn_kd fw_kv fw_wc (nn_KI1.map (fun x => x.1)) (nn_KJ1.map (fun x => x.1)) (nn_PF1.map (fun x => x.1)) (nn_PS1.map (fun x => x.1)) fk_put55 0 nn_dt27 3 4
theorem fs_put55_0 {G : fw_K} {R : fw_KR} (hG : fw_cls st_put55 R G) {x v : Int} {σ : ab_SG} (h : (fw_c x < 0 → R none σ) ∧ (0 ≤ fw_c x → (fw_c ((45 : Nat) : Int) ≤ fw_c x → R none σ) ∧ (fw_c x < fw_c ((45 : Nat) : Int) → (0 ≤ fw_c x ∧ fw_c x < ((45 : Nat) : Int)) ∧ True ∧ (R none (ab_ups σ 55 (fw_c x).toNat (fw_c v)))))) : G 0 [some (2, 55, 0), some (0, 0, x), some (0, 0, v)] [] σ := fw_on hG [] 200 h
abbrev fk_fill55 : List fw_CR := []
abbrev st_fill55 : fw_K → fw_KR → fw_K := fw_st vwCl nn_sh nn_kd fw_kv fw_wc (nn_KI1.map (fun x => x.1)) (nn_KJ1.map (fun x => x.1)) (nn_PF1.map (fun x => x.1)) (nn_PS1.map (fun x => x.1)) fk_fill55 0 nn_dt7 3 4
theorem fs_fill55_0 {G : fw_K} {R : fw_KR} (hG : fw_cls st_fill55 R G) {v : Int} {σ : ab_SG} (h : G 2 [some (2, 55, 0), some (0, 0, v), some (0, 0, 0)] [] σ) : G 0 [some (2, 55, 0), some (0, 0, v), none] [] σ := fw_on hG [2] 200 h
theorem fs_fill55_2 {G : fw_K} {R : fw_KR} (hG : fw_cls st_fill55 R G) {a1 a2 : Int} {σ : ab_SG} (h : (fw_c ((45 : Nat) : Int) ≤ fw_c a2 → R none σ) ∧ (fw_c a2 < fw_c ((45 : Nat) : Int) → (0 ≤ fw_c a2 ∧ fw_c a2 < ((45 : Nat) : Int)) ∧ True ∧ (G 2 [some (2, 55, 0), some (0, 0, a1), some (0, 0, a2 + 1)] [] (ab_ups σ 55 (fw_c a2).toNat (fw_c a1))))) : G 2 [some (2, 55, 0), some (0, 0, a1), some (0, 0, a2)] [] σ := fw_on hG [2] 200 h
abbrev fk_at56 : List fw_CR := []
abbrev st_at56 : fw_K → fw_KR → fw_K := fw_st vwCl nn_sh nn_kd fw_kv fw_wc (nn_KI1.map (fun x => x.1)) (nn_KJ1.map (fun x => x.1)) (nn_PF1.map (fun x => x.1)) (nn_PS1.map (fun x => x.1)) fk_at56 0 nn_dt29 2 0
theorem fs_at56_0 {G : fw_K} {R : fw_KR} (hG : fw_cls st_at56 R G) {x : Int} {σ : ab_SG} (h : (fw_c x < 0 → R (some (0, 0, 0)) σ) ∧ (0 ≤ fw_c x → (fw_c ((5 : Nat) : Int) ≤ fw_c x → R (some (0, 0, 0)) σ) ∧ (fw_c x < fw_c ((5 : Nat) : Int) → (0 ≤ fw_c x ∧ fw_c x < ((5 : Nat) : Int)) ∧ (R (some (0, 0, σ 56 (fw_c x).toNat)) σ)))) : G 0 [some (2, 56, 0), some (0, 0, x)] [] σ := fw_on hG [] 200 h
abbrev fk_put56 : List fw_CR := []
abbrev st_put56 : fw_K → fw_KR → fw_K := fw_st vwCl nn_sh nn_kd fw_kv fw_wc (nn_KI1.map (fun x => x.1)) (nn_KJ1.map (fun x => x.1)) (nn_PF1.map (fun x => x.1)) (nn_PS1.map (fun x => x.1)) fk_put56 0 nn_dt27 3 4
theorem fs_put56_0 {G : fw_K} {R : fw_KR} (hG : fw_cls st_put56 R G) {x v : Int} {σ : ab_SG} (h : (fw_c x < 0 → R none σ) ∧ (0 ≤ fw_c x → (fw_c ((5 : Nat) : Int) ≤ fw_c x → R none σ) ∧ (fw_c x < fw_c ((5 : Nat) : Int) → (0 ≤ fw_c x ∧ fw_c x < ((5 : Nat) : Int)) ∧ True ∧ (R none (ab_ups σ 56 (fw_c x).toNat (fw_c v)))))) : G 0 [some (2, 56, 0), some (0, 0, x), some (0, 0, v)] [] σ := fw_on hG [] 200 h
abbrev fk_fill56 : List fw_CR := []
abbrev st_fill56 : fw_K → fw_KR → fw_K := fw_st vwCl nn_sh nn_kd fw_kv fw_wc (nn_KI1.map (fun x => x.1)) (nn_KJ1.map (fun x => x.1)) (nn_PF1.map (fun x => x.1)) (nn_PS1.map (fun x => x.1)) fk_fill56 0 nn_dt7 3 4
theorem fs_fill56_0 {G : fw_K} {R : fw_KR} (hG : fw_cls st_fill56 R G) {v : Int} {σ : ab_SG} (h : G 2 [some (2, 56, 0), some (0, 0, v), some (0, 0, 0)] [] σ) : G 0 [some (2, 56, 0), some (0, 0, v), none] [] σ := fw_on hG [2] 200 h
theorem fs_fill56_2 {G : fw_K} {R : fw_KR} (hG : fw_cls st_fill56 R G) {a1 a2 : Int} {σ : ab_SG} (h : (fw_c ((5 : Nat) : Int) ≤ fw_c a2 → R none σ) ∧ (fw_c a2 < fw_c ((5 : Nat) : Int) → (0 ≤ fw_c a2 ∧ fw_c a2 < ((5 : Nat) : Int)) ∧ True ∧ (G 2 [some (2, 56, 0), some (0, 0, a1), some (0, 0, a2 + 1)] [] (ab_ups σ 56 (fw_c a2).toNat (fw_c a1))))) : G 2 [some (2, 56, 0), some (0, 0, a1), some (0, 0, a2)] [] σ := fw_on hG [2] 200 h
abbrev fk_at64 : List fw_CR := []
abbrev st_at64 : fw_K → fw_KR → fw_K := fw_st vwCl nn_sh nn_kd fw_kv fw_wc (nn_KI1.map (fun x => x.1)) (nn_KJ1.map (fun x => x.1)) (nn_PF1.map (fun x => x.1)) (nn_PS1.map (fun x => x.1)) fk_at64 0 nn_dt29 2 0
theorem fs_at64_0 {G : fw_K} {R : fw_KR} (hG : fw_cls st_at64 R G) {x : Int} {σ : ab_SG} (h : (fw_c x < 0 → R (some (0, 0, 0)) σ) ∧ (0 ≤ fw_c x → (fw_c ((5 : Nat) : Int) ≤ fw_c x → R (some (0, 0, 0)) σ) ∧ (fw_c x < fw_c ((5 : Nat) : Int) → (0 ≤ fw_c x ∧ fw_c x < ((5 : Nat) : Int)) ∧ (R (some (0, 0, σ 64 (fw_c x).toNat)) σ)))) : G 0 [some (2, 64, 0), some (0, 0, x)] [] σ := fw_on hG [] 200 h
abbrev fk_put64 : List fw_CR := []
abbrev st_put64 : fw_K → fw_KR → fw_K := fw_st vwCl nn_sh nn_kd fw_kv fw_wc (nn_KI1.map (fun x => x.1)) (nn_KJ1.map (fun x => x.1)) (nn_PF1.map (fun x => x.1)) (nn_PS1.map (fun x => x.1)) fk_put64 0 nn_dt27 3 4
theorem fs_put64_0 {G : fw_K} {R : fw_KR} (hG : fw_cls st_put64 R G) {x v : Int} {σ : ab_SG} (h : (fw_c x < 0 → R none σ) ∧ (0 ≤ fw_c x → (fw_c ((5 : Nat) : Int) ≤ fw_c x → R none σ) ∧ (fw_c x < fw_c ((5 : Nat) : Int) → (0 ≤ fw_c x ∧ fw_c x < ((5 : Nat) : Int)) ∧ True ∧ (R none (ab_ups σ 64 (fw_c x).toNat (fw_c v)))))) : G 0 [some (2, 64, 0), some (0, 0, x), some (0, 0, v)] [] σ := fw_on hG [] 200 h
abbrev fk_fill64 : List fw_CR := []
abbrev st_fill64 : fw_K → fw_KR → fw_K := fw_st vwCl nn_sh nn_kd fw_kv fw_wc (nn_KI1.map (fun x => x.1)) (nn_KJ1.map (fun x => x.1)) (nn_PF1.map (fun x => x.1)) (nn_PS1.map (fun x => x.1)) fk_fill64 0 nn_dt7 3 4
theorem fs_fill64_0 {G : fw_K} {R : fw_KR} (hG : fw_cls st_fill64 R G) {v : Int} {σ : ab_SG} (h : G 2 [some (2, 64, 0), some (0, 0, v), some (0, 0, 0)] [] σ) : G 0 [some (2, 64, 0), some (0, 0, v), none] [] σ := fw_on hG [2] 200 h
theorem fs_fill64_2 {G : fw_K} {R : fw_KR} (hG : fw_cls st_fill64 R G) {a1 a2 : Int} {σ : ab_SG} (h : (fw_c ((5 : Nat) : Int) ≤ fw_c a2 → R none σ) ∧ (fw_c a2 < fw_c ((5 : Nat) : Int) → (0 ≤ fw_c a2 ∧ fw_c a2 < ((5 : Nat) : Int)) ∧ True ∧ (G 2 [some (2, 64, 0), some (0, 0, a1), some (0, 0, a2 + 1)] [] (ab_ups σ 64 (fw_c a2).toNat (fw_c a1))))) : G 2 [some (2, 64, 0), some (0, 0, a1), some (0, 0, a2)] [] σ := fw_on hG [2] 200 h
abbrev fk_at53 : List fw_CR := []
abbrev st_at53 : fw_K → fw_KR → fw_K := fw_st vwCl nn_sh nn_kd fw_kv fw_wc (nn_KI1.map (fun x => x.1)) (nn_KJ1.map (fun x => x.1)) (nn_PF1.map (fun x => x.1)) (nn_PS1.map (fun x => x.1)) fk_at53 0 nn_dt29 2 0
theorem fs_at53_0 {G : fw_K} {R : fw_KR} (hG : fw_cls st_at53 R G) {x : Int} {σ : ab_SG} (h : (fw_c x < 0 → R (some (0, 0, 0)) σ) ∧ (0 ≤ fw_c x → (fw_c ((324 : Nat) : Int) ≤ fw_c x → R (some (0, 0, 0)) σ) ∧ (fw_c x < fw_c ((324 : Nat) : Int) → (0 ≤ fw_c x ∧ fw_c x < ((324 : Nat) : Int)) ∧ (R (some (0, 0, σ 53 (fw_c x).toNat)) σ)))) : G 0 [some (2, 53, 0), some (0, 0, x)] [] σ := fw_on hG [] 200 h
abbrev fk_put53 : List fw_CR := []
abbrev st_put53 : fw_K → fw_KR → fw_K := fw_st vwCl nn_sh nn_kd fw_kv fw_wc (nn_KI1.map (fun x => x.1)) (nn_KJ1.map (fun x => x.1)) (nn_PF1.map (fun x => x.1)) (nn_PS1.map (fun x => x.1)) fk_put53 0 nn_dt27 3 4
theorem fs_put53_0 {G : fw_K} {R : fw_KR} (hG : fw_cls st_put53 R G) {x v : Int} {σ : ab_SG} (h : (fw_c x < 0 → R none σ) ∧ (0 ≤ fw_c x → (fw_c ((324 : Nat) : Int) ≤ fw_c x → R none σ) ∧ (fw_c x < fw_c ((324 : Nat) : Int) → (0 ≤ fw_c x ∧ fw_c x < ((324 : Nat) : Int)) ∧ True ∧ (R none (ab_ups σ 53 (fw_c x).toNat (fw_c v)))))) : G 0 [some (2, 53, 0), some (0, 0, x), some (0, 0, v)] [] σ := fw_on hG [] 200 h
abbrev fk_fill53 : List fw_CR := []
abbrev st_fill53 : fw_K → fw_KR → fw_K := fw_st vwCl nn_sh nn_kd fw_kv fw_wc (nn_KI1.map (fun x => x.1)) (nn_KJ1.map (fun x => x.1)) (nn_PF1.map (fun x => x.1)) (nn_PS1.map (fun x => x.1)) fk_fill53 0 nn_dt7 3 4
theorem fs_fill53_0 {G : fw_K} {R : fw_KR} (hG : fw_cls st_fill53 R G) {v : Int} {σ : ab_SG} (h : G 2 [some (2, 53, 0), some (0, 0, v), some (0, 0, 0)] [] σ) : G 0 [some (2, 53, 0), some (0, 0, v), none] [] σ := fw_on hG [2] 200 h
theorem fs_fill53_2 {G : fw_K} {R : fw_KR} (hG : fw_cls st_fill53 R G) {a1 a2 : Int} {σ : ab_SG} (h : (fw_c ((324 : Nat) : Int) ≤ fw_c a2 → R none σ) ∧ (fw_c a2 < fw_c ((324 : Nat) : Int) → (0 ≤ fw_c a2 ∧ fw_c a2 < ((324 : Nat) : Int)) ∧ True ∧ (G 2 [some (2, 53, 0), some (0, 0, a1), some (0, 0, a2 + 1)] [] (ab_ups σ 53 (fw_c a2).toNat (fw_c a1))))) : G 2 [some (2, 53, 0), some (0, 0, a1), some (0, 0, a2)] [] σ := fw_on hG [2] 200 h
abbrev fk_putl57 : List fw_CR := []
abbrev st_putl57 : fw_K → fw_KR → fw_K := fw_st vwCl nn_sh nn_kd fw_kv fw_wc (nn_KI1.map (fun x => x.1)) (nn_KJ1.map (fun x => x.1)) (nn_PF1.map (fun x => x.1)) (nn_PS1.map (fun x => x.1)) fk_putl57 0 nn_dt26 4 4
theorem fs_putl57_0 {G : fw_K} {R : fw_KR} (hG : fw_cls st_putl57 R G) {x v : Int} {σ : ab_SG} (h : (fw_c x < 0 → R none σ) ∧ (0 ≤ fw_c x → (fw_c ((9 : Nat) : Int) ≤ fw_c x → R none σ) ∧ (fw_c x < fw_c ((9 : Nat) : Int) → (0 ≤ fw_c x ∧ fw_c x < ((9 : Nat) : Int)) ∧ True ∧ (R none (ab_ups σ 57 (fw_c x).toNat (fw_d v)))))) : G 0 [some (2, 57, 0), some (0, 0, x), some (1, 0, v), none] [] σ := fw_on hG [] 200 h
abbrev fk_isIn57 : List fw_CR := []
abbrev st_isIn57 : fw_K → fw_KR → fw_K := fw_st vwCl nn_sh nn_kd fw_kv fw_wc (nn_KI3.map (fun x => x.1)) (nn_KJ3.map (fun x => x.1)) (nn_PF3.map (fun x => x.1)) (nn_PS3.map (fun x => x.1)) fk_isIn57 0 nn_dt25 4 1
theorem fs_isIn57_0 {G : fw_K} {R : fw_KR} (hG : fw_cls st_isIn57 R G) {x : Int} {σ : ab_SG} (h : G 2 [some (2, 48, 0), some (2, 57, 0), some (0, 0, x), some (0, 0, 0)] [] σ) : G 0 [some (2, 48, 0), some (2, 57, 0), some (0, 0, x), none] [] σ := fw_on hG [2] 200 h
theorem fs_isIn57_2 {G : fw_K} {R : fw_KR} (hG : fw_cls st_isIn57 R G) {a2 a3 : Int} {σ : ab_SG} (h : (fw_c a2 ≤ fw_c a3 → (0 ≤ fw_c 0 ∧ fw_c 0 ≤ 1) ∧ R (some (0, 0, 0)) σ) ∧ (fw_c a3 < fw_c a2 → (fw_c ((9 : Nat) : Int) ≤ fw_c a3 → (0 ≤ fw_c 0 ∧ fw_c 0 ≤ 1) ∧ R (some (0, 0, 0)) σ) ∧ (fw_c a3 < fw_c ((9 : Nat) : Int) → (0 ≤ fw_c a3 ∧ fw_c a3 < ((9 : Nat) : Int)) ∧ ((fw_d (σ 57 (fw_c a3).toNat) ≠ fw_d (σ 1 6) → G 2 [some (2, 48, 0), some (2, 57, 0), some (0, 0, a2), some (0, 0, a3 + 1)] [] σ) ∧ (fw_d (σ 57 (fw_c a3).toNat) = fw_d (σ 1 6) → (0 ≤ fw_c 1 ∧ fw_c 1 ≤ 1) ∧ R (some (0, 0, 1)) σ))))) : G 2 [some (2, 48, 0), some (2, 57, 0), some (0, 0, a2), some (0, 0, a3)] [] σ := fw_on hG [2] 200 h
abbrev fk_seek57 : List fw_CR := [(87, 0, true, 8, 0, sp_isName), (91, 1, true, 8, 0, sp_refuse)]
abbrev st_seek57 : fw_K → fw_KR → fw_K := fw_st vwCl nn_sh nn_kd fw_kv fw_wc (nn_KI2.map (fun x => x.1)) (nn_KJ2.map (fun x => x.1)) (nn_PF2.map (fun x => x.1)) (nn_PS2.map (fun x => x.1)) fk_seek57 1 nn_dt33 4 0
theorem fs_seek57_0 {G : fw_K} {R : fw_KR} (hG : fw_cls st_seek57 R G) {x : Int} {σ : ab_SG} (h : sp_isName [(2, 1, 0)] σ (fun rv σ2 => G 4 [some (2, 1, 0), some (2, 57, 0), some (0, 0, x), none] (rv.toList ++ []) σ2)) : G 0 [some (2, 1, 0), some (2, 57, 0), some (0, 0, x), none] [] σ := fw_on hG [4, 12, 17, 47, 52] 200 h
theorem fs_seek57_4 {G : fw_K} {R : fw_KR} (hG : fw_cls st_seek57 R G) {a2 b0 : Int} {σ : ab_SG} (h : (fw_c b0 ≠ 0 → G 17 [some (2, 1, 0), some (2, 57, 0), some (0, 0, a2), some (0, 0, 0)] [] σ) ∧ (fw_c b0 = 0 → sp_refuse [(2, 1, 0), (0, 0, 1)] σ (fun rv σ2 => G 12 [some (2, 1, 0), some (2, 57, 0), some (0, 0, a2), none] (rv.toList ++ []) σ2))) : G 4 [some (2, 1, 0), some (2, 57, 0), some (0, 0, a2), none] [(0, 0, b0)] σ := fw_on hG [4, 12, 17, 47, 52] 200 h
theorem fs_seek57_17 {G : fw_K} {R : fw_KR} (hG : fw_cls st_seek57 R G) {a2 a3 : Int} {σ : ab_SG} (h : (fw_c a2 ≤ fw_c a3 → G 47 [some (2, 1, 0), some (2, 57, 0), some (0, 0, a2), some (0, 0, a3)] [] σ) ∧ (fw_c a3 < fw_c a2 → (fw_c ((9 : Nat) : Int) ≤ fw_c a3 → G 47 [some (2, 1, 0), some (2, 57, 0), some (0, 0, a2), some (0, 0, a3)] [] σ) ∧ (fw_c a3 < fw_c ((9 : Nat) : Int) → (0 ≤ fw_c a3 ∧ fw_c a3 < ((9 : Nat) : Int)) ∧ ((fw_d (σ 57 (fw_c a3).toNat) ≠ fw_d (σ 1 6) → G 17 [some (2, 1, 0), some (2, 57, 0), some (0, 0, a2), some (0, 0, a3 + 1)] [] σ) ∧ (fw_d (σ 57 (fw_c a3).toNat) = fw_d (σ 1 6) → R (some (0, 0, a3)) σ))))) : G 17 [some (2, 1, 0), some (2, 57, 0), some (0, 0, a2), some (0, 0, a3)] [] σ := fw_on hG [4, 12, 17, 47, 52] 200 h
theorem fs_seek57_12 {G : fw_K} {R : fw_KR} (hG : fw_cls st_seek57 R G) {a2 b0 : Int} {σ : ab_SG} (h : R (some (0, 0, (-1))) σ) : G 12 [some (2, 1, 0), some (2, 57, 0), some (0, 0, a2), none] [(0, 0, b0)] σ := fw_on hG [4, 12, 17, 47, 52] 200 h
theorem fs_seek57_47 {G : fw_K} {R : fw_KR} (hG : fw_cls st_seek57 R G) {a2 a3 : Int} {σ : ab_SG} (h : sp_refuse [(2, 1, 0), (0, 0, 3)] σ (fun rv σ2 => G 52 [some (2, 1, 0), some (2, 57, 0), some (0, 0, a2), some (0, 0, a3)] (rv.toList ++ []) σ2)) : G 47 [some (2, 1, 0), some (2, 57, 0), some (0, 0, a2), some (0, 0, a3)] [] σ := fw_on hG [4, 12, 17, 47, 52] 200 h
theorem fs_seek57_52 {G : fw_K} {R : fw_KR} (hG : fw_cls st_seek57 R G) {a2 a3 b0 : Int} {σ : ab_SG} (h : R (some (0, 0, (-1))) σ) : G 52 [some (2, 1, 0), some (2, 57, 0), some (0, 0, a2), some (0, 0, a3)] [(0, 0, b0)] σ := fw_on hG [4, 12, 17, 47, 52] 200 h
abbrev fk_putl58 : List fw_CR := []
abbrev st_putl58 : fw_K → fw_KR → fw_K := fw_st vwCl nn_sh nn_kd fw_kv fw_wc (nn_KI1.map (fun x => x.1)) (nn_KJ1.map (fun x => x.1)) (nn_PF1.map (fun x => x.1)) (nn_PS1.map (fun x => x.1)) fk_putl58 0 nn_dt26 4 4
theorem fs_putl58_0 {G : fw_K} {R : fw_KR} (hG : fw_cls st_putl58 R G) {x v : Int} {σ : ab_SG} (h : (fw_c x < 0 → R none σ) ∧ (0 ≤ fw_c x → (fw_c ((6 : Nat) : Int) ≤ fw_c x → R none σ) ∧ (fw_c x < fw_c ((6 : Nat) : Int) → (0 ≤ fw_c x ∧ fw_c x < ((6 : Nat) : Int)) ∧ True ∧ (R none (ab_ups σ 58 (fw_c x).toNat (fw_d v)))))) : G 0 [some (2, 58, 0), some (0, 0, x), some (1, 0, v), none] [] σ := fw_on hG [] 200 h
abbrev fk_isIn58 : List fw_CR := []
abbrev st_isIn58 : fw_K → fw_KR → fw_K := fw_st vwCl nn_sh nn_kd fw_kv fw_wc (nn_KI3.map (fun x => x.1)) (nn_KJ3.map (fun x => x.1)) (nn_PF3.map (fun x => x.1)) (nn_PS3.map (fun x => x.1)) fk_isIn58 0 nn_dt25 4 1
theorem fs_isIn58_0 {G : fw_K} {R : fw_KR} (hG : fw_cls st_isIn58 R G) {x : Int} {σ : ab_SG} (h : G 2 [some (2, 48, 0), some (2, 58, 0), some (0, 0, x), some (0, 0, 0)] [] σ) : G 0 [some (2, 48, 0), some (2, 58, 0), some (0, 0, x), none] [] σ := fw_on hG [2] 200 h
theorem fs_isIn58_2 {G : fw_K} {R : fw_KR} (hG : fw_cls st_isIn58 R G) {a2 a3 : Int} {σ : ab_SG} (h : (fw_c a2 ≤ fw_c a3 → (0 ≤ fw_c 0 ∧ fw_c 0 ≤ 1) ∧ R (some (0, 0, 0)) σ) ∧ (fw_c a3 < fw_c a2 → (fw_c ((6 : Nat) : Int) ≤ fw_c a3 → (0 ≤ fw_c 0 ∧ fw_c 0 ≤ 1) ∧ R (some (0, 0, 0)) σ) ∧ (fw_c a3 < fw_c ((6 : Nat) : Int) → (0 ≤ fw_c a3 ∧ fw_c a3 < ((6 : Nat) : Int)) ∧ ((fw_d (σ 58 (fw_c a3).toNat) ≠ fw_d (σ 1 6) → G 2 [some (2, 48, 0), some (2, 58, 0), some (0, 0, a2), some (0, 0, a3 + 1)] [] σ) ∧ (fw_d (σ 58 (fw_c a3).toNat) = fw_d (σ 1 6) → (0 ≤ fw_c 1 ∧ fw_c 1 ≤ 1) ∧ R (some (0, 0, 1)) σ))))) : G 2 [some (2, 48, 0), some (2, 58, 0), some (0, 0, a2), some (0, 0, a3)] [] σ := fw_on hG [2] 200 h
abbrev fk_seek58 : List fw_CR := [(87, 0, true, 8, 0, sp_isName), (91, 1, true, 8, 0, sp_refuse)]
abbrev st_seek58 : fw_K → fw_KR → fw_K := fw_st vwCl nn_sh nn_kd fw_kv fw_wc (nn_KI2.map (fun x => x.1)) (nn_KJ2.map (fun x => x.1)) (nn_PF2.map (fun x => x.1)) (nn_PS2.map (fun x => x.1)) fk_seek58 1 nn_dt33 4 0
theorem fs_seek58_0 {G : fw_K} {R : fw_KR} (hG : fw_cls st_seek58 R G) {x : Int} {σ : ab_SG} (h : sp_isName [(2, 1, 0)] σ (fun rv σ2 => G 4 [some (2, 1, 0), some (2, 58, 0), some (0, 0, x), none] (rv.toList ++ []) σ2)) : G 0 [some (2, 1, 0), some (2, 58, 0), some (0, 0, x), none] [] σ := fw_on hG [4, 12, 17, 47, 52] 200 h
theorem fs_seek58_4 {G : fw_K} {R : fw_KR} (hG : fw_cls st_seek58 R G) {a2 b0 : Int} {σ : ab_SG} (h : (fw_c b0 ≠ 0 → G 17 [some (2, 1, 0), some (2, 58, 0), some (0, 0, a2), some (0, 0, 0)] [] σ) ∧ (fw_c b0 = 0 → sp_refuse [(2, 1, 0), (0, 0, 1)] σ (fun rv σ2 => G 12 [some (2, 1, 0), some (2, 58, 0), some (0, 0, a2), none] (rv.toList ++ []) σ2))) : G 4 [some (2, 1, 0), some (2, 58, 0), some (0, 0, a2), none] [(0, 0, b0)] σ := fw_on hG [4, 12, 17, 47, 52] 200 h
theorem fs_seek58_17 {G : fw_K} {R : fw_KR} (hG : fw_cls st_seek58 R G) {a2 a3 : Int} {σ : ab_SG} (h : (fw_c a2 ≤ fw_c a3 → G 47 [some (2, 1, 0), some (2, 58, 0), some (0, 0, a2), some (0, 0, a3)] [] σ) ∧ (fw_c a3 < fw_c a2 → (fw_c ((6 : Nat) : Int) ≤ fw_c a3 → G 47 [some (2, 1, 0), some (2, 58, 0), some (0, 0, a2), some (0, 0, a3)] [] σ) ∧ (fw_c a3 < fw_c ((6 : Nat) : Int) → (0 ≤ fw_c a3 ∧ fw_c a3 < ((6 : Nat) : Int)) ∧ ((fw_d (σ 58 (fw_c a3).toNat) ≠ fw_d (σ 1 6) → G 17 [some (2, 1, 0), some (2, 58, 0), some (0, 0, a2), some (0, 0, a3 + 1)] [] σ) ∧ (fw_d (σ 58 (fw_c a3).toNat) = fw_d (σ 1 6) → R (some (0, 0, a3)) σ))))) : G 17 [some (2, 1, 0), some (2, 58, 0), some (0, 0, a2), some (0, 0, a3)] [] σ := fw_on hG [4, 12, 17, 47, 52] 200 h
theorem fs_seek58_12 {G : fw_K} {R : fw_KR} (hG : fw_cls st_seek58 R G) {a2 b0 : Int} {σ : ab_SG} (h : R (some (0, 0, (-1))) σ) : G 12 [some (2, 1, 0), some (2, 58, 0), some (0, 0, a2), none] [(0, 0, b0)] σ := fw_on hG [4, 12, 17, 47, 52] 200 h
theorem fs_seek58_47 {G : fw_K} {R : fw_KR} (hG : fw_cls st_seek58 R G) {a2 a3 : Int} {σ : ab_SG} (h : sp_refuse [(2, 1, 0), (0, 0, 3)] σ (fun rv σ2 => G 52 [some (2, 1, 0), some (2, 58, 0), some (0, 0, a2), some (0, 0, a3)] (rv.toList ++ []) σ2)) : G 47 [some (2, 1, 0), some (2, 58, 0), some (0, 0, a2), some (0, 0, a3)] [] σ := fw_on hG [4, 12, 17, 47, 52] 200 h
theorem fs_seek58_52 {G : fw_K} {R : fw_KR} (hG : fw_cls st_seek58 R G) {a2 a3 b0 : Int} {σ : ab_SG} (h : R (some (0, 0, (-1))) σ) : G 52 [some (2, 1, 0), some (2, 58, 0), some (0, 0, a2), some (0, 0, a3)] [(0, 0, b0)] σ := fw_on hG [4, 12, 17, 47, 52] 200 h
abbrev fk_putl59 : List fw_CR := []
abbrev st_putl59 : fw_K → fw_KR → fw_K := fw_st vwCl nn_sh nn_kd fw_kv fw_wc (nn_KI1.map (fun x => x.1)) (nn_KJ1.map (fun x => x.1)) (nn_PF1.map (fun x => x.1)) (nn_PS1.map (fun x => x.1)) fk_putl59 0 nn_dt26 4 4
theorem fs_putl59_0 {G : fw_K} {R : fw_KR} (hG : fw_cls st_putl59 R G) {x v : Int} {σ : ab_SG} (h : (fw_c x < 0 → R none σ) ∧ (0 ≤ fw_c x → (fw_c ((5 : Nat) : Int) ≤ fw_c x → R none σ) ∧ (fw_c x < fw_c ((5 : Nat) : Int) → (0 ≤ fw_c x ∧ fw_c x < ((5 : Nat) : Int)) ∧ True ∧ (R none (ab_ups σ 59 (fw_c x).toNat (fw_d v)))))) : G 0 [some (2, 59, 0), some (0, 0, x), some (1, 0, v), none] [] σ := fw_on hG [] 200 h
abbrev fk_isIn59 : List fw_CR := []
abbrev st_isIn59 : fw_K → fw_KR → fw_K := fw_st vwCl nn_sh nn_kd fw_kv fw_wc (nn_KI3.map (fun x => x.1)) (nn_KJ3.map (fun x => x.1)) (nn_PF3.map (fun x => x.1)) (nn_PS3.map (fun x => x.1)) fk_isIn59 0 nn_dt25 4 1
theorem fs_isIn59_0 {G : fw_K} {R : fw_KR} (hG : fw_cls st_isIn59 R G) {x : Int} {σ : ab_SG} (h : G 2 [some (2, 48, 0), some (2, 59, 0), some (0, 0, x), some (0, 0, 0)] [] σ) : G 0 [some (2, 48, 0), some (2, 59, 0), some (0, 0, x), none] [] σ := fw_on hG [2] 200 h
theorem fs_isIn59_2 {G : fw_K} {R : fw_KR} (hG : fw_cls st_isIn59 R G) {a2 a3 : Int} {σ : ab_SG} (h : (fw_c a2 ≤ fw_c a3 → (0 ≤ fw_c 0 ∧ fw_c 0 ≤ 1) ∧ R (some (0, 0, 0)) σ) ∧ (fw_c a3 < fw_c a2 → (fw_c ((5 : Nat) : Int) ≤ fw_c a3 → (0 ≤ fw_c 0 ∧ fw_c 0 ≤ 1) ∧ R (some (0, 0, 0)) σ) ∧ (fw_c a3 < fw_c ((5 : Nat) : Int) → (0 ≤ fw_c a3 ∧ fw_c a3 < ((5 : Nat) : Int)) ∧ ((fw_d (σ 59 (fw_c a3).toNat) ≠ fw_d (σ 1 6) → G 2 [some (2, 48, 0), some (2, 59, 0), some (0, 0, a2), some (0, 0, a3 + 1)] [] σ) ∧ (fw_d (σ 59 (fw_c a3).toNat) = fw_d (σ 1 6) → (0 ≤ fw_c 1 ∧ fw_c 1 ≤ 1) ∧ R (some (0, 0, 1)) σ))))) : G 2 [some (2, 48, 0), some (2, 59, 0), some (0, 0, a2), some (0, 0, a3)] [] σ := fw_on hG [2] 200 h
abbrev fk_seek59 : List fw_CR := [(87, 0, true, 8, 0, sp_isName), (91, 1, true, 8, 0, sp_refuse)]
abbrev st_seek59 : fw_K → fw_KR → fw_K := fw_st vwCl nn_sh nn_kd fw_kv fw_wc (nn_KI2.map (fun x => x.1)) (nn_KJ2.map (fun x => x.1)) (nn_PF2.map (fun x => x.1)) (nn_PS2.map (fun x => x.1)) fk_seek59 1 nn_dt33 4 0
theorem fs_seek59_0 {G : fw_K} {R : fw_KR} (hG : fw_cls st_seek59 R G) {x : Int} {σ : ab_SG} (h : sp_isName [(2, 1, 0)] σ (fun rv σ2 => G 4 [some (2, 1, 0), some (2, 59, 0), some (0, 0, x), none] (rv.toList ++ []) σ2)) : G 0 [some (2, 1, 0), some (2, 59, 0), some (0, 0, x), none] [] σ := fw_on hG [4, 12, 17, 47, 52] 200 h
theorem fs_seek59_4 {G : fw_K} {R : fw_KR} (hG : fw_cls st_seek59 R G) {a2 b0 : Int} {σ : ab_SG} (h : (fw_c b0 ≠ 0 → G 17 [some (2, 1, 0), some (2, 59, 0), some (0, 0, a2), some (0, 0, 0)] [] σ) ∧ (fw_c b0 = 0 → sp_refuse [(2, 1, 0), (0, 0, 1)] σ (fun rv σ2 => G 12 [some (2, 1, 0), some (2, 59, 0), some (0, 0, a2), none] (rv.toList ++ []) σ2))) : G 4 [some (2, 1, 0), some (2, 59, 0), some (0, 0, a2), none] [(0, 0, b0)] σ := fw_on hG [4, 12, 17, 47, 52] 200 h
theorem fs_seek59_17 {G : fw_K} {R : fw_KR} (hG : fw_cls st_seek59 R G) {a2 a3 : Int} {σ : ab_SG} (h : (fw_c a2 ≤ fw_c a3 → G 47 [some (2, 1, 0), some (2, 59, 0), some (0, 0, a2), some (0, 0, a3)] [] σ) ∧ (fw_c a3 < fw_c a2 → (fw_c ((5 : Nat) : Int) ≤ fw_c a3 → G 47 [some (2, 1, 0), some (2, 59, 0), some (0, 0, a2), some (0, 0, a3)] [] σ) ∧ (fw_c a3 < fw_c ((5 : Nat) : Int) → (0 ≤ fw_c a3 ∧ fw_c a3 < ((5 : Nat) : Int)) ∧ ((fw_d (σ 59 (fw_c a3).toNat) ≠ fw_d (σ 1 6) → G 17 [some (2, 1, 0), some (2, 59, 0), some (0, 0, a2), some (0, 0, a3 + 1)] [] σ) ∧ (fw_d (σ 59 (fw_c a3).toNat) = fw_d (σ 1 6) → R (some (0, 0, a3)) σ))))) : G 17 [some (2, 1, 0), some (2, 59, 0), some (0, 0, a2), some (0, 0, a3)] [] σ := fw_on hG [4, 12, 17, 47, 52] 200 h
theorem fs_seek59_12 {G : fw_K} {R : fw_KR} (hG : fw_cls st_seek59 R G) {a2 b0 : Int} {σ : ab_SG} (h : R (some (0, 0, (-1))) σ) : G 12 [some (2, 1, 0), some (2, 59, 0), some (0, 0, a2), none] [(0, 0, b0)] σ := fw_on hG [4, 12, 17, 47, 52] 200 h
theorem fs_seek59_47 {G : fw_K} {R : fw_KR} (hG : fw_cls st_seek59 R G) {a2 a3 : Int} {σ : ab_SG} (h : sp_refuse [(2, 1, 0), (0, 0, 3)] σ (fun rv σ2 => G 52 [some (2, 1, 0), some (2, 59, 0), some (0, 0, a2), some (0, 0, a3)] (rv.toList ++ []) σ2)) : G 47 [some (2, 1, 0), some (2, 59, 0), some (0, 0, a2), some (0, 0, a3)] [] σ := fw_on hG [4, 12, 17, 47, 52] 200 h
theorem fs_seek59_52 {G : fw_K} {R : fw_KR} (hG : fw_cls st_seek59 R G) {a2 a3 b0 : Int} {σ : ab_SG} (h : R (some (0, 0, (-1))) σ) : G 52 [some (2, 1, 0), some (2, 59, 0), some (0, 0, a2), some (0, 0, a3)] [(0, 0, b0)] σ := fw_on hG [4, 12, 17, 47, 52] 200 h
/-! rows read, written, filled, sought in: the proofs once for all rows, a row's own pieces are put in -/
theorem at_gen {k n : Nat} (hn : n ≤ 1000) {K : fw_KR} {σ : ab_SG} {x : Int} {P : Prop}
    (s0 : (fw_c x < 0 → K (some (0, 0, 0)) σ) ∧ (0 ≤ fw_c x → (fw_c ((n : Nat) : Int) ≤ fw_c x → K (some (0, 0, 0)) σ) ∧ (fw_c x < fw_c ((n : Nat) : Int) → (0 ≤ fw_c x ∧ fw_c x < ((n : Nat) : Int)) ∧ (K (some (0, 0, σ k (fw_c x).toNat)) σ))) → P)
    (h1 : 0 ≤ fw_c x ∧ fw_c x < (n : Int) → K (some (0, 0, σ k (fw_c x).toNat)) σ) (h2 : ¬ (0 ≤ fw_c x ∧ fw_c x < (n : Int)) → K (some (0, 0, 0)) σ) : P := by
  have en : fw_c ((n : Nat) : Int) = ((n : Nat) : Int) := fw_c_id (by omega) (by omega)
  rw [en] at s0
  exact s0 ⟨fun q => h2 (by omega), fun q => ⟨fun q2 => h2 (by omega), fun q2 => ⟨⟨q, q2⟩, h1 ⟨q, q2⟩⟩⟩⟩
theorem put_gen {k n : Nat} (hn : n ≤ 1000) {K : fw_KR} {σ : ab_SG} {x c : Int} {P : Prop}
    (s0 : (fw_c x < 0 → K none σ) ∧ (0 ≤ fw_c x → (fw_c ((n : Nat) : Int) ≤ fw_c x → K none σ) ∧ (fw_c x < fw_c ((n : Nat) : Int) → (0 ≤ fw_c x ∧ fw_c x < ((n : Nat) : Int)) ∧ True ∧ (K none (ab_ups σ k (fw_c x).toNat c)))) → P)
    (h1 : 0 ≤ fw_c x ∧ fw_c x < (n : Int) → K none (ab_ups σ k (fw_c x).toNat c)) (h2 : ¬ (0 ≤ fw_c x ∧ fw_c x < (n : Int)) → K none σ) : P := by
  have en : fw_c ((n : Nat) : Int) = ((n : Nat) : Int) := fw_c_id (by omega) (by omega)
  rw [en] at s0
  exact s0 ⟨fun q => h2 (by omega), fun q => ⟨fun q2 => h2 (by omega), fun q2 => ⟨⟨q, q2⟩, trivial, h1 ⟨q, q2⟩⟩⟩⟩
theorem fill_gen {k n : Nat} (hn : n ≤ 1000) {K : fw_KR} {σ : ab_SG} {v : Int} {G2 : Int → ab_SG → Prop}
    (s2 : ∀ (a2 : Int) (σ1 : ab_SG), (fw_c ((n : Nat) : Int) ≤ fw_c a2 → K none σ1) ∧ (fw_c a2 < fw_c ((n : Nat) : Int) → (0 ≤ fw_c a2 ∧ fw_c a2 < ((n : Nat) : Int)) ∧ True ∧ (G2 (a2 + 1) (ab_ups σ1 k (fw_c a2).toNat (fw_c v)))) → G2 a2 σ1)
    (h : ∀ σ' : ab_SG, (∀ a b : Nat, ¬ (a = k ∧ b < n) → σ' a b = σ a b) → (∀ b : Nat, b < n → σ' k b = fw_c v) → K none σ') : G2 0 σ := by
  have en : fw_c ((n : Nat) : Int) = ((n : Nat) : Int) := fw_c_id (by omega) (by omega)
  have key : ∀ (f i : Nat) (σ1 : ab_SG), i + f = n → (∀ a b : Nat, ¬ (a = k ∧ b < i) → σ1 a b = σ a b) → (∀ b : Nat, b < i → σ1 k b = fw_c v) → G2 (i : Int) σ1 := by
    intro f
    induction f with
    | zero =>
      intro i σ1 hi q1 q2
      have e : i = n := by omega
      subst e
      refine s2 _ _ ?_
      exact ⟨fun _ => h σ1 q1 q2, fun q => absurd q (Int.lt_irrefl _)⟩
    | succ f ih =>
      intro i σ1 hi q1 q2
      have ei : fw_c (i : Int) = i := fw_c_id (by omega) (by omega)
      refine s2 _ _ ?_
      rw [en, ei, Int.toNat_natCast]
      refine ⟨fun q => absurd q (by omega), fun q => ⟨⟨Int.natCast_nonneg i, q⟩, trivial, ?_⟩⟩
      refine ih (i + 1) _ (by omega) (fun a b hab => ?_) (fun b hb => ?_)
      · rw [ab_ups_ne (fun z => hab ⟨z.1, by omega⟩)]
        exact q1 a b (fun z => hab ⟨z.1, by omega⟩)
      · by_cases e : b = i
        · rw [e, ab_ups_eq]
        · rw [ab_ups_ne (fun z => e z.2)]
          exact q2 b (by omega)
  exact key n 0 σ (by omega) (fun _ _ _ => rfl) (fun b hb => absurd hb (Nat.not_lt_zero b))
theorem isIn_gen {k n : Nat} (hn : n ≤ 1000) {K : fw_KR} {σ : ab_SG} {x : Int} {G2 : Int → Prop}
    (s2 : ∀ a3 : Int, (fw_c x ≤ fw_c a3 → (0 ≤ fw_c 0 ∧ fw_c 0 ≤ 1) ∧ K (some (0, 0, 0)) σ) ∧ (fw_c a3 < fw_c x → (fw_c ((n : Nat) : Int) ≤ fw_c a3 → (0 ≤ fw_c 0 ∧ fw_c 0 ≤ 1) ∧ K (some (0, 0, 0)) σ) ∧ (fw_c a3 < fw_c ((n : Nat) : Int) → (0 ≤ fw_c a3 ∧ fw_c a3 < ((n : Nat) : Int)) ∧ ((fw_d (σ k (fw_c a3).toNat) ≠ fw_d (σ 1 6) → G2 (a3 + 1)) ∧ (fw_d (σ k (fw_c a3).toNat) = fw_d (σ 1 6) → (0 ≤ fw_c 1 ∧ fw_c 1 ≤ 1) ∧ K (some (0, 0, 1)) σ)))) → G2 a3)
    (hx : 0 ≤ x ∧ x ≤ (n : Int)) (hd : ∀ j : Nat, (j : Int) < x → fw_d (σ k j) = σ k j) (hw : fw_d (σ 1 6) = σ 1 6) (h : K (some (0, 0, fw_bo (0 ≤ rw_fd (σ k) (σ 1 6) x.toNat 0))) σ) : G2 0 := by
  have en : fw_c ((n : Nat) : Int) = ((n : Nat) : Int) := fw_c_id (by omega) (by omega)
  have ex : fw_c x = x := fw_c_id (by omega) (by omega)
  have key : ∀ (f i : Nat), i + f = x.toNat → K (some (0, 0, fw_bo (0 ≤ rw_fd (σ k) (σ 1 6) f i))) σ → G2 (i : Int) := by
    intro f
    induction f with
    | zero =>
      intro i hi q
      have ei : fw_c (i : Int) = i := fw_c_id (by omega) (by omega)
      refine s2 _ ?_
      rw [en, ei, ex]
      rw [fw_bo_f (by show ¬ (0 : Int) ≤ -1; decide)] at q
      exact ⟨fun _ => ⟨fw_01, q⟩, fun z => absurd z (by omega)⟩
    | succ f ih =>
      intro i hi q
      have ei : fw_c (i : Int) = i := fw_c_id (by omega) (by omega)
      refine s2 _ ?_
      rw [en, ei, ex, Int.toNat_natCast, hw, hd i (by omega)]
      refine ⟨fun z => absurd z (by omega), fun _ => ⟨fun z => absurd z (by omega), fun z => ⟨⟨Int.natCast_nonneg i, z⟩, fun z2 => ?_, fun z2 => ⟨fw_11, ?_⟩⟩⟩⟩
      · refine ih (i + 1) (by omega) ?_
        replace q : K (some (0, 0, fw_bo (0 ≤ (if σ k i = σ 1 6 then (i : Int) else rw_fd (σ k) (σ 1 6) f (i + 1))))) σ := q
        rw [if_neg z2] at q
        exact q
      · replace q : K (some (0, 0, fw_bo (0 ≤ (if σ k i = σ 1 6 then (i : Int) else rw_fd (σ k) (σ 1 6) f (i + 1))))) σ := q
        rw [if_pos z2, fw_bo_t (Int.natCast_nonneg i)] at q
        exact q
  exact key x.toNat 0 (by omega) h
theorem seek_gen {k n : Nat} (hn : n ≤ 1000) {K : fw_KR} {σ : ab_SG} {x : Int} {G2 G4 : Int → Prop}
    (s2 : ∀ a3 : Int, (fw_c x ≤ fw_c a3 → G4 a3) ∧ (fw_c a3 < fw_c x → (fw_c ((n : Nat) : Int) ≤ fw_c a3 → G4 a3) ∧ (fw_c a3 < fw_c ((n : Nat) : Int) → (0 ≤ fw_c a3 ∧ fw_c a3 < ((n : Nat) : Int)) ∧ ((fw_d (σ k (fw_c a3).toNat) ≠ fw_d (σ 1 6) → G2 (a3 + 1)) ∧ (fw_d (σ k (fw_c a3).toNat) = fw_d (σ 1 6) → K (some (0, 0, a3)) σ)))) → G2 a3)
    (hx : 0 ≤ x ∧ x ≤ (n : Int)) (hd : ∀ j : Nat, (j : Int) < x → fw_d (σ k j) = σ k j) (hw : fw_d (σ 1 6) = σ 1 6)
    (h2 : rw_fd (σ k) (σ 1 6) x.toNat 0 < 0 → ∀ i : Int, G4 i) (h3 : 0 ≤ rw_fd (σ k) (σ 1 6) x.toNat 0 → K (some (0, 0, rw_fd (σ k) (σ 1 6) x.toNat 0)) σ) : G2 0 := by
  have en : fw_c ((n : Nat) : Int) = ((n : Nat) : Int) := fw_c_id (by omega) (by omega)
  have ex : fw_c x = x := fw_c_id (by omega) (by omega)
  have key : ∀ (f i : Nat), i + f = x.toNat → rw_fd (σ k) (σ 1 6) x.toNat 0 = rw_fd (σ k) (σ 1 6) f i → G2 (i : Int) := by
    intro f
    induction f with
    | zero =>
      intro i hi q
      have ei : fw_c (i : Int) = i := fw_c_id (by omega) (by omega)
      refine s2 _ ?_
      rw [en, ei, ex]
      exact ⟨fun _ => h2 (by rw [q]; show (-1 : Int) < 0; decide) _, fun z => absurd z (by omega)⟩
    | succ f ih =>
      intro i hi q
      have ei : fw_c (i : Int) = i := fw_c_id (by omega) (by omega)
      replace q : rw_fd (σ k) (σ 1 6) x.toNat 0 = (if σ k i = σ 1 6 then (i : Int) else rw_fd (σ k) (σ 1 6) f (i + 1)) := q
      refine s2 _ ?_
      rw [en, ei, ex, Int.toNat_natCast, hw, hd i (by omega)]
      refine ⟨fun z => absurd z (by omega), fun _ => ⟨fun z => absurd z (by omega), fun z => ⟨⟨Int.natCast_nonneg i, z⟩, fun z2 => ?_, fun z2 => ?_⟩⟩⟩
      · rw [if_neg z2] at q
        exact ih (i + 1) (by omega) q
      · rw [if_pos z2] at q
        have h3 := h3 (by rw [q]; exact Int.natCast_nonneg i)
        rw [q] at h3
        exact h3
  exact key x.toNat 0 (by omega) rfl
section
variable {l : Launch} {cy : Nat → ClassId} {ad wr cr : Nat → Nat} {D : va_G}
theorem fm_at50 (hinj : nn_inj ad) : fw_H l cy ad wr cr D 29 0 (at_k 50 81) := fw_mk hinj (⟨"NameNotes", "at", "([II)I"⟩, prog_1_method_84_code, 2, (Option.some Jvm.ClassFile.FieldType.int), 2, false, 0) rfl rfl nn_KI1_ok nn_KJ1_ok nn_PF1_ok nn_PS1_ok (by decide +kernel) rfl rfl (fun _ h => absurd h List.not_mem_nil) (fun as σ K h => by
  obtain ⟨x, rfl, h1, h2⟩ := h
  exact ⟨rfl, fun G hG => at_gen (k := 50) (n := 81) (K := K) (σ := σ) (x := x) (by decide) (fs_at50_0 hG) h1 h2⟩)
theorem fm_put50 (hinj : nn_inj ad) : fw_H l cy ad wr cr D 27 0 (put_k 50 81) := fw_mk hinj (⟨"NameNotes", "put", "([III)V"⟩, prog_1_method_86_code, 3, (Option.none : Option Jvm.ClassFile.FieldType), 3, false, 4) rfl rfl nn_KI1_ok nn_KJ1_ok nn_PF1_ok nn_PS1_ok (by decide +kernel) rfl rfl (fun _ h => absurd h List.not_mem_nil) (fun as σ K h => by
  obtain ⟨x, v, rfl, h1, h2⟩ := h
  exact ⟨rfl, fun G hG => put_gen (k := 50) (n := 81) (K := K) (σ := σ) (x := x) (c := fw_c v) (by decide) (fs_put50_0 hG) h1 h2⟩)
theorem fm_fill50 (hinj : nn_inj ad) : fw_H l cy ad wr cr D 7 0 (fill_k 50 81) := fw_mk hinj (⟨"NameNotes", "fillRow", "([II)V"⟩, prog_1_method_90_code, 3, (Option.none : Option Jvm.ClassFile.FieldType), 2, false, 4) rfl rfl nn_KI1_ok nn_KJ1_ok nn_PF1_ok nn_PS1_ok (by decide +kernel) rfl rfl (fun _ h => absurd h List.not_mem_nil) (fun as σ K h => by
  obtain ⟨v, rfl, h⟩ := h
  exact ⟨rfl, fun G hG => fs_fill50_0 hG (fill_gen (k := 50) (n := 81) (K := K) (σ := σ) (v := v) (G2 := fun i σ1 => G 2 [some (2, 50, 0), some (0, 0, v), some (0, 0, i)] [] σ1) (by decide) (fun a2 σ1 q => fs_fill50_2 hG q) h)⟩)
theorem fm_at51 (hinj : nn_inj ad) : fw_H l cy ad wr cr D 29 0 (at_k 51 81) := fw_mk hinj (⟨"NameNotes", "at", "([II)I"⟩, prog_1_method_84_code, 2, (Option.some Jvm.ClassFile.FieldType.int), 2, false, 0) rfl rfl nn_KI1_ok nn_KJ1_ok nn_PF1_ok nn_PS1_ok (by decide +kernel) rfl rfl (fun _ h => absurd h List.not_mem_nil) (fun as σ K h => by
  obtain ⟨x, rfl, h1, h2⟩ := h
  exact ⟨rfl, fun G hG => at_gen (k := 51) (n := 81) (K := K) (σ := σ) (x := x) (by decide) (fs_at51_0 hG) h1 h2⟩)
theorem fm_put51 (hinj : nn_inj ad) : fw_H l cy ad wr cr D 27 0 (put_k 51 81) := fw_mk hinj (⟨"NameNotes", "put", "([III)V"⟩, prog_1_method_86_code, 3, (Option.none : Option Jvm.ClassFile.FieldType), 3, false, 4) rfl rfl nn_KI1_ok nn_KJ1_ok nn_PF1_ok nn_PS1_ok (by decide +kernel) rfl rfl (fun _ h => absurd h List.not_mem_nil) (fun as σ K h => by
  obtain ⟨x, v, rfl, h1, h2⟩ := h
  exact ⟨rfl, fun G hG => put_gen (k := 51) (n := 81) (K := K) (σ := σ) (x := x) (c := fw_c v) (by decide) (fs_put51_0 hG) h1 h2⟩)
theorem fm_fill51 (hinj : nn_inj ad) : fw_H l cy ad wr cr D 7 0 (fill_k 51 81) := fw_mk hinj (⟨"NameNotes", "fillRow", "([II)V"⟩, prog_1_method_90_code, 3, (Option.none : Option Jvm.ClassFile.FieldType), 2, false, 4) rfl rfl nn_KI1_ok nn_KJ1_ok nn_PF1_ok nn_PS1_ok (by decide +kernel) rfl rfl (fun _ h => absurd h List.not_mem_nil) (fun as σ K h => by
  obtain ⟨v, rfl, h⟩ := h
  exact ⟨rfl, fun G hG => fs_fill51_0 hG (fill_gen (k := 51) (n := 81) (K := K) (σ := σ) (v := v) (G2 := fun i σ1 => G 2 [some (2, 51, 0), some (0, 0, v), some (0, 0, i)] [] σ1) (by decide) (fun a2 σ1 q => fs_fill51_2 hG q) h)⟩)
theorem fm_at52 (hinj : nn_inj ad) : fw_H l cy ad wr cr D 29 0 (at_k 52 9) := fw_mk hinj (⟨"NameNotes", "at", "([II)I"⟩, prog_1_method_84_code, 2, (Option.some Jvm.ClassFile.FieldType.int), 2, false, 0) rfl rfl nn_KI1_ok nn_KJ1_ok nn_PF1_ok nn_PS1_ok (by decide +kernel) rfl rfl (fun _ h => absurd h List.not_mem_nil) (fun as σ K h => by
  obtain ⟨x, rfl, h1, h2⟩ := h
  exact ⟨rfl, fun G hG => at_gen (k := 52) (n := 9) (K := K) (σ := σ) (x := x) (by decide) (fs_at52_0 hG) h1 h2⟩)
theorem fm_put52 (hinj : nn_inj ad) : fw_H l cy ad wr cr D 27 0 (put_k 52 9) := fw_mk hinj (⟨"NameNotes", "put", "([III)V"⟩, prog_1_method_86_code, 3, (Option.none : Option Jvm.ClassFile.FieldType), 3, false, 4) rfl rfl nn_KI1_ok nn_KJ1_ok nn_PF1_ok nn_PS1_ok (by decide +kernel) rfl rfl (fun _ h => absurd h List.not_mem_nil) (fun as σ K h => by
  obtain ⟨x, v, rfl, h1, h2⟩ := h
  exact ⟨rfl, fun G hG => put_gen (k := 52) (n := 9) (K := K) (σ := σ) (x := x) (c := fw_c v) (by decide) (fs_put52_0 hG) h1 h2⟩)
theorem fm_fill52 (hinj : nn_inj ad) : fw_H l cy ad wr cr D 7 0 (fill_k 52 9) := fw_mk hinj (⟨"NameNotes", "fillRow", "([II)V"⟩, prog_1_method_90_code, 3, (Option.none : Option Jvm.ClassFile.FieldType), 2, false, 4) rfl rfl nn_KI1_ok nn_KJ1_ok nn_PF1_ok nn_PS1_ok (by decide +kernel) rfl rfl (fun _ h => absurd h List.not_mem_nil) (fun as σ K h => by
  obtain ⟨v, rfl, h⟩ := h
  exact ⟨rfl, fun G hG => fs_fill52_0 hG (fill_gen (k := 52) (n := 9) (K := K) (σ := σ) (v := v) (G2 := fun i σ1 => G 2 [some (2, 52, 0), some (0, 0, v), some (0, 0, i)] [] σ1) (by decide) (fun a2 σ1 q => fs_fill52_2 hG q) h)⟩)
theorem fm_at54 (hinj : nn_inj ad) : fw_H l cy ad wr cr D 29 0 (at_k 54 6) := fw_mk hinj (⟨"NameNotes", "at", "([II)I"⟩, prog_1_method_84_code, 2, (Option.some Jvm.ClassFile.FieldType.int), 2, false, 0) rfl rfl nn_KI1_ok nn_KJ1_ok nn_PF1_ok nn_PS1_ok (by decide +kernel) rfl rfl (fun _ h => absurd h List.not_mem_nil) (fun as σ K h => by
  obtain ⟨x, rfl, h1, h2⟩ := h
  exact ⟨rfl, fun G hG => at_gen (k := 54) (n := 6) (K := K) (σ := σ) (x := x) (by decide) (fs_at54_0 hG) h1 h2⟩)
theorem fm_put54 (hinj : nn_inj ad) : fw_H l cy ad wr cr D 27 0 (put_k 54 6) := fw_mk hinj (⟨"NameNotes", "put", "([III)V"⟩, prog_1_method_86_code, 3, (Option.none : Option Jvm.ClassFile.FieldType), 3, false, 4) rfl rfl nn_KI1_ok nn_KJ1_ok nn_PF1_ok nn_PS1_ok (by decide +kernel) rfl rfl (fun _ h => absurd h List.not_mem_nil) (fun as σ K h => by
  obtain ⟨x, v, rfl, h1, h2⟩ := h
  exact ⟨rfl, fun G hG => put_gen (k := 54) (n := 6) (K := K) (σ := σ) (x := x) (c := fw_c v) (by decide) (fs_put54_0 hG) h1 h2⟩)
theorem fm_fill54 (hinj : nn_inj ad) : fw_H l cy ad wr cr D 7 0 (fill_k 54 6) := fw_mk hinj (⟨"NameNotes", "fillRow", "([II)V"⟩, prog_1_method_90_code, 3, (Option.none : Option Jvm.ClassFile.FieldType), 2, false, 4) rfl rfl nn_KI1_ok nn_KJ1_ok nn_PF1_ok nn_PS1_ok (by decide +kernel) rfl rfl (fun _ h => absurd h List.not_mem_nil) (fun as σ K h => by
  obtain ⟨v, rfl, h⟩ := h
  exact ⟨rfl, fun G hG => fs_fill54_0 hG (fill_gen (k := 54) (n := 6) (K := K) (σ := σ) (v := v) (G2 := fun i σ1 => G 2 [some (2, 54, 0), some (0, 0, v), some (0, 0, i)] [] σ1) (by decide) (fun a2 σ1 q => fs_fill54_2 hG q) h)⟩)
theorem fm_at55 (hinj : nn_inj ad) : fw_H l cy ad wr cr D 29 0 (at_k 55 45) := fw_mk hinj (⟨"NameNotes", "at", "([II)I"⟩, prog_1_method_84_code, 2, (Option.some Jvm.ClassFile.FieldType.int), 2, false, 0) rfl rfl nn_KI1_ok nn_KJ1_ok nn_PF1_ok nn_PS1_ok (by decide +kernel) rfl rfl (fun _ h => absurd h List.not_mem_nil) (fun as σ K h => by
  obtain ⟨x, rfl, h1, h2⟩ := h
  exact ⟨rfl, fun G hG => at_gen (k := 55) (n := 45) (K := K) (σ := σ) (x := x) (by decide) (fs_at55_0 hG) h1 h2⟩)
theorem fm_put55 (hinj : nn_inj ad) : fw_H l cy ad wr cr D 27 0 (put_k 55 45) := fw_mk hinj (⟨"NameNotes", "put", "([III)V"⟩, prog_1_method_86_code, 3, (Option.none : Option Jvm.ClassFile.FieldType), 3, false, 4) rfl rfl nn_KI1_ok nn_KJ1_ok nn_PF1_ok nn_PS1_ok (by decide +kernel) rfl rfl (fun _ h => absurd h List.not_mem_nil) (fun as σ K h => by
  obtain ⟨x, v, rfl, h1, h2⟩ := h
  exact ⟨rfl, fun G hG => put_gen (k := 55) (n := 45) (K := K) (σ := σ) (x := x) (c := fw_c v) (by decide) (fs_put55_0 hG) h1 h2⟩)
theorem fm_fill55 (hinj : nn_inj ad) : fw_H l cy ad wr cr D 7 0 (fill_k 55 45) := fw_mk hinj (⟨"NameNotes", "fillRow", "([II)V"⟩, prog_1_method_90_code, 3, (Option.none : Option Jvm.ClassFile.FieldType), 2, false, 4) rfl rfl nn_KI1_ok nn_KJ1_ok nn_PF1_ok nn_PS1_ok (by decide +kernel) rfl rfl (fun _ h => absurd h List.not_mem_nil) (fun as σ K h => by
  obtain ⟨v, rfl, h⟩ := h
  exact ⟨rfl, fun G hG => fs_fill55_0 hG (fill_gen (k := 55) (n := 45) (K := K) (σ := σ) (v := v) (G2 := fun i σ1 => G 2 [some (2, 55, 0), some (0, 0, v), some (0, 0, i)] [] σ1) (by decide) (fun a2 σ1 q => fs_fill55_2 hG q) h)⟩)
theorem fm_at56 (hinj : nn_inj ad) : fw_H l cy ad wr cr D 29 0 (at_k 56 5) := fw_mk hinj (⟨"NameNotes", "at", "([II)I"⟩, prog_1_method_84_code, 2, (Option.some Jvm.ClassFile.FieldType.int), 2, false, 0) rfl rfl nn_KI1_ok nn_KJ1_ok nn_PF1_ok nn_PS1_ok (by decide +kernel) rfl rfl (fun _ h => absurd h List.not_mem_nil) (fun as σ K h => by
  obtain ⟨x, rfl, h1, h2⟩ := h
  exact ⟨rfl, fun G hG => at_gen (k := 56) (n := 5) (K := K) (σ := σ) (x := x) (by decide) (fs_at56_0 hG) h1 h2⟩)
theorem fm_put56 (hinj : nn_inj ad) : fw_H l cy ad wr cr D 27 0 (put_k 56 5) := fw_mk hinj (⟨"NameNotes", "put", "([III)V"⟩, prog_1_method_86_code, 3, (Option.none : Option Jvm.ClassFile.FieldType), 3, false, 4) rfl rfl nn_KI1_ok nn_KJ1_ok nn_PF1_ok nn_PS1_ok (by decide +kernel) rfl rfl (fun _ h => absurd h List.not_mem_nil) (fun as σ K h => by
  obtain ⟨x, v, rfl, h1, h2⟩ := h
  exact ⟨rfl, fun G hG => put_gen (k := 56) (n := 5) (K := K) (σ := σ) (x := x) (c := fw_c v) (by decide) (fs_put56_0 hG) h1 h2⟩)
theorem fm_fill56 (hinj : nn_inj ad) : fw_H l cy ad wr cr D 7 0 (fill_k 56 5) := fw_mk hinj (⟨"NameNotes", "fillRow", "([II)V"⟩, prog_1_method_90_code, 3, (Option.none : Option Jvm.ClassFile.FieldType), 2, false, 4) rfl rfl nn_KI1_ok nn_KJ1_ok nn_PF1_ok nn_PS1_ok (by decide +kernel) rfl rfl (fun _ h => absurd h List.not_mem_nil) (fun as σ K h => by
  obtain ⟨v, rfl, h⟩ := h
  exact ⟨rfl, fun G hG => fs_fill56_0 hG (fill_gen (k := 56) (n := 5) (K := K) (σ := σ) (v := v) (G2 := fun i σ1 => G 2 [some (2, 56, 0), some (0, 0, v), some (0, 0, i)] [] σ1) (by decide) (fun a2 σ1 q => fs_fill56_2 hG q) h)⟩)
theorem fm_at64 (hinj : nn_inj ad) : fw_H l cy ad wr cr D 29 0 (at_k 64 5) := fw_mk hinj (⟨"NameNotes", "at", "([II)I"⟩, prog_1_method_84_code, 2, (Option.some Jvm.ClassFile.FieldType.int), 2, false, 0) rfl rfl nn_KI1_ok nn_KJ1_ok nn_PF1_ok nn_PS1_ok (by decide +kernel) rfl rfl (fun _ h => absurd h List.not_mem_nil) (fun as σ K h => by
  obtain ⟨x, rfl, h1, h2⟩ := h
  exact ⟨rfl, fun G hG => at_gen (k := 64) (n := 5) (K := K) (σ := σ) (x := x) (by decide) (fs_at64_0 hG) h1 h2⟩)
theorem fm_put64 (hinj : nn_inj ad) : fw_H l cy ad wr cr D 27 0 (put_k 64 5) := fw_mk hinj (⟨"NameNotes", "put", "([III)V"⟩, prog_1_method_86_code, 3, (Option.none : Option Jvm.ClassFile.FieldType), 3, false, 4) rfl rfl nn_KI1_ok nn_KJ1_ok nn_PF1_ok nn_PS1_ok (by decide +kernel) rfl rfl (fun _ h => absurd h List.not_mem_nil) (fun as σ K h => by
  obtain ⟨x, v, rfl, h1, h2⟩ := h
  exact ⟨rfl, fun G hG => put_gen (k := 64) (n := 5) (K := K) (σ := σ) (x := x) (c := fw_c v) (by decide) (fs_put64_0 hG) h1 h2⟩)
theorem fm_fill64 (hinj : nn_inj ad) : fw_H l cy ad wr cr D 7 0 (fill_k 64 5) := fw_mk hinj (⟨"NameNotes", "fillRow", "([II)V"⟩, prog_1_method_90_code, 3, (Option.none : Option Jvm.ClassFile.FieldType), 2, false, 4) rfl rfl nn_KI1_ok nn_KJ1_ok nn_PF1_ok nn_PS1_ok (by decide +kernel) rfl rfl (fun _ h => absurd h List.not_mem_nil) (fun as σ K h => by
  obtain ⟨v, rfl, h⟩ := h
  exact ⟨rfl, fun G hG => fs_fill64_0 hG (fill_gen (k := 64) (n := 5) (K := K) (σ := σ) (v := v) (G2 := fun i σ1 => G 2 [some (2, 64, 0), some (0, 0, v), some (0, 0, i)] [] σ1) (by decide) (fun a2 σ1 q => fs_fill64_2 hG q) h)⟩)
theorem fm_at53 (hinj : nn_inj ad) : fw_H l cy ad wr cr D 29 0 (at_k 53 324) := fw_mk hinj (⟨"NameNotes", "at", "([II)I"⟩, prog_1_method_84_code, 2, (Option.some Jvm.ClassFile.FieldType.int), 2, false, 0) rfl rfl nn_KI1_ok nn_KJ1_ok nn_PF1_ok nn_PS1_ok (by decide +kernel) rfl rfl (fun _ h => absurd h List.not_mem_nil) (fun as σ K h => by
  obtain ⟨x, rfl, h1, h2⟩ := h
  exact ⟨rfl, fun G hG => at_gen (k := 53) (n := 324) (K := K) (σ := σ) (x := x) (by decide) (fs_at53_0 hG) h1 h2⟩)
theorem fm_put53 (hinj : nn_inj ad) : fw_H l cy ad wr cr D 27 0 (put_k 53 324) := fw_mk hinj (⟨"NameNotes", "put", "([III)V"⟩, prog_1_method_86_code, 3, (Option.none : Option Jvm.ClassFile.FieldType), 3, false, 4) rfl rfl nn_KI1_ok nn_KJ1_ok nn_PF1_ok nn_PS1_ok (by decide +kernel) rfl rfl (fun _ h => absurd h List.not_mem_nil) (fun as σ K h => by
  obtain ⟨x, v, rfl, h1, h2⟩ := h
  exact ⟨rfl, fun G hG => put_gen (k := 53) (n := 324) (K := K) (σ := σ) (x := x) (c := fw_c v) (by decide) (fs_put53_0 hG) h1 h2⟩)
theorem fm_fill53 (hinj : nn_inj ad) : fw_H l cy ad wr cr D 7 0 (fill_k 53 324) := fw_mk hinj (⟨"NameNotes", "fillRow", "([II)V"⟩, prog_1_method_90_code, 3, (Option.none : Option Jvm.ClassFile.FieldType), 2, false, 4) rfl rfl nn_KI1_ok nn_KJ1_ok nn_PF1_ok nn_PS1_ok (by decide +kernel) rfl rfl (fun _ h => absurd h List.not_mem_nil) (fun as σ K h => by
  obtain ⟨v, rfl, h⟩ := h
  exact ⟨rfl, fun G hG => fs_fill53_0 hG (fill_gen (k := 53) (n := 324) (K := K) (σ := σ) (v := v) (G2 := fun i σ1 => G 2 [some (2, 53, 0), some (0, 0, v), some (0, 0, i)] [] σ1) (by decide) (fun a2 σ1 q => fs_fill53_2 hG q) h)⟩)
theorem fm_putl57 (hinj : nn_inj ad) : fw_H l cy ad wr cr D 26 0 (putl_k 57 9) := fw_mk hinj (⟨"NameNotes", "put", "([JIJ)V"⟩, prog_1_method_87_code, 4, (Option.none : Option Jvm.ClassFile.FieldType), 3, false, 4) rfl rfl nn_KI1_ok nn_KJ1_ok nn_PF1_ok nn_PS1_ok (by decide +kernel) rfl rfl (fun _ h => absurd h List.not_mem_nil) (fun as σ K h => by
  obtain ⟨x, v, rfl, h1, h2⟩ := h
  exact ⟨rfl, fun G hG => put_gen (k := 57) (n := 9) (K := K) (σ := σ) (x := x) (c := fw_d v) (by decide) (fs_putl57_0 hG) h1 h2⟩)
theorem fm_isIn57 (hinj : nn_inj ad) : fw_H l cy ad wr cr D 25 0 (isIn_k 57 9) := fw_mk hinj (⟨"NameNotes$StudioReader", "isIn", "([JI)Z"⟩, prog_9_method_13_code, 4, (Option.some Jvm.ClassFile.FieldType.boolean), 2, true, 1) rfl rfl nn_KI3_ok nn_KJ3_ok nn_PF3_ok nn_PS3_ok (by decide +kernel) rfl rfl (fun _ h => absurd h List.not_mem_nil) (fun as σ K h => by
  obtain ⟨x, rfl, hx, hd, hw, h⟩ := h
  exact ⟨rfl, fun G hG => fs_isIn57_0 hG (isIn_gen (k := 57) (n := 9) (K := K) (σ := σ) (x := x) (G2 := fun i => G 2 [some (2, 48, 0), some (2, 57, 0), some (0, 0, x), some (0, 0, i)] [] σ) (by decide) (fun a3 q => fs_isIn57_2 hG q) hx hd hw h)⟩)
theorem fm_seek57 (hinj : nn_inj ad) : fw_H l cy ad wr cr D 33 1 (seek_k 57 9) := fw_mk hinj (⟨"NameNotes$Tape", "seek", "([JI)I"⟩, prog_10_method_11_code, 4, (Option.some Jvm.ClassFile.FieldType.int), 2, true, 0) rfl rfl nn_KI2_ok nn_KJ2_ok nn_PF2_ok nn_PS2_ok (by decide +kernel) rfl rfl (List.forall_mem_cons.mpr ⟨fw_row nn_PM2_ok (x := 87) (k := 0) (mn := 24) (np := 0) (ob := true) (ci := 8) (⟨"NameNotes$Tape", "isName", "()Z"⟩, prog_10_method_9_code, 1, (Option.some Jvm.ClassFile.FieldType.boolean), 0, true, 1) rfl (by decide +kernel) rfl rfl (by decide) (fun _ => ⟨_, _, rfl⟩) (fm_isName hinj), (List.forall_mem_cons.mpr ⟨fw_row nn_PM2_ok (x := 91) (k := 0) (mn := 22) (np := 1) (ob := true) (ci := 8) (⟨"NameNotes$Tape", "refuse", "(I)Z"⟩, prog_10_method_14_code, 2, (Option.some Jvm.ClassFile.FieldType.boolean), 1, true, 1) rfl (by decide +kernel) rfl rfl (by decide) (fun _ => ⟨_, _, rfl⟩) (fm_refuse hinj), (fun _ h => absurd h List.not_mem_nil)⟩)⟩) (fun as σ K h => by
  obtain ⟨x, rfl, hx, hd, hw, h1, h2, h3⟩ := h
  refine ⟨rfl, fun G hG => fs_seek57_0 hG ⟨rfl, ?_⟩⟩
  refine fs_seek57_4 hG ⟨fun z => ?_, fun z => ⟨_, rfl, fs_seek57_12 hG (h1 (fw_bo_eq z))⟩⟩
  have hn := fw_bo_ne z
  exact seek_gen (k := 57) (n := 9) (K := K) (σ := σ) (x := x) (G2 := fun i => G 17 [some (2, 1, 0), some (2, 57, 0), some (0, 0, x), some (0, 0, i)] [] σ) (G4 := fun i => G 47 [some (2, 1, 0), some (2, 57, 0), some (0, 0, x), some (0, 0, i)] [] σ) (by decide) (fun a3 q => fs_seek57_17 hG q) hx hd (hw hn) (fun q i => fs_seek57_47 hG ⟨_, rfl, fs_seek57_52 hG (h2 hn q)⟩) (h3 hn))
theorem fm_putl58 (hinj : nn_inj ad) : fw_H l cy ad wr cr D 26 0 (putl_k 58 6) := fw_mk hinj (⟨"NameNotes", "put", "([JIJ)V"⟩, prog_1_method_87_code, 4, (Option.none : Option Jvm.ClassFile.FieldType), 3, false, 4) rfl rfl nn_KI1_ok nn_KJ1_ok nn_PF1_ok nn_PS1_ok (by decide +kernel) rfl rfl (fun _ h => absurd h List.not_mem_nil) (fun as σ K h => by
  obtain ⟨x, v, rfl, h1, h2⟩ := h
  exact ⟨rfl, fun G hG => put_gen (k := 58) (n := 6) (K := K) (σ := σ) (x := x) (c := fw_d v) (by decide) (fs_putl58_0 hG) h1 h2⟩)
theorem fm_isIn58 (hinj : nn_inj ad) : fw_H l cy ad wr cr D 25 0 (isIn_k 58 6) := fw_mk hinj (⟨"NameNotes$StudioReader", "isIn", "([JI)Z"⟩, prog_9_method_13_code, 4, (Option.some Jvm.ClassFile.FieldType.boolean), 2, true, 1) rfl rfl nn_KI3_ok nn_KJ3_ok nn_PF3_ok nn_PS3_ok (by decide +kernel) rfl rfl (fun _ h => absurd h List.not_mem_nil) (fun as σ K h => by
  obtain ⟨x, rfl, hx, hd, hw, h⟩ := h
  exact ⟨rfl, fun G hG => fs_isIn58_0 hG (isIn_gen (k := 58) (n := 6) (K := K) (σ := σ) (x := x) (G2 := fun i => G 2 [some (2, 48, 0), some (2, 58, 0), some (0, 0, x), some (0, 0, i)] [] σ) (by decide) (fun a3 q => fs_isIn58_2 hG q) hx hd hw h)⟩)
theorem fm_seek58 (hinj : nn_inj ad) : fw_H l cy ad wr cr D 33 1 (seek_k 58 6) := fw_mk hinj (⟨"NameNotes$Tape", "seek", "([JI)I"⟩, prog_10_method_11_code, 4, (Option.some Jvm.ClassFile.FieldType.int), 2, true, 0) rfl rfl nn_KI2_ok nn_KJ2_ok nn_PF2_ok nn_PS2_ok (by decide +kernel) rfl rfl (List.forall_mem_cons.mpr ⟨fw_row nn_PM2_ok (x := 87) (k := 0) (mn := 24) (np := 0) (ob := true) (ci := 8) (⟨"NameNotes$Tape", "isName", "()Z"⟩, prog_10_method_9_code, 1, (Option.some Jvm.ClassFile.FieldType.boolean), 0, true, 1) rfl (by decide +kernel) rfl rfl (by decide) (fun _ => ⟨_, _, rfl⟩) (fm_isName hinj), (List.forall_mem_cons.mpr ⟨fw_row nn_PM2_ok (x := 91) (k := 0) (mn := 22) (np := 1) (ob := true) (ci := 8) (⟨"NameNotes$Tape", "refuse", "(I)Z"⟩, prog_10_method_14_code, 2, (Option.some Jvm.ClassFile.FieldType.boolean), 1, true, 1) rfl (by decide +kernel) rfl rfl (by decide) (fun _ => ⟨_, _, rfl⟩) (fm_refuse hinj), (fun _ h => absurd h List.not_mem_nil)⟩)⟩) (fun as σ K h => by
  obtain ⟨x, rfl, hx, hd, hw, h1, h2, h3⟩ := h
  refine ⟨rfl, fun G hG => fs_seek58_0 hG ⟨rfl, ?_⟩⟩
  refine fs_seek58_4 hG ⟨fun z => ?_, fun z => ⟨_, rfl, fs_seek58_12 hG (h1 (fw_bo_eq z))⟩⟩
  have hn := fw_bo_ne z
  exact seek_gen (k := 58) (n := 6) (K := K) (σ := σ) (x := x) (G2 := fun i => G 17 [some (2, 1, 0), some (2, 58, 0), some (0, 0, x), some (0, 0, i)] [] σ) (G4 := fun i => G 47 [some (2, 1, 0), some (2, 58, 0), some (0, 0, x), some (0, 0, i)] [] σ) (by decide) (fun a3 q => fs_seek58_17 hG q) hx hd (hw hn) (fun q i => fs_seek58_47 hG ⟨_, rfl, fs_seek58_52 hG (h2 hn q)⟩) (h3 hn))
theorem fm_putl59 (hinj : nn_inj ad) : fw_H l cy ad wr cr D 26 0 (putl_k 59 5) := fw_mk hinj (⟨"NameNotes", "put", "([JIJ)V"⟩, prog_1_method_87_code, 4, (Option.none : Option Jvm.ClassFile.FieldType), 3, false, 4) rfl rfl nn_KI1_ok nn_KJ1_ok nn_PF1_ok nn_PS1_ok (by decide +kernel) rfl rfl (fun _ h => absurd h List.not_mem_nil) (fun as σ K h => by
  obtain ⟨x, v, rfl, h1, h2⟩ := h
  exact ⟨rfl, fun G hG => put_gen (k := 59) (n := 5) (K := K) (σ := σ) (x := x) (c := fw_d v) (by decide) (fs_putl59_0 hG) h1 h2⟩)
theorem fm_isIn59 (hinj : nn_inj ad) : fw_H l cy ad wr cr D 25 0 (isIn_k 59 5) := fw_mk hinj (⟨"NameNotes$StudioReader", "isIn", "([JI)Z"⟩, prog_9_method_13_code, 4, (Option.some Jvm.ClassFile.FieldType.boolean), 2, true, 1) rfl rfl nn_KI3_ok nn_KJ3_ok nn_PF3_ok nn_PS3_ok (by decide +kernel) rfl rfl (fun _ h => absurd h List.not_mem_nil) (fun as σ K h => by
  obtain ⟨x, rfl, hx, hd, hw, h⟩ := h
  exact ⟨rfl, fun G hG => fs_isIn59_0 hG (isIn_gen (k := 59) (n := 5) (K := K) (σ := σ) (x := x) (G2 := fun i => G 2 [some (2, 48, 0), some (2, 59, 0), some (0, 0, x), some (0, 0, i)] [] σ) (by decide) (fun a3 q => fs_isIn59_2 hG q) hx hd hw h)⟩)
theorem fm_seek59 (hinj : nn_inj ad) : fw_H l cy ad wr cr D 33 1 (seek_k 59 5) := fw_mk hinj (⟨"NameNotes$Tape", "seek", "([JI)I"⟩, prog_10_method_11_code, 4, (Option.some Jvm.ClassFile.FieldType.int), 2, true, 0) rfl rfl nn_KI2_ok nn_KJ2_ok nn_PF2_ok nn_PS2_ok (by decide +kernel) rfl rfl (List.forall_mem_cons.mpr ⟨fw_row nn_PM2_ok (x := 87) (k := 0) (mn := 24) (np := 0) (ob := true) (ci := 8) (⟨"NameNotes$Tape", "isName", "()Z"⟩, prog_10_method_9_code, 1, (Option.some Jvm.ClassFile.FieldType.boolean), 0, true, 1) rfl (by decide +kernel) rfl rfl (by decide) (fun _ => ⟨_, _, rfl⟩) (fm_isName hinj), (List.forall_mem_cons.mpr ⟨fw_row nn_PM2_ok (x := 91) (k := 0) (mn := 22) (np := 1) (ob := true) (ci := 8) (⟨"NameNotes$Tape", "refuse", "(I)Z"⟩, prog_10_method_14_code, 2, (Option.some Jvm.ClassFile.FieldType.boolean), 1, true, 1) rfl (by decide +kernel) rfl rfl (by decide) (fun _ => ⟨_, _, rfl⟩) (fm_refuse hinj), (fun _ h => absurd h List.not_mem_nil)⟩)⟩) (fun as σ K h => by
  obtain ⟨x, rfl, hx, hd, hw, h1, h2, h3⟩ := h
  refine ⟨rfl, fun G hG => fs_seek59_0 hG ⟨rfl, ?_⟩⟩
  refine fs_seek59_4 hG ⟨fun z => ?_, fun z => ⟨_, rfl, fs_seek59_12 hG (h1 (fw_bo_eq z))⟩⟩
  have hn := fw_bo_ne z
  exact seek_gen (k := 59) (n := 5) (K := K) (σ := σ) (x := x) (G2 := fun i => G 17 [some (2, 1, 0), some (2, 59, 0), some (0, 0, x), some (0, 0, i)] [] σ) (G4 := fun i => G 47 [some (2, 1, 0), some (2, 59, 0), some (0, 0, x), some (0, 0, i)] [] σ) (by decide) (fun a3 q => fs_seek59_17 hG q) hx hd (hw hn) (fun q i => fs_seek59_47 hG ⟨_, rfl, fs_seek59_52 hG (h2 hn q)⟩) (h3 hn))
theorem fm_at (hinj : nn_inj ad) : fw_H l cy ad wr cr D 29 0 sp_at := fw_H_of (List.forall_mem_cons.mpr ⟨fm_at50 hinj, (List.forall_mem_cons.mpr ⟨fm_at51 hinj, (List.forall_mem_cons.mpr ⟨fm_at52 hinj, (List.forall_mem_cons.mpr ⟨fm_at54 hinj, (List.forall_mem_cons.mpr ⟨fm_at55 hinj, (List.forall_mem_cons.mpr ⟨fm_at56 hinj, (List.forall_mem_cons.mpr ⟨fm_at64 hinj, (List.forall_mem_cons.mpr ⟨fm_at53 hinj, (fun _ h => absurd h List.not_mem_nil)⟩)⟩)⟩)⟩)⟩)⟩)⟩)⟩)
theorem fm_put (hinj : nn_inj ad) : fw_H l cy ad wr cr D 27 0 sp_put := fw_H_of (List.forall_mem_cons.mpr ⟨fm_put50 hinj, (List.forall_mem_cons.mpr ⟨fm_put51 hinj, (List.forall_mem_cons.mpr ⟨fm_put52 hinj, (List.forall_mem_cons.mpr ⟨fm_put54 hinj, (List.forall_mem_cons.mpr ⟨fm_put55 hinj, (List.forall_mem_cons.mpr ⟨fm_put56 hinj, (List.forall_mem_cons.mpr ⟨fm_put64 hinj, (List.forall_mem_cons.mpr ⟨fm_put53 hinj, (fun _ h => absurd h List.not_mem_nil)⟩)⟩)⟩)⟩)⟩)⟩)⟩)⟩)
theorem fm_fill (hinj : nn_inj ad) : fw_H l cy ad wr cr D 7 0 sp_fill := fw_H_of (List.forall_mem_cons.mpr ⟨fm_fill50 hinj, (List.forall_mem_cons.mpr ⟨fm_fill51 hinj, (List.forall_mem_cons.mpr ⟨fm_fill52 hinj, (List.forall_mem_cons.mpr ⟨fm_fill54 hinj, (List.forall_mem_cons.mpr ⟨fm_fill55 hinj, (List.forall_mem_cons.mpr ⟨fm_fill56 hinj, (List.forall_mem_cons.mpr ⟨fm_fill64 hinj, (List.forall_mem_cons.mpr ⟨fm_fill53 hinj, (fun _ h => absurd h List.not_mem_nil)⟩)⟩)⟩)⟩)⟩)⟩)⟩)⟩)
theorem fm_putl (hinj : nn_inj ad) : fw_H l cy ad wr cr D 26 0 sp_putl := fw_H_of (List.forall_mem_cons.mpr ⟨fm_putl57 hinj, (List.forall_mem_cons.mpr ⟨fm_putl58 hinj, (List.forall_mem_cons.mpr ⟨fm_putl59 hinj, (fun _ h => absurd h List.not_mem_nil)⟩)⟩)⟩)
theorem fm_isIn (hinj : nn_inj ad) : fw_H l cy ad wr cr D 25 0 sp_isIn := fw_H_of (List.forall_mem_cons.mpr ⟨fm_isIn57 hinj, (List.forall_mem_cons.mpr ⟨fm_isIn58 hinj, (List.forall_mem_cons.mpr ⟨fm_isIn59 hinj, (fun _ h => absurd h List.not_mem_nil)⟩)⟩)⟩)
theorem fm_seek (hinj : nn_inj ad) : fw_H l cy ad wr cr D 33 1 sp_seek := fw_H_of (List.forall_mem_cons.mpr ⟨fm_seek57 hinj, (List.forall_mem_cons.mpr ⟨fm_seek58 hinj, (List.forall_mem_cons.mpr ⟨fm_seek59 hinj, (fun _ h => absurd h List.not_mem_nil)⟩)⟩)⟩)
end
end
section
/-! what a studio's text tells, read by itself: over a state A in the places of the class's reader (49: how many, 'from'; 50 pitches, 51 lengths, 52 how many notes, 54 clues' sets, 55 known, 56 dares, 57..59 names, 64 and (48, 3), (48, 4) what was told) -/
abbrev tk_E : Type := (Nat → Int) × Nat × Int
def tk (e : tk_E) (p : Nat) : tk_T := tk_tok e.1 e.2.1 e.2.2 p
def tn (e : tk_E) (p : Nat) : Nat := (tk e p).2.2.1
/-- which word that no name may be (-1: none) -/
def tw (e : tk_E) (p : Nat) : Int := if (tk e p).1 = 2 then kw_of 17 (tk e p).2.2.2.1 (-1) else -1
/-- a fault (0: none), the state, where -/
abbrev pr_R : Type := Int × ab_SG × Nat
def pr_nm (e : tk_E) (p : Nat) (a b : Int) : Int := if (tk e p).1 = 3 then (if a ≤ (tk e p).2.2.2.2 ∧ (tk e p).2.2.2.2 ≤ b then 0 else 2) else 1
def pr_wd (e : tk_E) (p : Nat) : Int := (tk e p).2.2.2.1
def pr_ix (A : ab_SG) (e : tk_E) (k : Nat) (n : Int) (p : Nat) : Int := rw_fd (A k) (pr_wd e p) n.toNat 0
def pr_sk (A : ab_SG) (e : tk_E) (k : Nat) (n : Int) (p : Nat) : Int := if (tk e p).1 = 2 ∧ tw e p < 0 then (if pr_ix A e k n p < 0 then 3 else 0) else 1
def pr_new (A : ab_SG) (e : tk_E) (p : Nat) : Int := if (tk e p).1 = 2 ∧ tw e p < 0 then (if 0 ≤ pr_ix A e 57 (A 49 11) p ∨ 0 ≤ pr_ix A e 58 (A 49 12) p ∨ 0 ≤ pr_ix A e 59 (A 49 13) p then 3 else 0) else 1
def pr_hs (s x : Int) : Bool := decide (fw_c (fw_op 8 (fw_op 6 s x) 1) = 1)
def pr_note (A : ab_SG) (e : tk_E) (x : Int) (p : Nat) : pr_R :=
  if pr_nm e p 0 24 ≠ 0 then (pr_nm e p 0 24, A, p)
  else if 9 ≤ A 52 x.toNat then (4, A, p)
  else if pr_nm e (tn e p) 1 9 ≠ 0 then (pr_nm e (tn e p) 1 9, A, tn e p)
  else (0, ab_ups (ab_ups (ab_ups A 50 (x * 9 + A 52 x.toNat).toNat (tk e p).2.2.2.2) 51 (x * 9 + A 52 x.toNat).toNat (tk e (tn e p)).2.2.2.2) 52 x.toNat (A 52 x.toNat + 1), tn e (tn e p))
def pr_notes (e : tk_E) (x : Int) : Nat → ab_SG → Nat → pr_R
  | 0, A, p => (0, A, p)
  | f + 1, A, p => if (tk e p).1 ≠ 3 then (0, A, p) else if (pr_note A e x p).1 ≠ 0 then pr_note A e x p else pr_notes e x f (pr_note A e x p).2.1 (pr_note A e x p).2.2
def pr_tune (A : ab_SG) (e : tk_E) (p : Nat) : pr_R :=
  if 9 ≤ A 49 11 then (4, A, p)
  else if pr_new A e (tn e p) ≠ 0 then (pr_new A e (tn e p), A, tn e p)
  else let A1 := ab_ups (ab_ups (ab_ups A 57 (A 49 11).toNat (pr_wd e (tn e p))) 52 (A 49 11).toNat 0) 49 11 (A 49 11 + 1)
    let r := pr_note A1 e (A 49 11) (tn e (tn e p))
    if r.1 ≠ 0 then r else pr_notes e (A 49 11) 9 r.2.1 r.2.2
def pr_left (A : ab_SG) (e : tk_E) (c : Int) (p : Nat) : pr_R :=
  if pr_sk A e 57 (A 49 11) p ≠ 0 then (pr_sk A e 57 (A 49 11) p, A, p)
  else if pr_hs (A 54 c.toNat) (pr_ix A e 57 (A 49 11) p) then (3, A, p)
  else (0, ab_ups A 54 c.toNat (pr_or (A 54 c.toNat) (pr_ix A e 57 (A 49 11) p)), tn e p)
def pr_lefts (e : tk_E) (c : Int) : Nat → ab_SG → Nat → pr_R
  | 0, A, p => (0, A, p)
  | f + 1, A, p => if (tk e p).1 ≠ 2 then (0, A, p) else if (pr_left A e c p).1 ≠ 0 then pr_left A e c p else pr_lefts e c f (pr_left A e c p).2.1 (pr_left A e c p).2.2
def pr_clue (A : ab_SG) (e : tk_E) (p : Nat) : pr_R :=
  if 6 ≤ A 49 12 then (4, A, p)
  else if pr_new A e (tn e p) ≠ 0 then (pr_new A e (tn e p), A, tn e p)
  else let A1 := ab_ups (ab_ups (ab_ups A 58 (A 49 12).toNat (pr_wd e (tn e p))) 54 (A 49 12).toNat 0) 49 12 (A 49 12 + 1)
    let r := pr_left A1 e (A 49 12) (tn e (tn e p))
    if r.1 ≠ 0 then r else pr_lefts e (A 49 12) 9 r.2.1 r.2.2
def pr_person (A : ab_SG) (e : tk_E) (p : Nat) : pr_R :=
  if 5 ≤ A 49 13 then (4, A, p)
  else if pr_new A e (tn e p) ≠ 0 then (pr_new A e (tn e p), A, tn e p)
  else (0, ab_ups (ab_ups A 59 (A 49 13).toNat (pr_wd e (tn e p))) 49 13 (A 49 13 + 1), tn e (tn e p))
def pr_knows (A : ab_SG) (e : tk_E) (p : Nat) : pr_R :=
  if pr_sk A e 59 (A 49 13) (tn e p) ≠ 0 then (pr_sk A e 59 (A 49 13) (tn e p), A, tn e p)
  else if pr_sk A e 57 (A 49 11) (tn e (tn e p)) ≠ 0 then (pr_sk A e 57 (A 49 11) (tn e (tn e p)), A, tn e (tn e p))
  else if pr_hs (A 64 (pr_ix A e 59 (A 49 13) (tn e p)).toNat) (pr_ix A e 57 (A 49 11) (tn e (tn e p))) then (3, A, tn e (tn e p))
  else if pr_nm e (tn e (tn e (tn e p))) 0 9 ≠ 0 then (pr_nm e (tn e (tn e (tn e p))) 0 9, A, tn e (tn e (tn e p)))
  else (0, ab_ups (ab_ups A 64 (pr_ix A e 59 (A 49 13) (tn e p)).toNat (pr_or (A 64 (pr_ix A e 59 (A 49 13) (tn e p)).toNat) (pr_ix A e 57 (A 49 11) (tn e (tn e p))))) 55 (pr_ix A e 59 (A 49 13) (tn e p) * 9 + pr_ix A e 57 (A 49 11) (tn e (tn e p))).toNat (tk e (tn e (tn e (tn e p)))).2.2.2.2, tn e (tn e (tn e (tn e p))))
def pr_dare (A : ab_SG) (e : tk_E) (p : Nat) : pr_R :=
  if pr_sk A e 59 (A 49 13) (tn e p) ≠ 0 then (pr_sk A e 59 (A 49 13) (tn e p), A, tn e p)
  else if pr_hs (A 48 3) (pr_ix A e 59 (A 49 13) (tn e p)) then (3, A, tn e p)
  else if pr_nm e (tn e (tn e p)) 0 9 ≠ 0 then (pr_nm e (tn e (tn e p)) 0 9, A, tn e (tn e p))
  else (0, ab_ups (ab_ups A 48 3 (pr_or (A 48 3) (pr_ix A e 59 (A 49 13) (tn e p)))) 56 (pr_ix A e 59 (A 49 13) (tn e p)).toNat (tk e (tn e (tn e p))).2.2.2.2, tn e (tn e (tn e p)))
def pr_from (A : ab_SG) (e : tk_E) (p : Nat) : pr_R :=
  if A 48 4 ≠ 0 then (3, A, p)
  else if pr_nm e (tn e p) 1 9 ≠ 0 then (pr_nm e (tn e p) 1 9, A, tn e p)
  else (0, ab_ups (ab_ups A 48 4 1) 49 14 (tk e (tn e p)).2.2.2.2, tn e (tn e p))
def pr_line (A : ab_SG) (e : tk_E) (p : Nat) : pr_R :=
  if tw e p = 0 then pr_tune A e p else if tw e p = 1 then pr_clue A e p else if tw e p = 2 then pr_person A e p
  else if tw e p = 3 then pr_knows A e p else if tw e p = 4 then pr_dare A e p else if tw e p = 5 then pr_from A e p else (1, A, p)
/-- a line and its sign -/
def pr_lns (A : ab_SG) (e : tk_E) (p : Nat) : pr_R :=
  if (pr_line A e p).1 ≠ 0 then pr_line A e p
  else if (tk e (pr_line A e p).2.2).1 ≠ 59 then (1, (pr_line A e p).2.1, (pr_line A e p).2.2)
  else (0, (pr_line A e p).2.1, tn e (pr_line A e p).2.2)
/-- all lines: how many -/
def pr_all (e : tk_E) : Nat → Int → ab_SG → Nat → pr_R × Int
  | 0, n, A, p => ((0, A, p), n)
  | f + 1, n, A, p => if (tk e p).1 = 0 then ((0, A, p), n) else if (pr_lns A e p).1 ≠ 0 then (pr_lns A e p, n) else pr_all e f (n + 1) (pr_lns A e p).2.1 (pr_lns A e p).2.2
/-! where a token ends -/
theorem tn_le {e : tk_E} {p : Nat} (h : p ≤ e.2.1) : p ≤ tn e p ∧ tn e p ≤ e.2.1 := by
  have hs := tk_sk_le e.1 (e.2.1 - p) p
  have hq : tk_sk e.1 (e.2.1 - p) p ≤ e.2.1 := by omega
  show p ≤ (tk_at e.1 e.2.1 e.2.2 (tk_sk e.1 (e.2.1 - p) p)).2.2.1 ∧ (tk_at e.1 e.2.1 e.2.2 (tk_sk e.1 (e.2.1 - p) p)).2.2.1 ≤ e.2.1
  generalize tk_sk e.1 (e.2.1 - p) p = q at hs hq
  unfold tk_at
  split
  · exact ⟨hs.1, hq⟩
  · split
    · exact ⟨hs.1, hq⟩
    · rename_i h1 h2
      split
      · have hr := tk_run_le e.1 (e.2.1 - q) q (0, 0, 0, 0)
        have e1 : (tk_rt q (tk_run e.1 (e.2.1 - q) q (0, 0, 0, 0))).2.2.1 = (tk_run e.1 (e.2.1 - q) q (0, 0, 0, 0)).1 := by
          unfold tk_rt
          split
          · rfl
          · split <;> rfl
        rw [e1]
        omega
      · show p ≤ q + 1 ∧ q + 1 ≤ e.2.1
        omega
/-- a token other than the end and none: it has a byte -/
theorem tn_lt {e : tk_E} {p : Nat} (h : p ≤ e.2.1) (hk : 2 ≤ (tk e p).1) : p < tn e p := by
  have hs := tk_sk_le e.1 (e.2.1 - p) p
  replace hk : 2 ≤ (tk_at e.1 e.2.1 e.2.2 (tk_sk e.1 (e.2.1 - p) p)).1 := hk
  show p < (tk_at e.1 e.2.1 e.2.2 (tk_sk e.1 (e.2.1 - p) p)).2.2.1
  generalize tk_sk e.1 (e.2.1 - p) p = q at hs hk
  unfold tk_at at hk ⊢
  split at hk
  · exact absurd hk (by show ¬ (2 : Int) ≤ 1; decide)
  · rename_i h1
    rw [if_neg h1]
    split at hk
    · exact absurd hk (by show ¬ (2 : Int) ≤ 0; decide)
    · rename_i h2
      rw [if_neg h2]
      split at hk
      · rename_i h3
        rw [if_pos h3]
        have e1 : (tk_rt q (tk_run e.1 (e.2.1 - q) q (0, 0, 0, 0))).2.2.1 = (tk_run e.1 (e.2.1 - q) q (0, 0, 0, 0)).1 := by
          unfold tk_rt
          split
          · rfl
          · split <;> rfl
        rw [e1]
        have hf : e.2.1 - q = (e.2.1 - q - 1) + 1 := by omega
        rw [hf]
        unfold tk_run
        split
        · have := tk_run_le e.1 (e.2.1 - q - 1) (q + 1) (0 + 1, 0, fw_d (0 * 32 + e.1 q - 97 + 1), 0)
          exact Nat.lt_of_lt_of_le (by omega) this.1
        · split
          · have := tk_run_le e.1 (e.2.1 - q - 1) (q + 1) (0, 0 + 1, 0, fw_c (0 * 10 + e.1 q - 48))
            exact Nat.lt_of_lt_of_le (by omega) this.1
          · exfalso
            omega
      · rename_i h3
        rw [if_neg h3]
        show p < q + 1
        omega
end
section
/-! the class's reader against the reading by itself: what it stands on -/
def pr_in (k j : Nat) : Bool := match k with
  | 48 => j.beq 3 || j.beq 4
  | 49 => j.beq 11 || j.beq 12 || j.beq 13 || j.beq 14
  | 50 => true
  | 51 => true
  | 52 => true
  | 54 => true
  | 55 => true
  | 56 => true
  | 57 => true
  | 58 => true
  | 59 => true
  | 64 => true
  | _ => false
def agr (σ A : ab_SG) : Prop := ∀ k j : Nat, pr_in k j = true → σ k j = A k j
abbrev RI (A : ab_SG) : Prop := (0 ≤ A 49 11 ∧ A 49 11 ≤ 9) ∧ (0 ≤ A 49 12 ∧ A 49 12 ≤ 6) ∧ (0 ≤ A 49 13 ∧ A 49 13 ≤ 5) ∧ (∀ j : Nat, j < 9 → fw_d (A 57 j) = A 57 j) ∧ (∀ j : Nat, j < 6 → fw_d (A 58 j) = A 58 j) ∧ (∀ j : Nat, j < 5 → fw_d (A 59 j) = A 59 j) ∧ (∀ j : Nat, j < 9 → 0 ≤ A 52 j ∧ A 52 j ≤ 9) ∧ (0 ≤ A 48 4 ∧ A 48 4 ≤ 1)
def eT (σ : ab_SG) : tk_E := (tp_t σ, (σ 1 1).toNat, σ 1 2)
def RD (σ A : ab_SG) (e : tk_E) (p : Nat) : Prop := agr σ A ∧ RI A ∧ eT σ = e ∧ st_is σ (tk e p) ∧ p ≤ e.2.1 ∧ (0 ≤ σ 1 1 ∧ σ 1 1 ≤ 940 ∧ 0 ≤ σ 1 2 ∧ σ 1 2 ≤ 940) ∧ σ 1 9 = 0
def rd_M : ab_ML := (1, 9) :: (1, 10) :: (48, 3) :: (48, 4) :: (49, 11) :: (49, 12) :: (49, 13) :: (49, 14) :: (50, 1000000) :: (51, 1000000) :: (52, 1000000) :: (54, 1000000) :: (55, 1000000) :: (56, 1000000) :: (57, 1000000) :: (58, 1000000) :: (59, 1000000) :: (64, 1000000) :: st_M
theorem fw_okM_upa {M : ab_ML} {σ σ' : ab_SG} {k j : Nat} {x : Int} (h : ab_okM M σ σ') (hm : M.any (fun q => q.1.beq k && q.2.beq 1000000) = true) : ab_okM M σ (ab_ups σ' k j x) := by
  intro a b hab
  rw [ab_ups_ne ?_]
  · exact h a b hab
  · rintro ⟨rfl, rfl⟩
    obtain ⟨q, hq, hq2⟩ := List.any_eq_true.mp hm
    rw [Bool.and_eq_true] at hq2
    exact hab q hq ⟨ab_beq hq2.1, Or.inr (ab_beq hq2.2)⟩
theorem agr_ups {σ A : ab_SG} {k j : Nat} {v : Int} (h : agr σ A) : agr (ab_ups σ k j v) (ab_ups A k j v) := by
  intro a b hab
  by_cases hc : a = k ∧ b = j
  · obtain ⟨rfl, rfl⟩ := hc
    rw [ab_ups_eq, ab_ups_eq]
  · rw [ab_ups_ne hc, ab_ups_ne hc]
    exact h a b hab
theorem agr_M {σ σ' A : ab_SG} {M : ab_ML} (h : agr σ A) (hM : ab_okM M σ σ') (hm : M.all (fun q => !(pr_in q.1 q.2) && !(q.2.beq 1000000)) = true) : agr σ' A := by
  intro a b hab
  rw [hM a b (fun q hq hq2 => ?_)]
  · exact h a b hab
  · have := List.all_eq_true.mp hm q hq
    rw [Bool.and_eq_true, Bool.not_eq_true', Bool.not_eq_true'] at this
    rcases hq2.2 with g | g
    · rw [hq2.1, g, hab] at this
      exact absurd this.1 (by decide)
    · rw [g] at this
      exact absurd this.2 (by decide)
theorem tk_run_d (t : Nat → Int) : ∀ (f p : Nat) (s : tk_S), fw_d s.2.2.1 = s.2.2.1 → fw_c s.2.2.2 = s.2.2.2 → fw_d (tk_run t f p s).2.2.2.1 = (tk_run t f p s).2.2.2.1 ∧ fw_c (tk_run t f p s).2.2.2.2 = (tk_run t f p s).2.2.2.2 := by
  intro f
  induction f with
  | zero => intro p s h1 h2; exact ⟨h1, h2⟩
  | succ f ih =>
    intro p s h1 h2
    unfold tk_run
    split
    · exact ih _ _ (fw_d_d _) h2
    · split
      · exact ih _ _ h1 (fw_c_c _)
      · exact ⟨h1, h2⟩
/-- a token's numbers -/
theorem tk_can (e : tk_E) (p : Nat) : (0 ≤ (tk e p).1 ∧ (tk e p).1 ≤ 62) ∧ ((tk e p).1 = 2 → fw_d (tk e p).2.2.2.1 = (tk e p).2.2.2.1) ∧ ((tk e p).1 = 3 → fw_c (tk e p).2.2.2.2 = (tk e p).2.2.2.2) := by
  show (0 ≤ (tk_at e.1 e.2.1 e.2.2 (tk_sk e.1 (e.2.1 - p) p)).1 ∧ (tk_at e.1 e.2.1 e.2.2 (tk_sk e.1 (e.2.1 - p) p)).1 ≤ 62) ∧ ((tk_at e.1 e.2.1 e.2.2 (tk_sk e.1 (e.2.1 - p) p)).1 = 2 → fw_d (tk_at e.1 e.2.1 e.2.2 (tk_sk e.1 (e.2.1 - p) p)).2.2.2.1 = (tk_at e.1 e.2.1 e.2.2 (tk_sk e.1 (e.2.1 - p) p)).2.2.2.1) ∧ ((tk_at e.1 e.2.1 e.2.2 (tk_sk e.1 (e.2.1 - p) p)).1 = 3 → fw_c (tk_at e.1 e.2.1 e.2.2 (tk_sk e.1 (e.2.1 - p) p)).2.2.2.2 = (tk_at e.1 e.2.1 e.2.2 (tk_sk e.1 (e.2.1 - p) p)).2.2.2.2)
  generalize tk_sk e.1 (e.2.1 - p) p = q
  have z : fw_d 0 = 0 := fw_d_id (by decide) (by decide)
  unfold tk_at
  split
  · exact ⟨⟨by show (0 : Int) ≤ 1; decide, by show (1 : Int) ≤ 62; decide⟩, fun _ => z, fun _ => fw_c0⟩
  · split
    · exact ⟨⟨by show (0 : Int) ≤ 0; decide, by show (0 : Int) ≤ 62; decide⟩, fun _ => z, fun _ => fw_c0⟩
    · split
      · have hr := tk_run_d e.1 (e.2.1 - q) q (0, 0, 0, 0) z fw_c0
        unfold tk_rt
        split
        · exact ⟨⟨by show (0 : Int) ≤ 2; decide, by show (2 : Int) ≤ 62; decide⟩, fun _ => hr.1, fun _ => fw_c0⟩
        · split
          · exact ⟨⟨by show (0 : Int) ≤ 3; decide, by show (3 : Int) ≤ 62; decide⟩, fun _ => z, fun _ => hr.2⟩
          · exact ⟨⟨by show (0 : Int) ≤ 1; decide, by show (1 : Int) ≤ 62; decide⟩, fun _ => z, fun _ => fw_c0⟩
      · refine ⟨?_, fun _ => z, fun _ => fw_c0⟩
        show 0 ≤ (if e.1 q = 59 ∨ (60 ≤ e.1 q ∧ e.1 q ≤ 62) ∨ e.1 q = 40 ∨ e.1 q = 41 ∨ e.1 q = 46 then e.1 q else 1) ∧ (if e.1 q = 59 ∨ (60 ≤ e.1 q ∧ e.1 q ≤ 62) ∨ e.1 q = 40 ∨ e.1 q = 41 ∨ e.1 q = 46 then e.1 q else 1) ≤ 62
        split <;> omega
theorem kw_of_in : ∀ (i : Nat) (w d : Int), kw_of i w d = d ∨ (0 ≤ kw_of i w d ∧ kw_of i w d < i) := by
  intro i
  induction i with
  | zero => intro w d; exact Or.inl rfl
  | succ i ih =>
    intro w d
    unfold kw_of
    split
    · exact Or.inr ⟨Int.natCast_nonneg i, by omega⟩
    · rcases ih w d with h | h
      · exact Or.inl h
      · exact Or.inr ⟨h.1, by omega⟩
section
variable {σ A : ab_SG} {e : tk_E} {p : Nat}
theorem RD.kind (h : RD σ A e p) : σ 1 5 = (tk e p).1 ∧ fw_c (σ 1 5) = (tk e p).1 := by
  obtain ⟨-, -, -, hk, -, -⟩ := h
  have := (tk_can e p).1
  rw [hk.1]
  exact ⟨rfl, fw_c_id (by omega) (by omega)⟩
theorem RD.kw (h : RD σ A e p) : σ 1 7 = tw e p ∧ -1 ≤ σ 1 7 ∧ σ 1 7 ≤ 16 := by
  obtain ⟨-, -, -, hk, -, -⟩ := h
  have e1 : σ 1 7 = tw e p := by
    unfold tw
    by_cases q : (tk e p).1 = 2
    · rw [if_pos q]; exact (hk.2.2.2.1 q).2
    · rw [if_neg q]; exact hk.2.2.2.2.1 q
  refine ⟨e1, ?_⟩
  rw [e1]
  unfold tw
  split
  · rcases kw_of_in 17 (tk e p).2.2.2.1 (-1) with g | g
    · rw [g]; decide
    · omega
  · decide
theorem RD.st (h : RD σ A e p) : st_pre σ ∧ ∀ σ' : ab_SG, ab_okM st_M σ σ' → st_is σ' (st_nx σ) → RD σ' A e (tn e p) := by
  obtain ⟨ha, hi, he, hk, hp, hb, h9⟩ := h
  have e3 : σ 1 3 = ((tn e p : Nat) : Int) := hk.2.2.1
  have hn := tn_le hp
  have en : e.2.1 = (σ 1 1).toNat := by rw [← he]; rfl
  refine ⟨⟨by omega, by omega, hb.2.1, hb.2.2.1, hb.2.2.2⟩, fun σ' hM hs => ⟨agr_M ha hM (by decide), hi, ?_, ?_, hn.2, ?_, (hM 1 9 (by decide)).trans h9⟩⟩
  · rw [← he]
    unfold eT
    rw [tp_t_M hM (by decide), hM 1 1 (by decide), hM 1 2 (by decide)]
  · have e4 : st_nx σ = tk e (tn e p) := by
      rw [← he]
      unfold st_nx tk eT
      rw [e3, Int.toNat_natCast, ← he]
      rfl
    rw [← e4]
    exact hs
  · rw [hM 1 1 (by decide), hM 1 2 (by decide)]
    exact hb
/-- a number of the state, set on both sides -/
theorem RD.ups {k j : Nat} {v : Int} (h : RD σ A e p) (hk : k ≠ 1 ∧ k ≠ 2) (hi : RI (ab_ups A k j v)) : RD (ab_ups σ k j v) (ab_ups A k j v) e p := by
  obtain ⟨ha, -, he, hs, hp, hb, h9⟩ := h
  have n1 : ∀ b : Nat, ab_ups σ k j v 1 b = σ 1 b := fun b => ab_ups_ne (fun z => hk.1 z.1.symm)
  have n2 : ab_ups σ k j v 2 = σ 2 := ab_ups_row (fun z => hk.2 z.symm)
  refine ⟨agr_ups ha, hi, ?_, ?_, hp, ?_, (n1 9).trans h9⟩
  · rw [← he]
    unfold eT tp_t
    rw [n1, n1, n2]
  · unfold st_is
    rw [n1, n1, n1, n1, n1, n1]
    exact hs
  · rw [n1, n1]
    exact hb
theorem RD.pl (h : RD σ A e p) {k j : Nat} (hk : pr_in k j = true) : σ k j = A k j := h.1 k j hk
theorem tp_rf_M (x : Int) : ab_okM rd_M σ (tp_rf σ x) := fw_okM_ups (fw_okM_ups (fw_okM_refl _ _) (by decide)) (by decide)
theorem tp_rf_9 (x : Int) : tp_rf σ x 1 9 = fw_c x := by
  unfold tp_rf
  rw [ab_ups_ne (by decide), ab_ups_eq]
/-- a fault: none of the state is wanted behind it -/
def rd_no (σ : ab_SG) (f : Int) (K : fw_KR) (v : Int) : Prop := ∀ σ' : ab_SG, ab_okM rd_M σ σ' → σ' 1 9 = f → K (some (0, 0, v)) σ'
theorem RD.num (h : RD σ A e p) {a b : Int} {K : fw_KR} (hab : 0 ≤ a ∧ a ≤ 24 ∧ 0 ≤ b ∧ b ≤ 24) (h0 : pr_nm e p a b ≠ 0 → rd_no σ (pr_nm e p a b) K 0) (h1 : pr_nm e p a b = 0 → σ 1 8 = (tk e p).2.2.2.2 → a ≤ (tk e p).2.2.2.2 → (tk e p).2.2.2.2 ≤ b → K (some (0, 0, 1)) σ) :
    sp_needNumber [(2, 1, 0), (0, 0, a), (0, 0, b)] σ K := by
  have hk := h.kind
  have hc := tk_can e p
  have ea : fw_c a = a := fw_c_id (by omega) (by omega)
  have eb : fw_c b = b := fw_c_id (by omega) (by omega)
  refine ⟨a, b, rfl, ?_⟩
  rw [hk.2, ea, eb]
  unfold pr_nm at h0 h1
  refine ⟨fun q => ?_, fun q q2 => ?_, fun q q2 => ?_⟩
  · rw [if_neg q] at h0
    exact h0 (by decide) _ (tp_rf_M 1) (by rw [tp_rf_9, fw_c1])
  · have e8 : σ 1 8 = (tk e p).2.2.2.2 := h.2.2.2.1.2.2.2.2.2 q
    rw [e8, hc.2.2 q] at q2
    rw [if_pos q, if_neg q2] at h0
    exact h0 (by decide) _ (tp_rf_M 2) (by rw [tp_rf_9]; exact fw_c_id (by decide) (by decide))
  · have e8 : σ 1 8 = (tk e p).2.2.2.2 := h.2.2.2.1.2.2.2.2.2 q
    rw [e8, hc.2.2 q] at q2
    rw [if_pos q, if_pos q2] at h1
    exact h1 rfl e8 q2.1 q2.2
theorem RD.word (h : RD σ A e p) (q : (tk e p).1 = 2) : σ 1 6 = pr_wd e p ∧ fw_d (σ 1 6) = σ 1 6 := by
  have e6 : σ 1 6 = pr_wd e p := (h.2.2.2.1.2.2.2.1 q).1
  refine ⟨e6, ?_⟩
  rw [e6]
  exact (tk_can e p).2.1 q
theorem RD.name (h : RD σ A e p) : (fw_c (σ 1 5) = 2 ∧ σ 1 7 < 0) ↔ ((tk e p).1 = 2 ∧ tw e p < 0) := by rw [h.kind.2, h.kw.1]
theorem RD.row (h : RD σ A e p) {k n : Nat} (hkn : (k, n) ∈ rw_L) : σ k = A k := by
  funext j
  refine h.pl ?_
  rcases List.mem_cons.mp hkn with q | hkn
  · cases q; rfl
  rcases List.mem_cons.mp hkn with q | hkn
  · cases q; rfl
  rcases List.mem_cons.mp hkn with q | hkn
  · cases q; rfl
  cases hkn
theorem RD.dn (h : RD σ A e p) {k n : Nat} (hkn : (k, n) ∈ rw_L) : ∀ j : Nat, j < n → fw_d (σ k j) = σ k j := by
  rw [h.row hkn]
  obtain ⟨-, hi, -⟩ := h
  rcases List.mem_cons.mp hkn with q | hkn
  · cases q; exact hi.2.2.2.1
  rcases List.mem_cons.mp hkn with q | hkn
  · cases q; exact hi.2.2.2.2.1
  rcases List.mem_cons.mp hkn with q | hkn
  · cases q; exact hi.2.2.2.2.2.1
  cases hkn
theorem RD.seek (h : RD σ A e p) {k n : Nat} {x : Int} {K : fw_KR} (hkn : (k, n) ∈ rw_L) (hx : 0 ≤ x ∧ x ≤ (n : Int)) (h0 : pr_sk A e k x p ≠ 0 → rd_no σ (pr_sk A e k x p) K (-1)) (h1 : pr_sk A e k x p = 0 → 0 ≤ pr_ix A e k x p → pr_ix A e k x p < x → K (some (0, 0, pr_ix A e k x p)) σ) :
    sp_seek [(2, 1, 0), (2, k, 0), (0, 0, x)] σ K := by
  have hN := h.name
  refine ⟨(k, n), hkn, x, rfl, hx, fun j hj => h.dn hkn j (by omega), fun q => (h.word (hN.mp q).1).2, fun q => ?_, fun q q2 => ?_, fun q q2 => ?_⟩
  · unfold pr_sk at h0
    rw [if_neg (fun z => q (hN.mpr z))] at h0
    exact h0 (by decide) _ (tp_rf_M 1) (by rw [tp_rf_9, fw_c1])
  · have hq := hN.mp q
    rw [h.row hkn, (h.word hq.1).1] at q2
    unfold pr_sk at h0
    rw [if_pos hq, if_pos (show pr_ix A e k x p < 0 from q2)] at h0
    exact h0 (by decide) _ (tp_rf_M 3) (by rw [tp_rf_9]; exact fw_c_id (by decide) (by decide))
  · have hq := hN.mp q
    rw [h.row hkn, (h.word hq.1).1] at q2 ⊢
    have hlt := rw_fd_le (A k) (pr_wd e p) x.toNat 0
    unfold pr_sk at h1
    rw [if_pos hq, if_neg (show ¬ pr_ix A e k x p < 0 from fun z => absurd q2 (by show ¬ 0 ≤ pr_ix A e k x p; omega))] at h1
    refine h1 rfl q2 ?_
    show rw_fd (A k) (pr_wd e p) x.toNat 0 < x
    omega
end
def sp_isNewName : fw_SP := fun as σ K => ∃ (A : ab_SG) (e : tk_E) (p : Nat), as = [(2, 48, 0)] ∧ RD σ A e p ∧ (pr_new A e p ≠ 0 → rd_no σ (pr_new A e p) K 0) ∧ (pr_new A e p = 0 → (tk e p).1 = 2 → K (some (0, 0, 1)) σ)
def rd_post (σ : ab_SG) (r : pr_R) (e : tk_E) (K : fw_KR) : Prop := (r.1 ≠ 0 → rd_no σ r.1 K 0) ∧ (r.1 = 0 → ∀ σ' : ab_SG, ab_okM rd_M σ σ' → RD σ' r.2.1 e r.2.2 → K (some (0, 0, 1)) σ')
def sp_readNote : fw_SP := fun as σ K => ∃ (x : Int) (A : ab_SG) (e : tk_E) (p : Nat), as = [(2, 48, 0), (0, 0, x)] ∧ RD σ A e p ∧ (0 ≤ x ∧ x < 9) ∧ rd_post σ (pr_note A e x p) e K
def sp_readLeft : fw_SP := fun as σ K => ∃ (c : Int) (A : ab_SG) (e : tk_E) (p : Nat), as = [(2, 48, 0), (0, 0, c)] ∧ RD σ A e p ∧ (0 ≤ c ∧ c < 6) ∧ rd_post σ (pr_left A e c p) e K
def sp_readTune : fw_SP := fun as σ K => ∃ (A : ab_SG) (e : tk_E) (p : Nat), as = [(2, 48, 0)] ∧ RD σ A e p ∧ rd_post σ (pr_tune A e p) e K
def sp_readClue : fw_SP := fun as σ K => ∃ (A : ab_SG) (e : tk_E) (p : Nat), as = [(2, 48, 0)] ∧ RD σ A e p ∧ rd_post σ (pr_clue A e p) e K
def sp_readPerson : fw_SP := fun as σ K => ∃ (A : ab_SG) (e : tk_E) (p : Nat), as = [(2, 48, 0)] ∧ RD σ A e p ∧ rd_post σ (pr_person A e p) e K
def sp_readKnows : fw_SP := fun as σ K => ∃ (A : ab_SG) (e : tk_E) (p : Nat), as = [(2, 48, 0)] ∧ RD σ A e p ∧ rd_post σ (pr_knows A e p) e K
def sp_readDare : fw_SP := fun as σ K => ∃ (A : ab_SG) (e : tk_E) (p : Nat), as = [(2, 48, 0)] ∧ RD σ A e p ∧ rd_post σ (pr_dare A e p) e K
def sp_readFrom : fw_SP := fun as σ K => ∃ (A : ab_SG) (e : tk_E) (p : Nat), as = [(2, 48, 0)] ∧ RD σ A e p ∧ rd_post σ (pr_from A e p) e K
def sp_readLine : fw_SP := fun as σ K => ∃ (A : ab_SG) (e : tk_E) (p : Nat), as = [(2, 48, 0)] ∧ RD σ A e p ∧ rd_post σ (pr_line A e p) e K
def sp_setNinth49 : fw_SP := fun as σ K => ∃ p x k : Int, as = [(2, 49, 0), (0, 0, p), (0, 0, x), (0, 0, k)] ∧ (0 ≤ p ∧ p < 5 ∧ 0 ≤ x ∧ x < 9) ∧ K none (ab_ups σ 55 (p * 9 + x).toNat (fw_c k))
abbrev fk_setNinth49 : List fw_CR := [(99, 3, false, 0, 0, sp_put)]
abbrev st_setNinth49 : fw_K → fw_KR → fw_K := fw_st vwCl nn_sh nn_kd fw_kv fw_wc (nn_KI6.map (fun x => x.1)) (nn_KJ6.map (fun x => x.1)) (nn_PF6.map (fun x => x.1)) (nn_PS6.map (fun x => x.1)) fk_setNinth49 1 nn_dt37 4 4
theorem fs_setNinth49_0 {G : fw_K} {R : fw_KR} (hG : fw_cls st_setNinth49 R G) {p x k : Int} {σ : ab_SG} (h : sp_put [(2, 55, 0), (0, 0, (p * 9) + x), (0, 0, k)] σ (fun rv σ2 => G 14 [some (2, 49, 0), some (0, 0, p), some (0, 0, x), some (0, 0, k)] (rv.toList ++ []) σ2)) : G 0 [some (2, 49, 0), some (0, 0, p), some (0, 0, x), some (0, 0, k)] [] σ := fw_on hG [14] 200 h
theorem fs_setNinth49_14 {G : fw_K} {R : fw_KR} (hG : fw_cls st_setNinth49 R G) {a1 a2 a3 : Int} {σ : ab_SG} (h : R none σ) : G 14 [some (2, 49, 0), some (0, 0, a1), some (0, 0, a2), some (0, 0, a3)] [] σ := fw_on hG [14] 200 h
abbrev fk_isNewName : List fw_CR := [(107, 1, true, 8, 0, sp_refuse), (198, 0, true, 8, 0, sp_isName), (201, 2, true, 7, 0, sp_isIn)]
abbrev st_isNewName : fw_K → fw_KR → fw_K := fw_st vwCl nn_sh nn_kd fw_kv fw_wc (nn_KI3.map (fun x => x.1)) (nn_KJ3.map (fun x => x.1)) (nn_PF3.map (fun x => x.1)) (nn_PS3.map (fun x => x.1)) fk_isNewName 1 nn_dt23 2 1
theorem fs_isNewName_0 {G : fw_K} {R : fw_KR} (hG : fw_cls st_isNewName R G) {σ : ab_SG} (h : sp_isName [(2, 1, 0)] σ (fun rv σ2 => G 7 [some (2, 48, 0), none] (rv.toList ++ []) σ2)) : G 0 [some (2, 48, 0), none] [] σ := fw_on hG [7, 18, 37, 58, 79, 82, 87, 100] 200 h
theorem fs_isNewName_7 {G : fw_K} {R : fw_KR} (hG : fw_cls st_isNewName R G) {b0 : Int} {σ : ab_SG} (h : (fw_c b0 ≠ 0 → sp_isIn [(2, 48, 0), (2, 57, 0), (0, 0, σ 49 11)] σ (fun rv σ2 => G 37 [some (2, 48, 0), none] (rv.toList ++ []) σ2)) ∧ (fw_c b0 = 0 → sp_refuse [(2, 1, 0), (0, 0, 1)] σ (fun rv σ2 => G 18 [some (2, 48, 0), none] (rv.toList ++ []) σ2))) : G 7 [some (2, 48, 0), none] [(0, 0, b0)] σ := fw_on hG [7, 18, 37, 58, 79, 82, 87, 100] 200 h
theorem fs_isNewName_37 {G : fw_K} {R : fw_KR} (hG : fw_cls st_isNewName R G) {b0 : Int} {σ : ab_SG} (h : (fw_c b0 ≠ 0 → G 82 [some (2, 48, 0), none] [] σ) ∧ (fw_c b0 = 0 → sp_isIn [(2, 48, 0), (2, 58, 0), (0, 0, σ 49 12)] σ (fun rv σ2 => G 58 [some (2, 48, 0), none] (rv.toList ++ []) σ2))) : G 37 [some (2, 48, 0), none] [(0, 0, b0)] σ := fw_on hG [7, 18, 37, 58, 79, 82, 87, 100] 200 h
theorem fs_isNewName_18 {G : fw_K} {R : fw_KR} (hG : fw_cls st_isNewName R G) {b0 : Int} {σ : ab_SG} (h : (0 ≤ fw_c b0 ∧ fw_c b0 ≤ 1) ∧ R (some (0, 0, b0)) σ) : G 18 [some (2, 48, 0), none] [(0, 0, b0)] σ := fw_on hG [7, 18, 37, 58, 79, 82, 87, 100] 200 h
theorem fs_isNewName_82 {G : fw_K} {R : fw_KR} (hG : fw_cls st_isNewName R G) {σ : ab_SG} (h : G 87 [some (2, 48, 0), none] [(0, 0, 1)] σ) : G 82 [some (2, 48, 0), none] [] σ := fw_on hG [7, 18, 37, 58, 79, 82, 87, 100] 200 h
theorem fs_isNewName_58 {G : fw_K} {R : fw_KR} (hG : fw_cls st_isNewName R G) {b0 : Int} {σ : ab_SG} (h : (fw_c b0 ≠ 0 → G 82 [some (2, 48, 0), none] [] σ) ∧ (fw_c b0 = 0 → sp_isIn [(2, 48, 0), (2, 59, 0), (0, 0, σ 49 13)] σ (fun rv σ2 => G 79 [some (2, 48, 0), none] (rv.toList ++ []) σ2))) : G 58 [some (2, 48, 0), none] [(0, 0, b0)] σ := fw_on hG [7, 18, 37, 58, 79, 82, 87, 100] 200 h
theorem fs_isNewName_87 {G : fw_K} {R : fw_KR} (hG : fw_cls st_isNewName R G) {b0 : Int} {σ : ab_SG} (h : (fw_c b0 = 0 → (0 ≤ fw_c 1 ∧ fw_c 1 ≤ 1) ∧ R (some (0, 0, 1)) σ) ∧ (fw_c b0 ≠ 0 → sp_refuse [(2, 1, 0), (0, 0, 3)] σ (fun rv σ2 => G 100 [some (2, 48, 0), some (0, 0, b0)] (rv.toList ++ []) σ2))) : G 87 [some (2, 48, 0), none] [(0, 0, b0)] σ := fw_on hG [7, 18, 37, 58, 79, 82, 87, 100] 200 h
theorem fs_isNewName_79 {G : fw_K} {R : fw_KR} (hG : fw_cls st_isNewName R G) {b0 : Int} {σ : ab_SG} (h : (fw_c b0 = 0 → G 87 [some (2, 48, 0), none] [(0, 0, 0)] σ) ∧ (fw_c b0 ≠ 0 → G 82 [some (2, 48, 0), none] [] σ)) : G 79 [some (2, 48, 0), none] [(0, 0, b0)] σ := fw_on hG [7, 18, 37, 58, 79, 82, 87, 100] 200 h
theorem fs_isNewName_100 {G : fw_K} {R : fw_KR} (hG : fw_cls st_isNewName R G) {a1 b0 : Int} {σ : ab_SG} (h : (fw_c b0 = 0 → (0 ≤ fw_c 0 ∧ fw_c 0 ≤ 1) ∧ R (some (0, 0, 0)) σ) ∧ (fw_c b0 ≠ 0 → (0 ≤ fw_c 1 ∧ fw_c 1 ≤ 1) ∧ R (some (0, 0, 1)) σ)) : G 100 [some (2, 48, 0), some (0, 0, a1)] [(0, 0, b0)] σ := fw_on hG [7, 18, 37, 58, 79, 82, 87, 100] 200 h
abbrev fk_readNote : List fw_CR := [(107, 1, true, 8, 0, sp_refuse), (113, 0, true, 8, 2, sp_step), (134, 3, false, 0, 0, sp_put), (140, 2, false, 0, 0, sp_at), (144, 2, true, 8, 1, sp_needNumber)]
abbrev st_readNote : fw_K → fw_KR → fw_K := fw_st vwCl nn_sh nn_kd fw_kv fw_wc (nn_KI3.map (fun x => x.1)) (nn_KJ3.map (fun x => x.1)) (nn_PF3.map (fun x => x.1)) (nn_PS3.map (fun x => x.1)) fk_readNote 4 nn_dt28 3 1
theorem fs_readNote_0 {G : fw_K} {R : fw_KR} (hG : fw_cls st_readNote R G) {x : Int} {σ : ab_SG} (h : sp_at [(2, 52, 0), (0, 0, x)] σ (fun rv σ2 => G 11 [some (2, 48, 0), some (0, 0, x), none] (rv.toList ++ []) σ2)) : G 0 [some (2, 48, 0), some (0, 0, x), none] [] σ := fw_on hG [11, 22, 41, 65, 72, 82, 110, 124, 131] 200 h
theorem fs_readNote_11 {G : fw_K} {R : fw_KR} (hG : fw_cls st_readNote R G) {a1 b0 : Int} {σ : ab_SG} (h : sp_needNumber [(2, 1, 0), (0, 0, 0), (0, 0, 24)] σ (fun rv σ2 => G 22 [some (2, 48, 0), some (0, 0, a1), some (0, 0, b0)] (rv.toList ++ []) σ2)) : G 11 [some (2, 48, 0), some (0, 0, a1), none] [(0, 0, b0)] σ := fw_on hG [11, 22, 41, 65, 72, 82, 110, 124, 131] 200 h
theorem fs_readNote_22 {G : fw_K} {R : fw_KR} (hG : fw_cls st_readNote R G) {a1 a2 b0 : Int} {σ : ab_SG} (h : (fw_c b0 ≠ 0 → (fw_c a2 < fw_c 9 → sp_put [(2, 50, 0), (0, 0, (a1 * 9) + a2), (0, 0, σ 1 8)] σ (fun rv σ2 => G 65 [some (2, 48, 0), some (0, 0, a1), some (0, 0, a2)] (rv.toList ++ []) σ2)) ∧ (fw_c 9 ≤ fw_c a2 → sp_refuse [(2, 1, 0), (0, 0, 4)] σ (fun rv σ2 => G 41 [some (2, 48, 0), some (0, 0, a1), some (0, 0, a2)] (rv.toList ++ []) σ2))) ∧ (fw_c b0 = 0 → (0 ≤ fw_c 0 ∧ fw_c 0 ≤ 1) ∧ R (some (0, 0, 0)) σ)) : G 22 [some (2, 48, 0), some (0, 0, a1), some (0, 0, a2)] [(0, 0, b0)] σ := fw_on hG [11, 22, 41, 65, 72, 82, 110, 124, 131] 200 h
theorem fs_readNote_65 {G : fw_K} {R : fw_KR} (hG : fw_cls st_readNote R G) {a1 a2 : Int} {σ : ab_SG} (h : sp_step [(2, 1, 0)] σ (fun rv σ2 => G 72 [some (2, 48, 0), some (0, 0, a1), some (0, 0, a2)] (rv.toList ++ []) σ2)) : G 65 [some (2, 48, 0), some (0, 0, a1), some (0, 0, a2)] [] σ := fw_on hG [11, 22, 41, 65, 72, 82, 110, 124, 131] 200 h
theorem fs_readNote_41 {G : fw_K} {R : fw_KR} (hG : fw_cls st_readNote R G) {a1 a2 b0 : Int} {σ : ab_SG} (h : (0 ≤ fw_c b0 ∧ fw_c b0 ≤ 1) ∧ R (some (0, 0, b0)) σ) : G 41 [some (2, 48, 0), some (0, 0, a1), some (0, 0, a2)] [(0, 0, b0)] σ := fw_on hG [11, 22, 41, 65, 72, 82, 110, 124, 131] 200 h
theorem fs_readNote_72 {G : fw_K} {R : fw_KR} (hG : fw_cls st_readNote R G) {a1 a2 : Int} {σ : ab_SG} (h : sp_needNumber [(2, 1, 0), (0, 0, 1), (0, 0, 9)] σ (fun rv σ2 => G 82 [some (2, 48, 0), some (0, 0, a1), some (0, 0, a2)] (rv.toList ++ []) σ2)) : G 72 [some (2, 48, 0), some (0, 0, a1), some (0, 0, a2)] [] σ := fw_on hG [11, 22, 41, 65, 72, 82, 110, 124, 131] 200 h
theorem fs_readNote_82 {G : fw_K} {R : fw_KR} (hG : fw_cls st_readNote R G) {a1 a2 b0 : Int} {σ : ab_SG} (h : (fw_c b0 ≠ 0 → sp_put [(2, 51, 0), (0, 0, (a1 * 9) + a2), (0, 0, σ 1 8)] σ (fun rv σ2 => G 110 [some (2, 48, 0), some (0, 0, a1), some (0, 0, a2)] (rv.toList ++ []) σ2)) ∧ (fw_c b0 = 0 → (0 ≤ fw_c 0 ∧ fw_c 0 ≤ 1) ∧ R (some (0, 0, 0)) σ)) : G 82 [some (2, 48, 0), some (0, 0, a1), some (0, 0, a2)] [(0, 0, b0)] σ := fw_on hG [11, 22, 41, 65, 72, 82, 110, 124, 131] 200 h
theorem fs_readNote_110 {G : fw_K} {R : fw_KR} (hG : fw_cls st_readNote R G) {a1 a2 : Int} {σ : ab_SG} (h : sp_put [(2, 52, 0), (0, 0, a1), (0, 0, a2 + 1)] σ (fun rv σ2 => G 124 [some (2, 48, 0), some (0, 0, a1), some (0, 0, a2)] (rv.toList ++ []) σ2)) : G 110 [some (2, 48, 0), some (0, 0, a1), some (0, 0, a2)] [] σ := fw_on hG [11, 22, 41, 65, 72, 82, 110, 124, 131] 200 h
theorem fs_readNote_124 {G : fw_K} {R : fw_KR} (hG : fw_cls st_readNote R G) {a1 a2 : Int} {σ : ab_SG} (h : sp_step [(2, 1, 0)] σ (fun rv σ2 => G 131 [some (2, 48, 0), some (0, 0, a1), some (0, 0, a2)] (rv.toList ++ []) σ2)) : G 124 [some (2, 48, 0), some (0, 0, a1), some (0, 0, a2)] [] σ := fw_on hG [11, 22, 41, 65, 72, 82, 110, 124, 131] 200 h
theorem fs_readNote_131 {G : fw_K} {R : fw_KR} (hG : fw_cls st_readNote R G) {a1 a2 : Int} {σ : ab_SG} (h : (0 ≤ fw_c 1 ∧ fw_c 1 ≤ 1) ∧ R (some (0, 0, 1)) σ) : G 131 [some (2, 48, 0), some (0, 0, a1), some (0, 0, a2)] [] σ := fw_on hG [11, 22, 41, 65, 72, 82, 110, 124, 131] 200 h
abbrev fk_readLeft : List fw_CR := [(107, 1, true, 8, 0, sp_refuse), (113, 0, true, 8, 2, sp_step), (134, 3, false, 0, 0, sp_put), (140, 2, false, 0, 0, sp_at), (169, 2, true, 8, 1, sp_seek), (173, 2, false, 0, 0, sp_has)]
abbrev st_readLeft : fw_K → fw_KR → fw_K := fw_st vwCl nn_sh nn_kd fw_kv fw_wc (nn_KI3.map (fun x => x.1)) (nn_KJ3.map (fun x => x.1)) (nn_PF3.map (fun x => x.1)) (nn_PS3.map (fun x => x.1)) fk_readLeft 4 nn_dt32 4 1
theorem fs_readLeft_0 {G : fw_K} {R : fw_KR} (hG : fw_cls st_readLeft R G) {c : Int} {σ : ab_SG} (h : sp_seek [(2, 1, 0), (2, 57, 0), (0, 0, σ 49 11)] σ (fun rv σ2 => G 21 [some (2, 48, 0), some (0, 0, c), none, none] (rv.toList ++ []) σ2)) : G 0 [some (2, 48, 0), some (0, 0, c), none, none] [] σ := fw_on hG [21, 40, 46, 57, 74, 81] 200 h
theorem fs_readLeft_21 {G : fw_K} {R : fw_KR} (hG : fw_cls st_readLeft R G) {a1 b0 : Int} {σ : ab_SG} (h : (fw_c b0 ≠ fw_c (-1) → sp_at [(2, 54, 0), (0, 0, a1)] σ (fun rv σ2 => G 40 [some (2, 48, 0), some (0, 0, a1), some (0, 0, b0), none] (rv.toList ++ []) σ2)) ∧ (fw_c b0 = fw_c (-1) → (0 ≤ fw_c 0 ∧ fw_c 0 ≤ 1) ∧ R (some (0, 0, 0)) σ)) : G 21 [some (2, 48, 0), some (0, 0, a1), none, none] [(0, 0, b0)] σ := fw_on hG [21, 40, 46, 57, 74, 81] 200 h
theorem fs_readLeft_40 {G : fw_K} {R : fw_KR} (hG : fw_cls st_readLeft R G) {a1 a2 b0 : Int} {σ : ab_SG} (h : sp_has [(0, 0, b0), (0, 0, a2)] σ (fun rv σ2 => G 46 [some (2, 48, 0), some (0, 0, a1), some (0, 0, a2), some (0, 0, b0)] (rv.toList ++ []) σ2)) : G 40 [some (2, 48, 0), some (0, 0, a1), some (0, 0, a2), none] [(0, 0, b0)] σ := fw_on hG [21, 40, 46, 57, 74, 81] 200 h
theorem fs_readLeft_46 {G : fw_K} {R : fw_KR} (hG : fw_cls st_readLeft R G) {a1 a2 a3 b0 : Int} {σ : ab_SG} (h : (fw_c b0 = 0 → sp_put [(2, 54, 0), (0, 0, a1), (0, 0, fw_op 9 a3 (fw_op 5 1 a2))] σ (fun rv σ2 => G 74 [some (2, 48, 0), some (0, 0, a1), some (0, 0, a2), some (0, 0, a3)] (rv.toList ++ []) σ2)) ∧ (fw_c b0 ≠ 0 → sp_refuse [(2, 1, 0), (0, 0, 3)] σ (fun rv σ2 => G 57 [some (2, 48, 0), some (0, 0, a1), some (0, 0, a2), some (0, 0, a3)] (rv.toList ++ []) σ2))) : G 46 [some (2, 48, 0), some (0, 0, a1), some (0, 0, a2), some (0, 0, a3)] [(0, 0, b0)] σ := fw_on hG [21, 40, 46, 57, 74, 81] 200 h
theorem fs_readLeft_74 {G : fw_K} {R : fw_KR} (hG : fw_cls st_readLeft R G) {a1 a2 a3 : Int} {σ : ab_SG} (h : sp_step [(2, 1, 0)] σ (fun rv σ2 => G 81 [some (2, 48, 0), some (0, 0, a1), some (0, 0, a2), some (0, 0, a3)] (rv.toList ++ []) σ2)) : G 74 [some (2, 48, 0), some (0, 0, a1), some (0, 0, a2), some (0, 0, a3)] [] σ := fw_on hG [21, 40, 46, 57, 74, 81] 200 h
theorem fs_readLeft_57 {G : fw_K} {R : fw_KR} (hG : fw_cls st_readLeft R G) {a1 a2 a3 b0 : Int} {σ : ab_SG} (h : (0 ≤ fw_c b0 ∧ fw_c b0 ≤ 1) ∧ R (some (0, 0, b0)) σ) : G 57 [some (2, 48, 0), some (0, 0, a1), some (0, 0, a2), some (0, 0, a3)] [(0, 0, b0)] σ := fw_on hG [21, 40, 46, 57, 74, 81] 200 h
theorem fs_readLeft_81 {G : fw_K} {R : fw_KR} (hG : fw_cls st_readLeft R G) {a1 a2 a3 : Int} {σ : ab_SG} (h : (0 ≤ fw_c 1 ∧ fw_c 1 ≤ 1) ∧ R (some (0, 0, 1)) σ) : G 81 [some (2, 48, 0), some (0, 0, a1), some (0, 0, a2), some (0, 0, a3)] [] σ := fw_on hG [21, 40, 46, 57, 74, 81] 200 h
section
variable {l : Launch} {cy : Nat → ClassId} {ad wr cr : Nat → Nat} {D : va_G}
theorem fm_setNinth49 (hinj : nn_inj ad) : fw_H l cy ad wr cr D 37 1 sp_setNinth49 := fw_mk hinj (⟨"NameNotes$Studio", "setNinth", "(III)V"⟩, prog_8_method_14_code, 4, (Option.none : Option Jvm.ClassFile.FieldType), 3, true, 4) rfl rfl nn_KI6_ok nn_KJ6_ok nn_PF6_ok nn_PS6_ok (by decide +kernel) rfl rfl (List.forall_mem_cons.mpr ⟨fw_row nn_PM6_ok (x := 99) (k := 2) (mn := 27) (np := 3) (ob := false) (ci := 0) (⟨"NameNotes", "put", "([III)V"⟩, prog_1_method_86_code, 3, (Option.none : Option Jvm.ClassFile.FieldType), 3, false, 4) rfl (by decide +kernel) rfl rfl (by decide) (fun q => by cases q) (fm_put hinj), (fun _ h => absurd h List.not_mem_nil)⟩) (fun as σ K h => by
  obtain ⟨p, x, k, rfl, hb, h⟩ := h
  have e1 : fw_c (p * 9 + x) = p * 9 + x := fw_c_id (by omega) (by omega)
  refine ⟨rfl, fun G hG => fs_setNinth49_0 hG ⟨(55, 45), by decide, _, _, rfl, fun q => fs_setNinth49_14 hG ?_, fun q => absurd (by rw [e1]; show 0 ≤ p * 9 + x ∧ p * 9 + x < 45; omega) q⟩⟩
  rw [e1]
  exact h)
theorem fm_isNewName (hinj : nn_inj ad) : fw_H l cy ad wr cr D 23 1 sp_isNewName := fw_mk hinj (⟨"NameNotes$StudioReader", "isNewName", "()Z"⟩, prog_9_method_12_code, 2, (Option.some Jvm.ClassFile.FieldType.boolean), 0, true, 1) rfl rfl nn_KI3_ok nn_KJ3_ok nn_PF3_ok nn_PS3_ok (by decide +kernel) rfl rfl (List.forall_mem_cons.mpr ⟨fw_row nn_PM3_ok (x := 107) (k := 0) (mn := 22) (np := 1) (ob := true) (ci := 8) (⟨"NameNotes$Tape", "refuse", "(I)Z"⟩, prog_10_method_14_code, 2, (Option.some Jvm.ClassFile.FieldType.boolean), 1, true, 1) rfl (by decide +kernel) rfl rfl (by decide) (fun _ => ⟨_, _, rfl⟩) (fm_refuse hinj), (List.forall_mem_cons.mpr ⟨fw_row nn_PM3_ok (x := 198) (k := 0) (mn := 24) (np := 0) (ob := true) (ci := 8) (⟨"NameNotes$Tape", "isName", "()Z"⟩, prog_10_method_9_code, 1, (Option.some Jvm.ClassFile.FieldType.boolean), 0, true, 1) rfl (by decide +kernel) rfl rfl (by decide) (fun _ => ⟨_, _, rfl⟩) (fm_isName hinj), (List.forall_mem_cons.mpr ⟨fw_row nn_PM3_ok (x := 201) (k := 0) (mn := 25) (np := 2) (ob := true) (ci := 7) (⟨"NameNotes$StudioReader", "isIn", "([JI)Z"⟩, prog_9_method_13_code, 4, (Option.some Jvm.ClassFile.FieldType.boolean), 2, true, 1) rfl (by decide +kernel) rfl rfl (by decide) (fun _ => ⟨_, _, rfl⟩) (fm_isIn hinj), (fun _ h => absurd h List.not_mem_nil)⟩)⟩)⟩) (fun as σ K h => by
  obtain ⟨A, e, p, rfl, h, h0, h1⟩ := h
  refine ⟨rfl, fun G hG => fs_isNewName_0 hG ⟨rfl, ?_⟩⟩
  have hN := h.name
  have z3 : fw_c 3 = 3 := fw_c_id (by decide) (by decide)
  have hi := h.2.1
  refine fs_isNewName_7 hG ⟨fun z => ?_, fun z => ⟨_, rfl, fs_isNewName_18 hG ⟨fw_01, ?_⟩⟩⟩
  · have hq := hN.mp (fw_bo_ne z)
    have hw := h.word hq.1
    have b1 : σ 49 11 = A 49 11 := h.pl rfl
    have b2 : σ 49 12 = A 49 12 := h.pl rfl
    have b3 : σ 49 13 = A 49 13 := h.pl rfl
    unfold pr_new at h0 h1
    rw [if_pos hq] at h0 h1
    have at82 : (0 ≤ pr_ix A e 57 (A 49 11) p ∨ 0 ≤ pr_ix A e 58 (A 49 12) p ∨ 0 ≤ pr_ix A e 59 (A 49 13) p) → G 82 [some (2, 48, 0), none] [] σ := fun q => by
      rw [if_pos q] at h0
      exact fs_isNewName_82 hG (fs_isNewName_87 hG ⟨fun y => absurd (fw_c1.symm.trans y) (by decide), fun _ => ⟨_, rfl, fs_isNewName_100 hG ⟨fun _ => ⟨fw_01, h0 (by first | decide | (dsimp only; decide)) _ (tp_rf_M 3) (by rw [tp_rf_9, z3])⟩, fun y => absurd fw_c0 y⟩⟩⟩)
    refine ⟨(57, 9), by decide, _, rfl, ⟨by omega, by show σ 49 11 ≤ 9; omega⟩, fun j hj => h.dn (k := 57) (n := 9) (by decide) j (by omega), hw.2, ?_⟩
    rw [h.row (k := 57) (n := 9) (by decide), hw.1, b1]
    refine fs_isNewName_37 hG ⟨fun y => at82 (Or.inl (fw_bo_ne y)), fun y => ?_⟩
    have n1 := fw_bo_eq y
    refine ⟨(58, 6), by decide, _, rfl, ⟨by omega, by show σ 49 12 ≤ 6; omega⟩, fun j hj => h.dn (k := 58) (n := 6) (by decide) j (by omega), hw.2, ?_⟩
    rw [h.row (k := 58) (n := 6) (by decide), hw.1, b2]
    refine fs_isNewName_58 hG ⟨fun y => at82 (Or.inr (Or.inl (fw_bo_ne y))), fun y => ?_⟩
    have n2 := fw_bo_eq y
    refine ⟨(59, 5), by decide, _, rfl, ⟨by omega, by show σ 49 13 ≤ 5; omega⟩, fun j hj => h.dn (k := 59) (n := 5) (by decide) j (by omega), hw.2, ?_⟩
    rw [h.row (k := 59) (n := 5) (by decide), hw.1, b3]
    refine fs_isNewName_79 hG ⟨fun y => ?_, fun y => at82 (Or.inr (Or.inr (fw_bo_ne y)))⟩
    have n3 := fw_bo_eq y
    rw [if_neg (fun q => q.elim n1 (fun q => q.elim n2 n3))] at h1
    exact fs_isNewName_87 hG ⟨fun _ => ⟨fw_11, h1 rfl hq.1⟩, fun y => absurd fw_c0 y⟩
  · have hq : ¬ ((tk e p).1 = 2 ∧ tw e p < 0) := fun q => fw_bo_eq z (hN.mpr q)
    unfold pr_new at h0
    rw [if_neg hq] at h0
    exact h0 (by first | decide | (dsimp only; decide)) _ (tp_rf_M 1) (by rw [tp_rf_9, fw_c1]))
theorem fm_readNote (hinj : nn_inj ad) : fw_H l cy ad wr cr D 28 4 sp_readNote := fw_mk hinj (⟨"NameNotes$StudioReader", "readNote", "(I)Z"⟩, prog_9_method_5_code, 3, (Option.some Jvm.ClassFile.FieldType.boolean), 1, true, 1) rfl rfl nn_KI3_ok nn_KJ3_ok nn_PF3_ok nn_PS3_ok (by decide +kernel) rfl rfl (List.forall_mem_cons.mpr ⟨fw_row nn_PM3_ok (x := 107) (k := 0) (mn := 22) (np := 1) (ob := true) (ci := 8) (⟨"NameNotes$Tape", "refuse", "(I)Z"⟩, prog_10_method_14_code, 2, (Option.some Jvm.ClassFile.FieldType.boolean), 1, true, 1) rfl (by decide +kernel) rfl rfl (by decide) (fun _ => ⟨_, _, rfl⟩) (fm_refuse hinj), (List.forall_mem_cons.mpr ⟨fw_row nn_PM3_ok (x := 113) (k := 0) (mn := 10) (np := 0) (ob := true) (ci := 8) (⟨"NameNotes$Tape", "step", "()V"⟩, prog_10_method_5_code, 2, (Option.none : Option Jvm.ClassFile.FieldType), 0, true, 4) rfl (by decide +kernel) rfl rfl (by decide) (fun _ => ⟨_, _, rfl⟩) (fm_step hinj), (List.forall_mem_cons.mpr ⟨fw_row nn_PM3_ok (x := 134) (k := 2) (mn := 27) (np := 3) (ob := false) (ci := 0) (⟨"NameNotes", "put", "([III)V"⟩, prog_1_method_86_code, 3, (Option.none : Option Jvm.ClassFile.FieldType), 3, false, 4) rfl (by decide +kernel) rfl rfl (by decide) (fun q => by cases q) (fm_put hinj), (List.forall_mem_cons.mpr ⟨fw_row nn_PM3_ok (x := 140) (k := 2) (mn := 29) (np := 2) (ob := false) (ci := 0) (⟨"NameNotes", "at", "([II)I"⟩, prog_1_method_84_code, 2, (Option.some Jvm.ClassFile.FieldType.int), 2, false, 0) rfl (by decide +kernel) rfl rfl (by decide) (fun q => by cases q) (fm_at hinj), (List.forall_mem_cons.mpr ⟨fw_row nn_PM3_ok (x := 144) (k := 0) (mn := 30) (np := 2) (ob := true) (ci := 8) (⟨"NameNotes$Tape", "needNumber", "(II)Z"⟩, prog_10_method_12_code, 3, (Option.some Jvm.ClassFile.FieldType.boolean), 2, true, 1) rfl (by decide +kernel) rfl rfl (by decide) (fun _ => ⟨_, _, rfl⟩) (fm_needNumber hinj), (fun _ h => absurd h List.not_mem_nil)⟩)⟩)⟩)⟩)⟩) (fun as σ K h => by
  obtain ⟨x, A, e, p, rfl, h, hx, h0, h1⟩ := h
  have ex : fw_c x = x := fw_c_id (by omega) (by omega)
  have z9 : fw_c 9 = 9 := fw_c_id (by decide) (by decide)
  have z4 : fw_c 4 = 4 := fw_c_id (by decide) (by decide)
  have hxn : x.toNat < 9 := by omega
  have hs := h.2.1.2.2.2.2.2.2.1 x.toNat hxn
  have e52 : σ 52 x.toNat = A 52 x.toNat := h.pl rfl
  refine ⟨rfl, fun G hG => fs_readNote_0 hG ⟨(52, 9), by decide, x, rfl, fun q => fs_readNote_11 hG ?_, fun q => absurd (by rw [ex]; show 0 ≤ x ∧ x < 9; omega) q⟩⟩
  rw [ex, e52]
  have es : fw_c (A 52 x.toNat) = A 52 x.toNat := fw_c_id (by omega) (by omega)
  unfold pr_note at h0 h1
  refine h.num (by decide) (fun q => ?_) (fun q q8 qa qb => ?_)
  · rw [if_pos q] at h0
    exact fun σ' a b => fs_readNote_22 hG ⟨fun y => absurd fw_c0 y, fun _ => ⟨fw_01, h0 q σ' a b⟩⟩
  · rw [if_neg (fun y => y q)] at h0 h1
    refine fs_readNote_22 hG ⟨fun _ => ?_, fun y => absurd (fw_c1.symm.trans y) (by decide)⟩
    rw [es, z9]
    refine ⟨fun q9 => ?_, fun q9 => ?_⟩
    · rw [if_neg (show ¬ 9 ≤ A 52 x.toNat by omega)] at h0 h1
      have ei : fw_c (x * 9 + A 52 x.toNat) = x * 9 + A 52 x.toNat := fw_c_id (by omega) (by omega)
      have ev : fw_c (σ 1 8) = (tk e p).2.2.2.2 := by rw [q8]; exact fw_c_id (by omega) (by omega)
      refine ⟨(50, 81), by decide, _, _, rfl, fun _ => fs_readNote_65 hG ?_, fun y => absurd (by rw [ei]; show 0 ≤ x * 9 + A 52 x.toNat ∧ x * 9 + A 52 x.toNat < 81; omega) y⟩
      rw [ei, ev]
      have H1 : RD (ab_ups σ 50 (x * 9 + A 52 x.toNat).toNat (tk e p).2.2.2.2) (ab_ups A 50 (x * 9 + A 52 x.toNat).toNat (tk e p).2.2.2.2) e p := h.ups (by decide) h.2.1
      have M1 : ab_okM rd_M σ (ab_ups σ 50 (x * 9 + A 52 x.toNat).toNat (tk e p).2.2.2.2) := fw_okM_upa (fw_okM_refl _ _) (by decide)
      generalize ab_ups σ 50 (x * 9 + A 52 x.toNat).toNat (tk e p).2.2.2.2 = σ1 at H1 M1 ⊢
      refine ⟨rfl, H1.st.1, fun σ2 M2 S2 => fs_readNote_72 hG ?_⟩
      have H2 := H1.st.2 σ2 M2 S2
      have M3 : ab_okM rd_M σ σ2 := fw_okM_tr M1 M2 (by decide)
      refine H2.num (by decide) (fun q2 => ?_) (fun q2 p8 pa pb => ?_)
      · rw [if_pos q2] at h0
        exact fun σ' a b => fs_readNote_82 hG ⟨fun y => absurd fw_c0 y, fun _ => ⟨fw_01, h0 q2 σ' (fw_okM_tr M3 a (by decide)) b⟩⟩
      · rw [if_neg (fun y => y q2)] at h1
        have ew : fw_c (σ2 1 8) = (tk e (tn e p)).2.2.2.2 := by rw [p8]; exact fw_c_id (by omega) (by omega)
        refine fs_readNote_82 hG ⟨fun _ => ?_, fun y => absurd (fw_c1.symm.trans y) (by decide)⟩
        refine ⟨(51, 81), by decide, _, _, rfl, fun _ => fs_readNote_110 hG ?_, fun y => absurd (by rw [ei]; show 0 ≤ x * 9 + A 52 x.toNat ∧ x * 9 + A 52 x.toNat < 81; omega) y⟩
        rw [ei, ew]
        have H3 := H2.ups (k := 51) (j := (x * 9 + A 52 x.toNat).toNat) (v := (tk e (tn e p)).2.2.2.2) (by decide) h.2.1
        have M4 : ab_okM rd_M σ (ab_ups σ2 51 (x * 9 + A 52 x.toNat).toNat (tk e (tn e p)).2.2.2.2) := fw_okM_upa M3 (by decide)
        generalize ab_ups σ2 51 (x * 9 + A 52 x.toNat).toNat (tk e (tn e p)).2.2.2.2 = σ3 at H3 M4 ⊢
        refine ⟨(52, 9), by decide, _, _, rfl, fun _ => fs_readNote_124 hG ?_, fun y => absurd (by rw [ex]; show 0 ≤ x ∧ x < 9; omega) y⟩
        have e1 : fw_c (A 52 x.toNat + 1) = A 52 x.toNat + 1 := fw_c_id (by omega) (by omega)
        rw [ex, e1]
        have H4 := H3.ups (k := 52) (j := x.toNat) (v := A 52 x.toNat + 1) (by decide) ⟨h.2.1.1, h.2.1.2.1, h.2.1.2.2.1, h.2.1.2.2.2.1, h.2.1.2.2.2.2.1, h.2.1.2.2.2.2.2.1, fun j hj => by
          by_cases ej : j = x.toNat
          · rw [ej, ab_ups_eq]; omega
          · rw [ab_ups_ne (fun y => ej y.2)]; exact h.2.1.2.2.2.2.2.2.1 j hj, h.2.1.2.2.2.2.2.2.2⟩
        have M5 : ab_okM rd_M σ (ab_ups σ3 52 x.toNat (A 52 x.toNat + 1)) := fw_okM_upa M4 (by decide)
        generalize ab_ups σ3 52 x.toNat (A 52 x.toNat + 1) = σ4 at H4 M5 ⊢
        refine ⟨rfl, H4.st.1, fun σ5 M6 S6 => fs_readNote_131 hG ⟨fw_11, h1 rfl σ5 (fw_okM_tr M5 M6 (by decide)) (H4.st.2 σ5 M6 S6)⟩⟩
    · rw [if_pos q9] at h0
      exact ⟨_, rfl, fs_readNote_41 hG ⟨fw_01, h0 (by first | decide | (dsimp only; decide)) _ (tp_rf_M 4) (by rw [tp_rf_9, z4])⟩⟩)
theorem fm_readLeft (hinj : nn_inj ad) : fw_H l cy ad wr cr D 32 4 sp_readLeft := fw_mk hinj (⟨"NameNotes$StudioReader", "readLeft", "(I)Z"⟩, prog_9_method_7_code, 4, (Option.some Jvm.ClassFile.FieldType.boolean), 1, true, 1) rfl rfl nn_KI3_ok nn_KJ3_ok nn_PF3_ok nn_PS3_ok (by decide +kernel) rfl rfl (List.forall_mem_cons.mpr ⟨fw_row nn_PM3_ok (x := 107) (k := 0) (mn := 22) (np := 1) (ob := true) (ci := 8) (⟨"NameNotes$Tape", "refuse", "(I)Z"⟩, prog_10_method_14_code, 2, (Option.some Jvm.ClassFile.FieldType.boolean), 1, true, 1) rfl (by decide +kernel) rfl rfl (by decide) (fun _ => ⟨_, _, rfl⟩) (fm_refuse hinj), (List.forall_mem_cons.mpr ⟨fw_row nn_PM3_ok (x := 113) (k := 0) (mn := 10) (np := 0) (ob := true) (ci := 8) (⟨"NameNotes$Tape", "step", "()V"⟩, prog_10_method_5_code, 2, (Option.none : Option Jvm.ClassFile.FieldType), 0, true, 4) rfl (by decide +kernel) rfl rfl (by decide) (fun _ => ⟨_, _, rfl⟩) (fm_step hinj), (List.forall_mem_cons.mpr ⟨fw_row nn_PM3_ok (x := 134) (k := 2) (mn := 27) (np := 3) (ob := false) (ci := 0) (⟨"NameNotes", "put", "([III)V"⟩, prog_1_method_86_code, 3, (Option.none : Option Jvm.ClassFile.FieldType), 3, false, 4) rfl (by decide +kernel) rfl rfl (by decide) (fun q => by cases q) (fm_put hinj), (List.forall_mem_cons.mpr ⟨fw_row nn_PM3_ok (x := 140) (k := 2) (mn := 29) (np := 2) (ob := false) (ci := 0) (⟨"NameNotes", "at", "([II)I"⟩, prog_1_method_84_code, 2, (Option.some Jvm.ClassFile.FieldType.int), 2, false, 0) rfl (by decide +kernel) rfl rfl (by decide) (fun q => by cases q) (fm_at hinj), (List.forall_mem_cons.mpr ⟨fw_row nn_PM3_ok (x := 169) (k := 0) (mn := 33) (np := 2) (ob := true) (ci := 8) (⟨"NameNotes$Tape", "seek", "([JI)I"⟩, prog_10_method_11_code, 4, (Option.some Jvm.ClassFile.FieldType.int), 2, true, 0) rfl (by decide +kernel) rfl rfl (by decide) (fun _ => ⟨_, _, rfl⟩) (fm_seek hinj), (List.forall_mem_cons.mpr ⟨fw_row nn_PM3_ok (x := 173) (k := 2) (mn := 34) (np := 2) (ob := false) (ci := 0) (⟨"NameNotes", "has", "(II)Z"⟩, prog_1_method_80_code, 2, (Option.some Jvm.ClassFile.FieldType.boolean), 2, false, 1) rfl (by decide +kernel) rfl rfl (by decide) (fun q => by cases q) (fm_has hinj), (fun _ h => absurd h List.not_mem_nil)⟩)⟩)⟩)⟩)⟩)⟩) (fun as σ K h => by
  obtain ⟨c, A, e, p, rfl, h, hc, h0, h1⟩ := h
  have ec : fw_c c = c := fw_c_id (by omega) (by omega)
  have em : fw_c (-1) = -1 := fw_c_id (by decide) (by decide)
  have z3 : fw_c 3 = 3 := fw_c_id (by decide) (by decide)
  have b1 : σ 49 11 = A 49 11 := h.pl rfl
  have hi := h.2.1
  have e54 : σ 54 c.toNat = A 54 c.toNat := h.pl rfl
  unfold pr_left at h0 h1
  refine ⟨rfl, fun G hG => fs_readLeft_0 hG ?_⟩
  rw [b1]
  refine h.seek (n := 9) (by decide) ⟨by omega, by show A 49 11 ≤ 9; omega⟩ (fun q => ?_) (fun q q1 q2 => ?_)
  · rw [if_pos q] at h0
    exact fun σ' a b => fs_readLeft_21 hG ⟨fun y => absurd rfl y, fun _ => ⟨fw_01, h0 q σ' a b⟩⟩
  · rw [if_neg (fun y => y q)] at h0 h1
    generalize hx : pr_ix A e 57 (A 49 11) p = x at h0 h1 q1 q2 ⊢
    have ex : fw_c x = x := fw_c_id (by omega) (by omega)
    refine fs_readLeft_21 hG ⟨fun _ => ?_, fun y => absurd y (by rw [ex, em]; omega)⟩
    refine ⟨(54, 6), by decide, _, rfl, fun _ => ?_, fun y => absurd (by rw [ec]; show 0 ≤ c ∧ c < 6; omega) y⟩
    rw [ec, e54]
    refine fs_readLeft_40 hG ⟨_, _, rfl, by rw [ex]; omega, ?_⟩
    refine fs_readLeft_46 hG ⟨fun y => ?_, fun y => ⟨_, rfl, fs_readLeft_57 hG ⟨fw_01, ?_⟩⟩⟩
    · have hn := fw_bo_eq y
      have hf : pr_hs (A 54 c.toNat) x = false := by unfold pr_hs; exact decide_eq_false hn
      rw [hf] at h0 h1
      refine ⟨(54, 6), by decide, _, _, rfl, fun _ => fs_readLeft_74 hG ?_, fun y => absurd (by rw [ec]; show 0 ≤ c ∧ c < 6; omega) y⟩
      rw [ec]
      have H1 := h.ups (k := 54) (j := c.toNat) (v := pr_or (A 54 c.toNat) x) (by decide) hi
      have M1 : ab_okM rd_M σ (ab_ups σ 54 c.toNat (pr_or (A 54 c.toNat) x)) := fw_okM_upa (fw_okM_refl _ _) (by decide)
      replace h1 := h1 rfl
      show sp_step [(2, 1, 0)] (ab_ups σ 54 c.toNat (pr_or (A 54 c.toNat) x)) _
      generalize ab_ups σ 54 c.toNat (pr_or (A 54 c.toNat) x) = σ1 at H1 M1 ⊢
      exact ⟨rfl, H1.st.1, fun σ2 M2 S2 => fs_readLeft_81 hG ⟨fw_11, h1 σ2 (fw_okM_tr M1 M2 (by decide)) (H1.st.2 σ2 M2 S2)⟩⟩
    · have hp := fw_bo_ne y
      have hf : pr_hs (A 54 c.toNat) x = true := by unfold pr_hs; exact decide_eq_true hp
      rw [hf, if_pos rfl] at h0
      exact h0 (by first | decide | (dsimp only; decide)) _ (tp_rf_M 3) (by rw [tp_rf_9, z3]))
end
end
section
/-! the class's reader: its lines -/
abbrev fk_readTune : List fw_CR := [(107, 1, true, 8, 0, sp_refuse), (113, 0, true, 8, 2, sp_step), (116, 0, true, 7, 1, sp_isNewName), (127, 3, false, 0, 0, sp_putl), (134, 3, false, 0, 0, sp_put), (137, 1, true, 7, 4, sp_readNote)]
abbrev st_readTune : fw_K → fw_KR → fw_K := fw_st vwCl nn_sh nn_kd fw_kv fw_wc (nn_KI3.map (fun x => x.1)) (nn_KJ3.map (fun x => x.1)) (nn_PF3.map (fun x => x.1)) (nn_PS3.map (fun x => x.1)) fk_readTune 5 nn_dt21 4 1
theorem fs_readTune_0 {G : fw_K} {R : fw_KR} (hG : fw_cls st_readTune R G) {σ : ab_SG} (h : (fw_c (σ 49 11) < fw_c 9 → sp_step [(2, 1, 0)] σ (fun rv σ2 => G 30 [some (2, 48, 0), some (0, 0, σ 49 11), none, none] (rv.toList ++ []) σ2)) ∧ (fw_c 9 ≤ fw_c (σ 49 11) → sp_refuse [(2, 1, 0), (0, 0, 4)] σ (fun rv σ2 => G 22 [some (2, 48, 0), some (0, 0, σ 49 11), none, none] (rv.toList ++ []) σ2))) : G 0 [some (2, 48, 0), none, none, none] [] σ := fw_on hG [22, 30, 34, 57, 69, 89, 94, 97, 123] 200 h
theorem fs_readTune_30 {G : fw_K} {R : fw_KR} (hG : fw_cls st_readTune R G) {a1 : Int} {σ : ab_SG} (h : sp_isNewName [(2, 48, 0)] σ (fun rv σ2 => G 34 [some (2, 48, 0), some (0, 0, a1), none, none] (rv.toList ++ []) σ2)) : G 30 [some (2, 48, 0), some (0, 0, a1), none, none] [] σ := fw_on hG [22, 30, 34, 57, 69, 89, 94, 97, 123] 200 h
theorem fs_readTune_22 {G : fw_K} {R : fw_KR} (hG : fw_cls st_readTune R G) {a1 b0 : Int} {σ : ab_SG} (h : (0 ≤ fw_c b0 ∧ fw_c b0 ≤ 1) ∧ R (some (0, 0, b0)) σ) : G 22 [some (2, 48, 0), some (0, 0, a1), none, none] [(0, 0, b0)] σ := fw_on hG [22, 30, 34, 57, 69, 89, 94, 97, 123] 200 h
theorem fs_readTune_34 {G : fw_K} {R : fw_KR} (hG : fw_cls st_readTune R G) {a1 b0 : Int} {σ : ab_SG} (h : (fw_c b0 ≠ 0 → sp_putl [(2, 57, 0), (0, 0, a1), (1, 0, σ 1 6)] σ (fun rv σ2 => G 57 [some (2, 48, 0), some (0, 0, a1), none, none] (rv.toList ++ []) σ2)) ∧ (fw_c b0 = 0 → (0 ≤ fw_c 0 ∧ fw_c 0 ≤ 1) ∧ R (some (0, 0, 0)) σ)) : G 34 [some (2, 48, 0), some (0, 0, a1), none, none] [(0, 0, b0)] σ := fw_on hG [22, 30, 34, 57, 69, 89, 94, 97, 123] 200 h
theorem fs_readTune_57 {G : fw_K} {R : fw_KR} (hG : fw_cls st_readTune R G) {a1 : Int} {σ : ab_SG} (h : sp_put [(2, 52, 0), (0, 0, a1), (0, 0, 0)] σ (fun rv σ2 => G 69 [some (2, 48, 0), some (0, 0, a1), none, none] (rv.toList ++ []) σ2)) : G 57 [some (2, 48, 0), some (0, 0, a1), none, none] [] σ := fw_on hG [22, 30, 34, 57, 69, 89, 94, 97, 123] 200 h
theorem fs_readTune_69 {G : fw_K} {R : fw_KR} (hG : fw_cls st_readTune R G) {a1 : Int} {σ : ab_SG} (h : sp_step [(2, 1, 0)] (ab_ups σ 49 11 (fw_c ((σ 49 11) + 1))) (fun rv σ2 => G 89 [some (2, 48, 0), some (0, 0, a1), none, none] (rv.toList ++ []) σ2)) : G 69 [some (2, 48, 0), some (0, 0, a1), none, none] [] σ := fw_on hG [22, 30, 34, 57, 69, 89, 94, 97, 123] 200 h
theorem fs_readTune_89 {G : fw_K} {R : fw_KR} (hG : fw_cls st_readTune R G) {a1 : Int} {σ : ab_SG} (h : sp_readNote [(2, 48, 0), (0, 0, a1)] σ (fun rv σ2 => G 94 [some (2, 48, 0), some (0, 0, a1), none, none] (rv.toList ++ []) σ2)) : G 89 [some (2, 48, 0), some (0, 0, a1), none, none] [] σ := fw_on hG [22, 30, 34, 57, 69, 89, 94, 97, 123] 200 h
theorem fs_readTune_94 {G : fw_K} {R : fw_KR} (hG : fw_cls st_readTune R G) {a1 b0 : Int} {σ : ab_SG} (h : G 97 [some (2, 48, 0), some (0, 0, a1), some (0, 0, b0), some (0, 0, 0)] [] σ) : G 94 [some (2, 48, 0), some (0, 0, a1), none, none] [(0, 0, b0)] σ := fw_on hG [22, 30, 34, 57, 69, 89, 94, 97, 123] 200 h
theorem fs_readTune_97 {G : fw_K} {R : fw_KR} (hG : fw_cls st_readTune R G) {a1 a2 a3 : Int} {σ : ab_SG} (h : (fw_c 9 ≤ fw_c a3 → (0 ≤ fw_c a2 ∧ fw_c a2 ≤ 1) ∧ R (some (0, 0, a2)) σ) ∧ (fw_c a3 < fw_c 9 → (fw_c a2 = 0 → (0 ≤ fw_c a2 ∧ fw_c a2 ≤ 1) ∧ R (some (0, 0, a2)) σ) ∧ (fw_c a2 ≠ 0 → (fw_c (σ 1 5) ≠ fw_c 3 → (0 ≤ fw_c a2 ∧ fw_c a2 ≤ 1) ∧ R (some (0, 0, a2)) σ) ∧ (fw_c (σ 1 5) = fw_c 3 → sp_readNote [(2, 48, 0), (0, 0, a1)] σ (fun rv σ2 => G 123 [some (2, 48, 0), some (0, 0, a1), some (0, 0, a2), some (0, 0, a3)] (rv.toList ++ []) σ2))))) : G 97 [some (2, 48, 0), some (0, 0, a1), some (0, 0, a2), some (0, 0, a3)] [] σ := fw_on hG [22, 30, 34, 57, 69, 89, 94, 97, 123] 200 h
theorem fs_readTune_123 {G : fw_K} {R : fw_KR} (hG : fw_cls st_readTune R G) {a1 a2 a3 b0 : Int} {σ : ab_SG} (h : G 97 [some (2, 48, 0), some (0, 0, a1), some (0, 0, b0), some (0, 0, a3 + 1)] [] σ) : G 123 [some (2, 48, 0), some (0, 0, a1), some (0, 0, a2), some (0, 0, a3)] [(0, 0, b0)] σ := fw_on hG [22, 30, 34, 57, 69, 89, 94, 97, 123] 200 h
abbrev fk_readClue : List fw_CR := [(107, 1, true, 8, 0, sp_refuse), (113, 0, true, 8, 2, sp_step), (116, 0, true, 7, 1, sp_isNewName), (127, 3, false, 0, 0, sp_putl), (134, 3, false, 0, 0, sp_put), (166, 1, true, 7, 4, sp_readLeft)]
abbrev st_readClue : fw_K → fw_KR → fw_K := fw_st vwCl nn_sh nn_kd fw_kv fw_wc (nn_KI3.map (fun x => x.1)) (nn_KJ3.map (fun x => x.1)) (nn_PF3.map (fun x => x.1)) (nn_PS3.map (fun x => x.1)) fk_readClue 5 nn_dt31 4 1
theorem fs_readClue_0 {G : fw_K} {R : fw_KR} (hG : fw_cls st_readClue R G) {σ : ab_SG} (h : (fw_c (σ 49 12) < fw_c 6 → sp_step [(2, 1, 0)] σ (fun rv σ2 => G 30 [some (2, 48, 0), some (0, 0, σ 49 12), none, none] (rv.toList ++ []) σ2)) ∧ (fw_c 6 ≤ fw_c (σ 49 12) → sp_refuse [(2, 1, 0), (0, 0, 4)] σ (fun rv σ2 => G 22 [some (2, 48, 0), some (0, 0, σ 49 12), none, none] (rv.toList ++ []) σ2))) : G 0 [some (2, 48, 0), none, none, none] [] σ := fw_on hG [22, 30, 34, 57, 69, 89, 94, 97, 123] 200 h
theorem fs_readClue_30 {G : fw_K} {R : fw_KR} (hG : fw_cls st_readClue R G) {a1 : Int} {σ : ab_SG} (h : sp_isNewName [(2, 48, 0)] σ (fun rv σ2 => G 34 [some (2, 48, 0), some (0, 0, a1), none, none] (rv.toList ++ []) σ2)) : G 30 [some (2, 48, 0), some (0, 0, a1), none, none] [] σ := fw_on hG [22, 30, 34, 57, 69, 89, 94, 97, 123] 200 h
theorem fs_readClue_22 {G : fw_K} {R : fw_KR} (hG : fw_cls st_readClue R G) {a1 b0 : Int} {σ : ab_SG} (h : (0 ≤ fw_c b0 ∧ fw_c b0 ≤ 1) ∧ R (some (0, 0, b0)) σ) : G 22 [some (2, 48, 0), some (0, 0, a1), none, none] [(0, 0, b0)] σ := fw_on hG [22, 30, 34, 57, 69, 89, 94, 97, 123] 200 h
theorem fs_readClue_34 {G : fw_K} {R : fw_KR} (hG : fw_cls st_readClue R G) {a1 b0 : Int} {σ : ab_SG} (h : (fw_c b0 ≠ 0 → sp_putl [(2, 58, 0), (0, 0, a1), (1, 0, σ 1 6)] σ (fun rv σ2 => G 57 [some (2, 48, 0), some (0, 0, a1), none, none] (rv.toList ++ []) σ2)) ∧ (fw_c b0 = 0 → (0 ≤ fw_c 0 ∧ fw_c 0 ≤ 1) ∧ R (some (0, 0, 0)) σ)) : G 34 [some (2, 48, 0), some (0, 0, a1), none, none] [(0, 0, b0)] σ := fw_on hG [22, 30, 34, 57, 69, 89, 94, 97, 123] 200 h
theorem fs_readClue_57 {G : fw_K} {R : fw_KR} (hG : fw_cls st_readClue R G) {a1 : Int} {σ : ab_SG} (h : sp_put [(2, 54, 0), (0, 0, a1), (0, 0, 0)] σ (fun rv σ2 => G 69 [some (2, 48, 0), some (0, 0, a1), none, none] (rv.toList ++ []) σ2)) : G 57 [some (2, 48, 0), some (0, 0, a1), none, none] [] σ := fw_on hG [22, 30, 34, 57, 69, 89, 94, 97, 123] 200 h
theorem fs_readClue_69 {G : fw_K} {R : fw_KR} (hG : fw_cls st_readClue R G) {a1 : Int} {σ : ab_SG} (h : sp_step [(2, 1, 0)] (ab_ups σ 49 12 (fw_c ((σ 49 12) + 1))) (fun rv σ2 => G 89 [some (2, 48, 0), some (0, 0, a1), none, none] (rv.toList ++ []) σ2)) : G 69 [some (2, 48, 0), some (0, 0, a1), none, none] [] σ := fw_on hG [22, 30, 34, 57, 69, 89, 94, 97, 123] 200 h
theorem fs_readClue_89 {G : fw_K} {R : fw_KR} (hG : fw_cls st_readClue R G) {a1 : Int} {σ : ab_SG} (h : sp_readLeft [(2, 48, 0), (0, 0, a1)] σ (fun rv σ2 => G 94 [some (2, 48, 0), some (0, 0, a1), none, none] (rv.toList ++ []) σ2)) : G 89 [some (2, 48, 0), some (0, 0, a1), none, none] [] σ := fw_on hG [22, 30, 34, 57, 69, 89, 94, 97, 123] 200 h
theorem fs_readClue_94 {G : fw_K} {R : fw_KR} (hG : fw_cls st_readClue R G) {a1 b0 : Int} {σ : ab_SG} (h : G 97 [some (2, 48, 0), some (0, 0, a1), some (0, 0, b0), some (0, 0, 0)] [] σ) : G 94 [some (2, 48, 0), some (0, 0, a1), none, none] [(0, 0, b0)] σ := fw_on hG [22, 30, 34, 57, 69, 89, 94, 97, 123] 200 h
theorem fs_readClue_97 {G : fw_K} {R : fw_KR} (hG : fw_cls st_readClue R G) {a1 a2 a3 : Int} {σ : ab_SG} (h : (fw_c 9 ≤ fw_c a3 → (0 ≤ fw_c a2 ∧ fw_c a2 ≤ 1) ∧ R (some (0, 0, a2)) σ) ∧ (fw_c a3 < fw_c 9 → (fw_c a2 = 0 → (0 ≤ fw_c a2 ∧ fw_c a2 ≤ 1) ∧ R (some (0, 0, a2)) σ) ∧ (fw_c a2 ≠ 0 → (fw_c (σ 1 5) ≠ fw_c 2 → (0 ≤ fw_c a2 ∧ fw_c a2 ≤ 1) ∧ R (some (0, 0, a2)) σ) ∧ (fw_c (σ 1 5) = fw_c 2 → sp_readLeft [(2, 48, 0), (0, 0, a1)] σ (fun rv σ2 => G 123 [some (2, 48, 0), some (0, 0, a1), some (0, 0, a2), some (0, 0, a3)] (rv.toList ++ []) σ2))))) : G 97 [some (2, 48, 0), some (0, 0, a1), some (0, 0, a2), some (0, 0, a3)] [] σ := fw_on hG [22, 30, 34, 57, 69, 89, 94, 97, 123] 200 h
theorem fs_readClue_123 {G : fw_K} {R : fw_KR} (hG : fw_cls st_readClue R G) {a1 a2 a3 b0 : Int} {σ : ab_SG} (h : G 97 [some (2, 48, 0), some (0, 0, a1), some (0, 0, b0), some (0, 0, a3 + 1)] [] σ) : G 123 [some (2, 48, 0), some (0, 0, a1), some (0, 0, a2), some (0, 0, a3)] [(0, 0, b0)] σ := fw_on hG [22, 30, 34, 57, 69, 89, 94, 97, 123] 200 h
abbrev fk_readPerson : List fw_CR := [(107, 1, true, 8, 0, sp_refuse), (113, 0, true, 8, 2, sp_step), (116, 0, true, 7, 1, sp_isNewName), (127, 3, false, 0, 0, sp_putl)]
abbrev st_readPerson : fw_K → fw_KR → fw_K := fw_st vwCl nn_sh nn_kd fw_kv fw_wc (nn_KI3.map (fun x => x.1)) (nn_KJ3.map (fun x => x.1)) (nn_PF3.map (fun x => x.1)) (nn_PS3.map (fun x => x.1)) fk_readPerson 4 nn_dt35 2 1
theorem fs_readPerson_0 {G : fw_K} {R : fw_KR} (hG : fw_cls st_readPerson R G) {σ : ab_SG} (h : (fw_c (σ 49 13) < fw_c 5 → sp_step [(2, 1, 0)] σ (fun rv σ2 => G 29 [some (2, 48, 0), some (0, 0, σ 49 13)] (rv.toList ++ []) σ2)) ∧ (fw_c 5 ≤ fw_c (σ 49 13) → sp_refuse [(2, 1, 0), (0, 0, 4)] σ (fun rv σ2 => G 21 [some (2, 48, 0), some (0, 0, σ 49 13)] (rv.toList ++ []) σ2))) : G 0 [some (2, 48, 0), none] [] σ := fw_on hG [21, 29, 33, 56, 76] 200 h
theorem fs_readPerson_29 {G : fw_K} {R : fw_KR} (hG : fw_cls st_readPerson R G) {a1 : Int} {σ : ab_SG} (h : sp_isNewName [(2, 48, 0)] σ (fun rv σ2 => G 33 [some (2, 48, 0), some (0, 0, a1)] (rv.toList ++ []) σ2)) : G 29 [some (2, 48, 0), some (0, 0, a1)] [] σ := fw_on hG [21, 29, 33, 56, 76] 200 h
theorem fs_readPerson_21 {G : fw_K} {R : fw_KR} (hG : fw_cls st_readPerson R G) {a1 b0 : Int} {σ : ab_SG} (h : (0 ≤ fw_c b0 ∧ fw_c b0 ≤ 1) ∧ R (some (0, 0, b0)) σ) : G 21 [some (2, 48, 0), some (0, 0, a1)] [(0, 0, b0)] σ := fw_on hG [21, 29, 33, 56, 76] 200 h
theorem fs_readPerson_33 {G : fw_K} {R : fw_KR} (hG : fw_cls st_readPerson R G) {a1 b0 : Int} {σ : ab_SG} (h : (fw_c b0 ≠ 0 → sp_putl [(2, 59, 0), (0, 0, a1), (1, 0, σ 1 6)] σ (fun rv σ2 => G 56 [some (2, 48, 0), some (0, 0, a1)] (rv.toList ++ []) σ2)) ∧ (fw_c b0 = 0 → (0 ≤ fw_c 0 ∧ fw_c 0 ≤ 1) ∧ R (some (0, 0, 0)) σ)) : G 33 [some (2, 48, 0), some (0, 0, a1)] [(0, 0, b0)] σ := fw_on hG [21, 29, 33, 56, 76] 200 h
theorem fs_readPerson_56 {G : fw_K} {R : fw_KR} (hG : fw_cls st_readPerson R G) {a1 : Int} {σ : ab_SG} (h : sp_step [(2, 1, 0)] (ab_ups σ 49 13 (fw_c ((σ 49 13) + 1))) (fun rv σ2 => G 76 [some (2, 48, 0), some (0, 0, a1)] (rv.toList ++ []) σ2)) : G 56 [some (2, 48, 0), some (0, 0, a1)] [] σ := fw_on hG [21, 29, 33, 56, 76] 200 h
theorem fs_readPerson_76 {G : fw_K} {R : fw_KR} (hG : fw_cls st_readPerson R G) {a1 : Int} {σ : ab_SG} (h : (0 ≤ fw_c 1 ∧ fw_c 1 ≤ 1) ∧ R (some (0, 0, 1)) σ) : G 76 [some (2, 48, 0), some (0, 0, a1)] [] σ := fw_on hG [21, 29, 33, 56, 76] 200 h
abbrev fk_readKnows : List fw_CR := [(107, 1, true, 8, 0, sp_refuse), (113, 0, true, 8, 2, sp_step), (134, 3, false, 0, 0, sp_put), (140, 2, false, 0, 0, sp_at), (144, 2, true, 8, 1, sp_needNumber), (169, 2, true, 8, 1, sp_seek), (173, 2, false, 0, 0, sp_has), (188, 3, true, 6, 1, sp_setNinth49)]
abbrev st_readKnows : fw_K → fw_KR → fw_K := fw_st vwCl nn_sh nn_kd fw_kv fw_wc (nn_KI3.map (fun x => x.1)) (nn_KJ3.map (fun x => x.1)) (nn_PF3.map (fun x => x.1)) (nn_PS3.map (fun x => x.1)) fk_readKnows 4 nn_dt36 5 1
theorem fs_readKnows_0 {G : fw_K} {R : fw_KR} (hG : fw_cls st_readKnows R G) {σ : ab_SG} (h : sp_step [(2, 1, 0)] σ (fun rv σ2 => G 7 [some (2, 48, 0), none, none, none, none] (rv.toList ++ []) σ2)) : G 0 [some (2, 48, 0), none, none, none, none] [] σ := fw_on hG [7, 28, 51, 72, 88, 96, 107, 132, 139, 149, 170, 177] 200 h
theorem fs_readKnows_7 {G : fw_K} {R : fw_KR} (hG : fw_cls st_readKnows R G) {σ : ab_SG} (h : sp_seek [(2, 1, 0), (2, 59, 0), (0, 0, σ 49 13)] σ (fun rv σ2 => G 28 [some (2, 48, 0), none, none, none, none] (rv.toList ++ []) σ2)) : G 7 [some (2, 48, 0), none, none, none, none] [] σ := fw_on hG [7, 28, 51, 72, 88, 96, 107, 132, 139, 149, 170, 177] 200 h
theorem fs_readKnows_28 {G : fw_K} {R : fw_KR} (hG : fw_cls st_readKnows R G) {b0 : Int} {σ : ab_SG} (h : (fw_c b0 ≠ fw_c (-1) → sp_step [(2, 1, 0)] σ (fun rv σ2 => G 51 [some (2, 48, 0), some (0, 0, b0), some (0, 0, σ 1 4), none, none] (rv.toList ++ []) σ2)) ∧ (fw_c b0 = fw_c (-1) → (0 ≤ fw_c 0 ∧ fw_c 0 ≤ 1) ∧ R (some (0, 0, 0)) σ)) : G 28 [some (2, 48, 0), none, none, none, none] [(0, 0, b0)] σ := fw_on hG [7, 28, 51, 72, 88, 96, 107, 132, 139, 149, 170, 177] 200 h
theorem fs_readKnows_51 {G : fw_K} {R : fw_KR} (hG : fw_cls st_readKnows R G) {a1 a2 : Int} {σ : ab_SG} (h : sp_seek [(2, 1, 0), (2, 57, 0), (0, 0, σ 49 11)] σ (fun rv σ2 => G 72 [some (2, 48, 0), some (0, 0, a1), some (0, 0, a2), none, none] (rv.toList ++ []) σ2)) : G 51 [some (2, 48, 0), some (0, 0, a1), some (0, 0, a2), none, none] [] σ := fw_on hG [7, 28, 51, 72, 88, 96, 107, 132, 139, 149, 170, 177] 200 h
theorem fs_readKnows_72 {G : fw_K} {R : fw_KR} (hG : fw_cls st_readKnows R G) {a1 a2 b0 : Int} {σ : ab_SG} (h : (fw_c b0 ≠ fw_c (-1) → sp_at [(2, 64, 0), (0, 0, a1)] σ (fun rv σ2 => G 88 [some (2, 48, 0), some (0, 0, a1), some (0, 0, a2), some (0, 0, b0), none] (rv.toList ++ []) σ2)) ∧ (fw_c b0 = fw_c (-1) → (0 ≤ fw_c 0 ∧ fw_c 0 ≤ 1) ∧ R (some (0, 0, 0)) σ)) : G 72 [some (2, 48, 0), some (0, 0, a1), some (0, 0, a2), none, none] [(0, 0, b0)] σ := fw_on hG [7, 28, 51, 72, 88, 96, 107, 132, 139, 149, 170, 177] 200 h
theorem fs_readKnows_88 {G : fw_K} {R : fw_KR} (hG : fw_cls st_readKnows R G) {a1 a2 a3 b0 : Int} {σ : ab_SG} (h : sp_has [(0, 0, b0), (0, 0, a3)] σ (fun rv σ2 => G 96 [some (2, 48, 0), some (0, 0, a1), some (0, 0, a2), some (0, 0, a3), some (0, 0, b0)] (rv.toList ++ []) σ2)) : G 88 [some (2, 48, 0), some (0, 0, a1), some (0, 0, a2), some (0, 0, a3), none] [(0, 0, b0)] σ := fw_on hG [7, 28, 51, 72, 88, 96, 107, 132, 139, 149, 170, 177] 200 h
theorem fs_readKnows_96 {G : fw_K} {R : fw_KR} (hG : fw_cls st_readKnows R G) {a1 a2 a3 a4 b0 : Int} {σ : ab_SG} (h : (fw_c b0 = 0 → sp_put [(2, 64, 0), (0, 0, a1), (0, 0, fw_op 9 a4 (fw_op 5 1 a3))] σ (fun rv σ2 => G 132 [some (2, 48, 0), some (0, 0, a1), some (0, 0, a2), some (0, 0, a3), some (0, 0, a4)] (rv.toList ++ []) σ2)) ∧ (fw_c b0 ≠ 0 → sp_refuse [(2, 1, 0), (0, 0, 3)] σ (fun rv σ2 => G 107 [some (2, 48, 0), some (0, 0, a1), some (0, 0, a2), some (0, 0, a3), some (0, 0, a4)] (rv.toList ++ []) σ2))) : G 96 [some (2, 48, 0), some (0, 0, a1), some (0, 0, a2), some (0, 0, a3), some (0, 0, a4)] [(0, 0, b0)] σ := fw_on hG [7, 28, 51, 72, 88, 96, 107, 132, 139, 149, 170, 177] 200 h
theorem fs_readKnows_132 {G : fw_K} {R : fw_KR} (hG : fw_cls st_readKnows R G) {a1 a2 a3 a4 : Int} {σ : ab_SG} (h : sp_step [(2, 1, 0)] σ (fun rv σ2 => G 139 [some (2, 48, 0), some (0, 0, a1), some (0, 0, a2), some (0, 0, a3), some (0, 0, a4)] (rv.toList ++ []) σ2)) : G 132 [some (2, 48, 0), some (0, 0, a1), some (0, 0, a2), some (0, 0, a3), some (0, 0, a4)] [] σ := fw_on hG [7, 28, 51, 72, 88, 96, 107, 132, 139, 149, 170, 177] 200 h
theorem fs_readKnows_107 {G : fw_K} {R : fw_KR} (hG : fw_cls st_readKnows R G) {a1 a2 a3 a4 b0 : Int} {σ : ab_SG} (h : (0 ≤ fw_c 0 ∧ fw_c 0 ≤ 1) ∧ R (some (0, 0, 0)) (ab_ups σ 1 10 (fw_c a2))) : G 107 [some (2, 48, 0), some (0, 0, a1), some (0, 0, a2), some (0, 0, a3), some (0, 0, a4)] [(0, 0, b0)] σ := fw_on hG [7, 28, 51, 72, 88, 96, 107, 132, 139, 149, 170, 177] 200 h
theorem fs_readKnows_139 {G : fw_K} {R : fw_KR} (hG : fw_cls st_readKnows R G) {a1 a2 a3 a4 : Int} {σ : ab_SG} (h : sp_needNumber [(2, 1, 0), (0, 0, 0), (0, 0, 9)] σ (fun rv σ2 => G 149 [some (2, 48, 0), some (0, 0, a1), some (0, 0, a2), some (0, 0, a3), some (0, 0, a4)] (rv.toList ++ []) σ2)) : G 139 [some (2, 48, 0), some (0, 0, a1), some (0, 0, a2), some (0, 0, a3), some (0, 0, a4)] [] σ := fw_on hG [7, 28, 51, 72, 88, 96, 107, 132, 139, 149, 170, 177] 200 h
theorem fs_readKnows_149 {G : fw_K} {R : fw_KR} (hG : fw_cls st_readKnows R G) {a1 a2 a3 a4 b0 : Int} {σ : ab_SG} (h : (fw_c b0 ≠ 0 → sp_setNinth49 [(2, 49, 0), (0, 0, a1), (0, 0, a3), (0, 0, σ 1 8)] σ (fun rv σ2 => G 170 [some (2, 48, 0), some (0, 0, a1), some (0, 0, a2), some (0, 0, a3), some (0, 0, a4)] (rv.toList ++ []) σ2)) ∧ (fw_c b0 = 0 → (0 ≤ fw_c 0 ∧ fw_c 0 ≤ 1) ∧ R (some (0, 0, 0)) σ)) : G 149 [some (2, 48, 0), some (0, 0, a1), some (0, 0, a2), some (0, 0, a3), some (0, 0, a4)] [(0, 0, b0)] σ := fw_on hG [7, 28, 51, 72, 88, 96, 107, 132, 139, 149, 170, 177] 200 h
theorem fs_readKnows_170 {G : fw_K} {R : fw_KR} (hG : fw_cls st_readKnows R G) {a1 a2 a3 a4 : Int} {σ : ab_SG} (h : sp_step [(2, 1, 0)] σ (fun rv σ2 => G 177 [some (2, 48, 0), some (0, 0, a1), some (0, 0, a2), some (0, 0, a3), some (0, 0, a4)] (rv.toList ++ []) σ2)) : G 170 [some (2, 48, 0), some (0, 0, a1), some (0, 0, a2), some (0, 0, a3), some (0, 0, a4)] [] σ := fw_on hG [7, 28, 51, 72, 88, 96, 107, 132, 139, 149, 170, 177] 200 h
theorem fs_readKnows_177 {G : fw_K} {R : fw_KR} (hG : fw_cls st_readKnows R G) {a1 a2 a3 a4 : Int} {σ : ab_SG} (h : (0 ≤ fw_c 1 ∧ fw_c 1 ≤ 1) ∧ R (some (0, 0, 1)) σ) : G 177 [some (2, 48, 0), some (0, 0, a1), some (0, 0, a2), some (0, 0, a3), some (0, 0, a4)] [] σ := fw_on hG [7, 28, 51, 72, 88, 96, 107, 132, 139, 149, 170, 177] 200 h
abbrev fk_readDare : List fw_CR := [(107, 1, true, 8, 0, sp_refuse), (113, 0, true, 8, 2, sp_step), (134, 3, false, 0, 0, sp_put), (144, 2, true, 8, 1, sp_needNumber), (169, 2, true, 8, 1, sp_seek), (173, 2, false, 0, 0, sp_has)]
abbrev st_readDare : fw_K → fw_KR → fw_K := fw_st vwCl nn_sh nn_kd fw_kv fw_wc (nn_KI3.map (fun x => x.1)) (nn_KJ3.map (fun x => x.1)) (nn_PF3.map (fun x => x.1)) (nn_PS3.map (fun x => x.1)) fk_readDare 4 nn_dt38 2 1
theorem fs_readDare_0 {G : fw_K} {R : fw_KR} (hG : fw_cls st_readDare R G) {σ : ab_SG} (h : sp_step [(2, 1, 0)] σ (fun rv σ2 => G 7 [some (2, 48, 0), none] (rv.toList ++ []) σ2)) : G 0 [some (2, 48, 0), none] [] σ := fw_on hG [7, 28, 44, 55, 75, 85, 108, 115] 200 h
theorem fs_readDare_7 {G : fw_K} {R : fw_KR} (hG : fw_cls st_readDare R G) {σ : ab_SG} (h : sp_seek [(2, 1, 0), (2, 59, 0), (0, 0, σ 49 13)] σ (fun rv σ2 => G 28 [some (2, 48, 0), none] (rv.toList ++ []) σ2)) : G 7 [some (2, 48, 0), none] [] σ := fw_on hG [7, 28, 44, 55, 75, 85, 108, 115] 200 h
theorem fs_readDare_28 {G : fw_K} {R : fw_KR} (hG : fw_cls st_readDare R G) {b0 : Int} {σ : ab_SG} (h : (fw_c b0 ≠ fw_c (-1) → sp_has [(0, 0, σ 48 3), (0, 0, b0)] σ (fun rv σ2 => G 44 [some (2, 48, 0), some (0, 0, b0)] (rv.toList ++ []) σ2)) ∧ (fw_c b0 = fw_c (-1) → (0 ≤ fw_c 0 ∧ fw_c 0 ≤ 1) ∧ R (some (0, 0, 0)) σ)) : G 28 [some (2, 48, 0), none] [(0, 0, b0)] σ := fw_on hG [7, 28, 44, 55, 75, 85, 108, 115] 200 h
theorem fs_readDare_44 {G : fw_K} {R : fw_KR} (hG : fw_cls st_readDare R G) {a1 b0 : Int} {σ : ab_SG} (h : (fw_c b0 = 0 → sp_step [(2, 1, 0)] (ab_ups σ 48 3 (fw_c (fw_op 9 (σ 48 3) (fw_op 5 1 a1)))) (fun rv σ2 => G 75 [some (2, 48, 0), some (0, 0, a1)] (rv.toList ++ []) σ2)) ∧ (fw_c b0 ≠ 0 → sp_refuse [(2, 1, 0), (0, 0, 3)] σ (fun rv σ2 => G 55 [some (2, 48, 0), some (0, 0, a1)] (rv.toList ++ []) σ2))) : G 44 [some (2, 48, 0), some (0, 0, a1)] [(0, 0, b0)] σ := fw_on hG [7, 28, 44, 55, 75, 85, 108, 115] 200 h
theorem fs_readDare_75 {G : fw_K} {R : fw_KR} (hG : fw_cls st_readDare R G) {a1 : Int} {σ : ab_SG} (h : sp_needNumber [(2, 1, 0), (0, 0, 0), (0, 0, 9)] σ (fun rv σ2 => G 85 [some (2, 48, 0), some (0, 0, a1)] (rv.toList ++ []) σ2)) : G 75 [some (2, 48, 0), some (0, 0, a1)] [] σ := fw_on hG [7, 28, 44, 55, 75, 85, 108, 115] 200 h
theorem fs_readDare_55 {G : fw_K} {R : fw_KR} (hG : fw_cls st_readDare R G) {a1 b0 : Int} {σ : ab_SG} (h : (0 ≤ fw_c b0 ∧ fw_c b0 ≤ 1) ∧ R (some (0, 0, b0)) σ) : G 55 [some (2, 48, 0), some (0, 0, a1)] [(0, 0, b0)] σ := fw_on hG [7, 28, 44, 55, 75, 85, 108, 115] 200 h
theorem fs_readDare_85 {G : fw_K} {R : fw_KR} (hG : fw_cls st_readDare R G) {a1 b0 : Int} {σ : ab_SG} (h : (fw_c b0 ≠ 0 → sp_put [(2, 56, 0), (0, 0, a1), (0, 0, σ 1 8)] σ (fun rv σ2 => G 108 [some (2, 48, 0), some (0, 0, a1)] (rv.toList ++ []) σ2)) ∧ (fw_c b0 = 0 → (0 ≤ fw_c 0 ∧ fw_c 0 ≤ 1) ∧ R (some (0, 0, 0)) σ)) : G 85 [some (2, 48, 0), some (0, 0, a1)] [(0, 0, b0)] σ := fw_on hG [7, 28, 44, 55, 75, 85, 108, 115] 200 h
theorem fs_readDare_108 {G : fw_K} {R : fw_KR} (hG : fw_cls st_readDare R G) {a1 : Int} {σ : ab_SG} (h : sp_step [(2, 1, 0)] σ (fun rv σ2 => G 115 [some (2, 48, 0), some (0, 0, a1)] (rv.toList ++ []) σ2)) : G 108 [some (2, 48, 0), some (0, 0, a1)] [] σ := fw_on hG [7, 28, 44, 55, 75, 85, 108, 115] 200 h
theorem fs_readDare_115 {G : fw_K} {R : fw_KR} (hG : fw_cls st_readDare R G) {a1 : Int} {σ : ab_SG} (h : (0 ≤ fw_c 1 ∧ fw_c 1 ≤ 1) ∧ R (some (0, 0, 1)) σ) : G 115 [some (2, 48, 0), some (0, 0, a1)] [] σ := fw_on hG [7, 28, 44, 55, 75, 85, 108, 115] 200 h
abbrev fk_readFrom : List fw_CR := [(107, 1, true, 8, 0, sp_refuse), (113, 0, true, 8, 2, sp_step), (144, 2, true, 8, 1, sp_needNumber)]
abbrev st_readFrom : fw_K → fw_KR → fw_K := fw_st vwCl nn_sh nn_kd fw_kv fw_wc (nn_KI3.map (fun x => x.1)) (nn_KJ3.map (fun x => x.1)) (nn_PF3.map (fun x => x.1)) (nn_PS3.map (fun x => x.1)) fk_readFrom 4 nn_dt39 1 1
theorem fs_readFrom_0 {G : fw_K} {R : fw_KR} (hG : fw_cls st_readFrom R G) {σ : ab_SG} (h : (fw_c (σ 48 4) = 0 → (0 ≤ fw_c 1 ∧ fw_c 1 ≤ 1) ∧ (sp_step [(2, 1, 0)] (ab_ups σ 48 4 (fw_c 1)) (fun rv σ2 => G 28 [some (2, 48, 0)] (rv.toList ++ []) σ2))) ∧ (fw_c (σ 48 4) ≠ 0 → sp_refuse [(2, 1, 0), (0, 0, 3)] σ (fun rv σ2 => G 15 [some (2, 48, 0)] (rv.toList ++ []) σ2))) : G 0 [some (2, 48, 0)] [] σ := fw_on hG [15, 28, 38, 64] 200 h
theorem fs_readFrom_28 {G : fw_K} {R : fw_KR} (hG : fw_cls st_readFrom R G) {σ : ab_SG} (h : sp_needNumber [(2, 1, 0), (0, 0, 1), (0, 0, 9)] σ (fun rv σ2 => G 38 [some (2, 48, 0)] (rv.toList ++ []) σ2)) : G 28 [some (2, 48, 0)] [] σ := fw_on hG [15, 28, 38, 64] 200 h
theorem fs_readFrom_15 {G : fw_K} {R : fw_KR} (hG : fw_cls st_readFrom R G) {b0 : Int} {σ : ab_SG} (h : (0 ≤ fw_c b0 ∧ fw_c b0 ≤ 1) ∧ R (some (0, 0, b0)) σ) : G 15 [some (2, 48, 0)] [(0, 0, b0)] σ := fw_on hG [15, 28, 38, 64] 200 h
theorem fs_readFrom_38 {G : fw_K} {R : fw_KR} (hG : fw_cls st_readFrom R G) {b0 : Int} {σ : ab_SG} (h : (fw_c b0 ≠ 0 → sp_step [(2, 1, 0)] (ab_ups σ 49 14 (fw_c (σ 1 8))) (fun rv σ2 => G 64 [some (2, 48, 0)] (rv.toList ++ []) σ2)) ∧ (fw_c b0 = 0 → (0 ≤ fw_c 0 ∧ fw_c 0 ≤ 1) ∧ R (some (0, 0, 0)) σ)) : G 38 [some (2, 48, 0)] [(0, 0, b0)] σ := fw_on hG [15, 28, 38, 64] 200 h
theorem fs_readFrom_64 {G : fw_K} {R : fw_KR} (hG : fw_cls st_readFrom R G) {σ : ab_SG} (h : (0 ≤ fw_c 1 ∧ fw_c 1 ≤ 1) ∧ R (some (0, 0, 1)) σ) : G 64 [some (2, 48, 0)] [] σ := fw_on hG [15, 28, 38, 64] 200 h
abbrev fk_readLine : List fw_CR := [(70, 1, true, 8, 0, sp_isWord), (74, 0, true, 7, 5, sp_readTune), (80, 0, true, 7, 5, sp_readClue), (86, 0, true, 7, 4, sp_readPerson), (92, 0, true, 7, 4, sp_readKnows), (98, 0, true, 7, 4, sp_readDare), (104, 0, true, 7, 4, sp_readFrom), (107, 1, true, 8, 0, sp_refuse)]
abbrev st_readLine : fw_K → fw_KR → fw_K := fw_st vwCl nn_sh nn_kd fw_kv fw_wc (nn_KI3.map (fun x => x.1)) (nn_KJ3.map (fun x => x.1)) (nn_PF3.map (fun x => x.1)) (nn_PS3.map (fun x => x.1)) fk_readLine 6 nn_dt19 1 1
theorem fs_readLine_0 {G : fw_K} {R : fw_KR} (hG : fw_cls st_readLine R G) {σ : ab_SG} (h : sp_isWord [(2, 1, 0), (4, 0, 0)] σ (fun rv σ2 => G 10 [some (2, 48, 0)] (rv.toList ++ []) σ2)) : G 0 [some (2, 48, 0)] [] σ := fw_on hG [10, 17, 28, 35, 46, 53, 64, 71, 82, 89, 100, 107, 118] 200 h
theorem fs_readLine_10 {G : fw_K} {R : fw_KR} (hG : fw_cls st_readLine R G) {b0 : Int} {σ : ab_SG} (h : (fw_c b0 = 0 → sp_isWord [(2, 1, 0), (4, 0, 1)] σ (fun rv σ2 => G 28 [some (2, 48, 0)] (rv.toList ++ []) σ2)) ∧ (fw_c b0 ≠ 0 → sp_readTune [(2, 48, 0)] σ (fun rv σ2 => G 17 [some (2, 48, 0)] (rv.toList ++ []) σ2))) : G 10 [some (2, 48, 0)] [(0, 0, b0)] σ := fw_on hG [10, 17, 28, 35, 46, 53, 64, 71, 82, 89, 100, 107, 118] 200 h
theorem fs_readLine_28 {G : fw_K} {R : fw_KR} (hG : fw_cls st_readLine R G) {b0 : Int} {σ : ab_SG} (h : (fw_c b0 = 0 → sp_isWord [(2, 1, 0), (4, 0, 2)] σ (fun rv σ2 => G 46 [some (2, 48, 0)] (rv.toList ++ []) σ2)) ∧ (fw_c b0 ≠ 0 → sp_readClue [(2, 48, 0)] σ (fun rv σ2 => G 35 [some (2, 48, 0)] (rv.toList ++ []) σ2))) : G 28 [some (2, 48, 0)] [(0, 0, b0)] σ := fw_on hG [10, 17, 28, 35, 46, 53, 64, 71, 82, 89, 100, 107, 118] 200 h
theorem fs_readLine_17 {G : fw_K} {R : fw_KR} (hG : fw_cls st_readLine R G) {b0 : Int} {σ : ab_SG} (h : (0 ≤ fw_c b0 ∧ fw_c b0 ≤ 1) ∧ R (some (0, 0, b0)) σ) : G 17 [some (2, 48, 0)] [(0, 0, b0)] σ := fw_on hG [10, 17, 28, 35, 46, 53, 64, 71, 82, 89, 100, 107, 118] 200 h
theorem fs_readLine_46 {G : fw_K} {R : fw_KR} (hG : fw_cls st_readLine R G) {b0 : Int} {σ : ab_SG} (h : (fw_c b0 = 0 → sp_isWord [(2, 1, 0), (4, 0, 3)] σ (fun rv σ2 => G 64 [some (2, 48, 0)] (rv.toList ++ []) σ2)) ∧ (fw_c b0 ≠ 0 → sp_readPerson [(2, 48, 0)] σ (fun rv σ2 => G 53 [some (2, 48, 0)] (rv.toList ++ []) σ2))) : G 46 [some (2, 48, 0)] [(0, 0, b0)] σ := fw_on hG [10, 17, 28, 35, 46, 53, 64, 71, 82, 89, 100, 107, 118] 200 h
theorem fs_readLine_35 {G : fw_K} {R : fw_KR} (hG : fw_cls st_readLine R G) {b0 : Int} {σ : ab_SG} (h : (0 ≤ fw_c b0 ∧ fw_c b0 ≤ 1) ∧ R (some (0, 0, b0)) σ) : G 35 [some (2, 48, 0)] [(0, 0, b0)] σ := fw_on hG [10, 17, 28, 35, 46, 53, 64, 71, 82, 89, 100, 107, 118] 200 h
theorem fs_readLine_64 {G : fw_K} {R : fw_KR} (hG : fw_cls st_readLine R G) {b0 : Int} {σ : ab_SG} (h : (fw_c b0 = 0 → sp_isWord [(2, 1, 0), (4, 0, 4)] σ (fun rv σ2 => G 82 [some (2, 48, 0)] (rv.toList ++ []) σ2)) ∧ (fw_c b0 ≠ 0 → sp_readKnows [(2, 48, 0)] σ (fun rv σ2 => G 71 [some (2, 48, 0)] (rv.toList ++ []) σ2))) : G 64 [some (2, 48, 0)] [(0, 0, b0)] σ := fw_on hG [10, 17, 28, 35, 46, 53, 64, 71, 82, 89, 100, 107, 118] 200 h
theorem fs_readLine_53 {G : fw_K} {R : fw_KR} (hG : fw_cls st_readLine R G) {b0 : Int} {σ : ab_SG} (h : (0 ≤ fw_c b0 ∧ fw_c b0 ≤ 1) ∧ R (some (0, 0, b0)) σ) : G 53 [some (2, 48, 0)] [(0, 0, b0)] σ := fw_on hG [10, 17, 28, 35, 46, 53, 64, 71, 82, 89, 100, 107, 118] 200 h
theorem fs_readLine_82 {G : fw_K} {R : fw_KR} (hG : fw_cls st_readLine R G) {b0 : Int} {σ : ab_SG} (h : (fw_c b0 = 0 → sp_isWord [(2, 1, 0), (4, 0, 5)] σ (fun rv σ2 => G 100 [some (2, 48, 0)] (rv.toList ++ []) σ2)) ∧ (fw_c b0 ≠ 0 → sp_readDare [(2, 48, 0)] σ (fun rv σ2 => G 89 [some (2, 48, 0)] (rv.toList ++ []) σ2))) : G 82 [some (2, 48, 0)] [(0, 0, b0)] σ := fw_on hG [10, 17, 28, 35, 46, 53, 64, 71, 82, 89, 100, 107, 118] 200 h
theorem fs_readLine_71 {G : fw_K} {R : fw_KR} (hG : fw_cls st_readLine R G) {b0 : Int} {σ : ab_SG} (h : (0 ≤ fw_c b0 ∧ fw_c b0 ≤ 1) ∧ R (some (0, 0, b0)) σ) : G 71 [some (2, 48, 0)] [(0, 0, b0)] σ := fw_on hG [10, 17, 28, 35, 46, 53, 64, 71, 82, 89, 100, 107, 118] 200 h
theorem fs_readLine_100 {G : fw_K} {R : fw_KR} (hG : fw_cls st_readLine R G) {b0 : Int} {σ : ab_SG} (h : (fw_c b0 = 0 → sp_refuse [(2, 1, 0), (0, 0, 1)] σ (fun rv σ2 => G 118 [some (2, 48, 0)] (rv.toList ++ []) σ2)) ∧ (fw_c b0 ≠ 0 → sp_readFrom [(2, 48, 0)] σ (fun rv σ2 => G 107 [some (2, 48, 0)] (rv.toList ++ []) σ2))) : G 100 [some (2, 48, 0)] [(0, 0, b0)] σ := fw_on hG [10, 17, 28, 35, 46, 53, 64, 71, 82, 89, 100, 107, 118] 200 h
theorem fs_readLine_89 {G : fw_K} {R : fw_KR} (hG : fw_cls st_readLine R G) {b0 : Int} {σ : ab_SG} (h : (0 ≤ fw_c b0 ∧ fw_c b0 ≤ 1) ∧ R (some (0, 0, b0)) σ) : G 89 [some (2, 48, 0)] [(0, 0, b0)] σ := fw_on hG [10, 17, 28, 35, 46, 53, 64, 71, 82, 89, 100, 107, 118] 200 h
theorem fs_readLine_118 {G : fw_K} {R : fw_KR} (hG : fw_cls st_readLine R G) {b0 : Int} {σ : ab_SG} (h : (0 ≤ fw_c b0 ∧ fw_c b0 ≤ 1) ∧ R (some (0, 0, b0)) σ) : G 118 [some (2, 48, 0)] [(0, 0, b0)] σ := fw_on hG [10, 17, 28, 35, 46, 53, 64, 71, 82, 89, 100, 107, 118] 200 h
theorem fs_readLine_107 {G : fw_K} {R : fw_KR} (hG : fw_cls st_readLine R G) {b0 : Int} {σ : ab_SG} (h : G 118 [some (2, 48, 0)] [(0, 0, b0)] σ) : G 107 [some (2, 48, 0)] [(0, 0, b0)] σ := fw_on hG [10, 17, 28, 35, 46, 53, 64, 71, 82, 89, 100, 107, 118] 200 h
theorem tn9_loop {G : fw_K} {K : fw_KR} (hG : fw_cls st_readTune K G) {x : Int} (hx : 0 ≤ x ∧ x < 9) {σ0 : ab_SG} {e : tk_E} : ∀ (f i : Nat) (σ A : ab_SG) (p : Nat), i + f = 9 → ab_okM rd_M σ0 σ → RD σ A e p → ((pr_notes e x f A p).1 ≠ 0 → rd_no σ0 (pr_notes e x f A p).1 K 0) →
    ((pr_notes e x f A p).1 = 0 → ∀ σ' : ab_SG, ab_okM rd_M σ0 σ' → RD σ' (pr_notes e x f A p).2.1 e (pr_notes e x f A p).2.2 → K (some (0, 0, 1)) σ') → G 97 [some (2, 48, 0), some (0, 0, x), some (0, 0, 1), some (0, 0, (i : Int))] [] σ := by
  intro f
  have z9 : fw_c 9 = 9 := fw_c_id (by decide) (by decide)
  have zk : fw_c 3 = 3 := fw_c_id (by decide) (by decide)
  induction f with
  | zero =>
    intro i σ A p hi hM h h0 h1
    have ei : fw_c (i : Int) = i := fw_c_id (by omega) (by omega)
    refine fs_readTune_97 hG ?_
    rw [z9, ei]
    exact ⟨fun _ => ⟨fw_11, h1 rfl σ hM h⟩, fun q => absurd q (by omega)⟩
  | succ f ih =>
    intro i σ A p hi hM h h0 h1
    have ei : fw_c (i : Int) = i := fw_c_id (by omega) (by omega)
    unfold pr_notes at h0 h1
    refine fs_readTune_97 hG ?_
    rw [z9, ei, h.kind.2, zk]
    refine ⟨fun q => absurd q (by omega), fun _ => ⟨fun q => absurd (fw_c1.symm.trans q) (by decide), fun _ => ⟨fun q => ⟨fw_11, ?_⟩, fun q => ?_⟩⟩⟩
    · rw [if_pos q] at h1
      exact h1 rfl σ hM h
    · rw [if_neg (fun y => y q)] at h0 h1
      refine ⟨x, A, e, p, rfl, h, hx, fun q2 => ?_, fun q2 => ?_⟩
      · rw [if_pos q2] at h0
        refine fun σ' a b => fs_readTune_123 hG (fs_readTune_97 hG ⟨fun _ => ⟨fw_01, h0 q2 σ' (fw_okM_tr hM a (by decide)) b⟩, fun _ => ⟨fun _ => ⟨fw_01, h0 q2 σ' (fw_okM_tr hM a (by decide)) b⟩, fun y => absurd fw_c0 y⟩⟩)
      · rw [if_neg (fun y => y q2)] at h0 h1
        exact fun σ' a b => fs_readTune_123 hG (ih (i + 1) σ' _ _ (by omega) (fw_okM_tr hM a (by decide)) b h0 h1)
section
variable {l : Launch} {cy : Nat → ClassId} {ad wr cr : Nat → Nat} {D : va_G}
theorem fm_readTune (hinj : nn_inj ad) : fw_H l cy ad wr cr D 21 5 sp_readTune := fw_mk hinj (⟨"NameNotes$StudioReader", "readTune", "()Z"⟩, prog_9_method_4_code, 4, (Option.some Jvm.ClassFile.FieldType.boolean), 0, true, 1) rfl rfl nn_KI3_ok nn_KJ3_ok nn_PF3_ok nn_PS3_ok (by decide +kernel) rfl rfl (List.forall_mem_cons.mpr ⟨fw_row nn_PM3_ok (x := 107) (k := 0) (mn := 22) (np := 1) (ob := true) (ci := 8) (⟨"NameNotes$Tape", "refuse", "(I)Z"⟩, prog_10_method_14_code, 2, (Option.some Jvm.ClassFile.FieldType.boolean), 1, true, 1) rfl (by decide +kernel) rfl rfl (by decide) (fun _ => ⟨_, _, rfl⟩) (fm_refuse hinj), (List.forall_mem_cons.mpr ⟨fw_row nn_PM3_ok (x := 113) (k := 0) (mn := 10) (np := 0) (ob := true) (ci := 8) (⟨"NameNotes$Tape", "step", "()V"⟩, prog_10_method_5_code, 2, (Option.none : Option Jvm.ClassFile.FieldType), 0, true, 4) rfl (by decide +kernel) rfl rfl (by decide) (fun _ => ⟨_, _, rfl⟩) (fm_step hinj), (List.forall_mem_cons.mpr ⟨fw_row nn_PM3_ok (x := 116) (k := 0) (mn := 23) (np := 0) (ob := true) (ci := 7) (⟨"NameNotes$StudioReader", "isNewName", "()Z"⟩, prog_9_method_12_code, 2, (Option.some Jvm.ClassFile.FieldType.boolean), 0, true, 1) rfl (by decide +kernel) rfl rfl (by decide) (fun _ => ⟨_, _, rfl⟩) (fm_isNewName hinj), (List.forall_mem_cons.mpr ⟨fw_row nn_PM3_ok (x := 127) (k := 2) (mn := 26) (np := 3) (ob := false) (ci := 0) (⟨"NameNotes", "put", "([JIJ)V"⟩, prog_1_method_87_code, 4, (Option.none : Option Jvm.ClassFile.FieldType), 3, false, 4) rfl (by decide +kernel) rfl rfl (by decide) (fun q => by cases q) (fm_putl hinj), (List.forall_mem_cons.mpr ⟨fw_row nn_PM3_ok (x := 134) (k := 2) (mn := 27) (np := 3) (ob := false) (ci := 0) (⟨"NameNotes", "put", "([III)V"⟩, prog_1_method_86_code, 3, (Option.none : Option Jvm.ClassFile.FieldType), 3, false, 4) rfl (by decide +kernel) rfl rfl (by decide) (fun q => by cases q) (fm_put hinj), (List.forall_mem_cons.mpr ⟨fw_row nn_PM3_ok (x := 137) (k := 0) (mn := 28) (np := 1) (ob := true) (ci := 7) (⟨"NameNotes$StudioReader", "readNote", "(I)Z"⟩, prog_9_method_5_code, 3, (Option.some Jvm.ClassFile.FieldType.boolean), 1, true, 1) rfl (by decide +kernel) rfl rfl (by decide) (fun _ => ⟨_, _, rfl⟩) (fm_readNote hinj), (fun _ h => absurd h List.not_mem_nil)⟩)⟩)⟩)⟩)⟩)⟩) (fun as σ K h => by
  obtain ⟨A, e, p, rfl, h, h0, h1⟩ := h
  have hi := h.2.1
  have b1 : σ 49 11 = A 49 11 := h.pl rfl
  have zm : fw_c 9 = 9 := fw_c_id (by decide) (by decide)
  have z4 : fw_c 4 = 4 := fw_c_id (by decide) (by decide)
  have ea : fw_c (A 49 11) = A 49 11 := fw_c_id (by omega) (by omega)
  unfold pr_tune at h0 h1
  refine ⟨rfl, fun G hG => fs_readTune_0 hG ?_⟩
  rw [b1, ea, zm]
  refine ⟨fun q => ?_, fun q => ⟨_, rfl, fs_readTune_22 hG ⟨fw_01, ?_⟩⟩⟩
  · rw [if_neg (show ¬ 9 ≤ A 49 11 by omega)] at h0 h1
    refine ⟨rfl, h.st.1, fun σ2 M2 S2 => fs_readTune_30 hG ?_⟩
    have H2 := h.st.2 σ2 M2 S2
    have N2 : ab_okM rd_M σ σ2 := fw_okM_tr (fw_okM_refl _ _) M2 (by decide)
    refine ⟨A, e, tn e p, rfl, H2, fun q2 => ?_, fun q2 qk => fs_readTune_34 hG ⟨fun _ => ?_, fun y => absurd (fw_c1.symm.trans y) (by decide)⟩⟩
    · rw [if_pos q2] at h0
      exact fun σ' a b => fs_readTune_34 hG ⟨fun y => absurd fw_c0 y, fun _ => ⟨fw_01, h0 q2 σ' (fw_okM_tr N2 a (by decide)) b⟩⟩
    · rw [if_neg (fun y => y q2)] at h0 h1
      have hw := H2.word qk
      generalize hx : A 49 11 = x at h0 h1 q ea hi ⊢
      have hx0 : 0 ≤ x ∧ x < 9 := by rw [← hx]; omega
      refine ⟨(57, 9), by decide, _, _, rfl, fun _ => fs_readTune_57 hG ?_, fun y => absurd (by rw [ea]; show 0 ≤ x ∧ x < 9; exact hx0) y⟩
      rw [ea, hw.2, hw.1]
      have dw : fw_d (pr_wd e (tn e p)) = pr_wd e (tn e p) := by rw [← hw.1]; exact hw.2
      have I3 : RI (ab_ups A 57 x.toNat (pr_wd e (tn e p))) := ⟨H2.2.1.1, H2.2.1.2.1, H2.2.1.2.2.1, (fun j hj => by
        by_cases ej : j = x.toNat
        · rw [ej, ab_ups_eq]; exact dw
        · rw [ab_ups_ne (fun y => ej y.2)]; exact H2.2.1.2.2.2.1 j hj), H2.2.1.2.2.2.2.1, H2.2.1.2.2.2.2.2.1, H2.2.1.2.2.2.2.2.2.1, H2.2.1.2.2.2.2.2.2.2⟩
      have H3 := H2.ups (k := 57) (j := x.toNat) (v := pr_wd e (tn e p)) (by decide) I3
      have M3 : ab_okM rd_M σ (ab_ups σ2 57 x.toNat (pr_wd e (tn e p))) := fw_okM_upa N2 (by decide)
      generalize ab_ups σ2 57 x.toNat (pr_wd e (tn e p)) = σ3 at H3 M3 ⊢
      refine ⟨(52, 9), by decide, _, _, rfl, fun _ => fs_readTune_69 hG ?_, fun y => absurd (by rw [ea]; show 0 ≤ x ∧ x < 9; exact hx0) y⟩
      rw [ea, fw_c0]
      have I4 : RI (ab_ups (ab_ups A 57 x.toNat (pr_wd e (tn e p))) 52 x.toNat 0) := ⟨I3.1, I3.2.1, I3.2.2.1, I3.2.2.2.1, I3.2.2.2.2.1, I3.2.2.2.2.2.1, (fun j hj => by
        by_cases ej : j = x.toNat
        · rw [ej, ab_ups_eq]; decide
        · rw [ab_ups_ne (fun y => ej y.2)]; exact I3.2.2.2.2.2.2.1 j hj), I3.2.2.2.2.2.2.2⟩
      have H4 := H3.ups (k := 52) (j := x.toNat) (v := 0) (by decide) I4
      have M4 : ab_okM rd_M σ (ab_ups σ3 52 x.toNat 0) := fw_okM_upa M3 (by decide)
      generalize ab_ups σ3 52 x.toNat 0 = σ4 at H4 M4 ⊢
      have b4 : σ4 49 11 = x := by rw [H4.pl (k := 49) (j := 11) rfl, ab_ups_ne (fun z => absurd z.1 (by decide)), ab_ups_ne (fun z => absurd z.1 (by decide))]; exact hx
      have e1 : fw_c (x + 1) = x + 1 := fw_c_id (by omega) (by omega)
      rw [b4, e1]
      have I5 : RI (ab_ups (ab_ups (ab_ups A 57 x.toNat (pr_wd e (tn e p))) 52 x.toNat 0) 49 11 (x + 1)) := ⟨(by rw [ab_ups_eq]; omega), I4.2.1, I4.2.2.1, I4.2.2.2.1, I4.2.2.2.2.1, I4.2.2.2.2.2.1, I4.2.2.2.2.2.2.1, I4.2.2.2.2.2.2.2⟩
      have H5 := H4.ups (k := 49) (j := 11) (v := x + 1) (by decide) I5
      have M5 : ab_okM rd_M σ (ab_ups σ4 49 11 (x + 1)) := fw_okM_ups M4 (by decide)
      generalize ab_ups σ4 49 11 (x + 1) = σ5 at H5 M5 ⊢
      refine ⟨rfl, H5.st.1, fun σ6 M6 S6 => fs_readTune_89 hG ?_⟩
      have H6 := H5.st.2 σ6 M6 S6
      have N6 : ab_okM rd_M σ σ6 := fw_okM_tr M5 M6 (by decide)
      dsimp only at h0 h1
      refine ⟨x, _, e, _, rfl, H6, hx0, fun q3 => ?_, fun q3 => ?_⟩
      · rw [if_pos q3] at h0
        exact fun σ' a b => fs_readTune_94 hG (fs_readTune_97 hG ⟨fun _ => ⟨fw_01, h0 q3 σ' (fw_okM_tr N6 a (by decide)) b⟩, fun _ => ⟨fun _ => ⟨fw_01, h0 q3 σ' (fw_okM_tr N6 a (by decide)) b⟩, fun y => absurd fw_c0 y⟩⟩)
      · rw [if_neg (fun y => y q3)] at h0 h1
        exact fun σ' a b => fs_readTune_94 hG (tn9_loop hG hx0 9 0 σ' _ _ rfl (fw_okM_tr N6 a (by decide)) b h0 h1)
  · rw [if_pos q] at h0
    exact h0 (by first | decide | (dsimp only; decide)) _ (tp_rf_M 4) (by rw [tp_rf_9, z4]))
end
theorem cl9_loop {G : fw_K} {K : fw_KR} (hG : fw_cls st_readClue K G) {x : Int} (hx : 0 ≤ x ∧ x < 6) {σ0 : ab_SG} {e : tk_E} : ∀ (f i : Nat) (σ A : ab_SG) (p : Nat), i + f = 9 → ab_okM rd_M σ0 σ → RD σ A e p → ((pr_lefts e x f A p).1 ≠ 0 → rd_no σ0 (pr_lefts e x f A p).1 K 0) →
    ((pr_lefts e x f A p).1 = 0 → ∀ σ' : ab_SG, ab_okM rd_M σ0 σ' → RD σ' (pr_lefts e x f A p).2.1 e (pr_lefts e x f A p).2.2 → K (some (0, 0, 1)) σ') → G 97 [some (2, 48, 0), some (0, 0, x), some (0, 0, 1), some (0, 0, (i : Int))] [] σ := by
  intro f
  have z9 : fw_c 9 = 9 := fw_c_id (by decide) (by decide)
  have zk : fw_c 2 = 2 := fw_c_id (by decide) (by decide)
  induction f with
  | zero =>
    intro i σ A p hi hM h h0 h1
    have ei : fw_c (i : Int) = i := fw_c_id (by omega) (by omega)
    refine fs_readClue_97 hG ?_
    rw [z9, ei]
    exact ⟨fun _ => ⟨fw_11, h1 rfl σ hM h⟩, fun q => absurd q (by omega)⟩
  | succ f ih =>
    intro i σ A p hi hM h h0 h1
    have ei : fw_c (i : Int) = i := fw_c_id (by omega) (by omega)
    unfold pr_lefts at h0 h1
    refine fs_readClue_97 hG ?_
    rw [z9, ei, h.kind.2, zk]
    refine ⟨fun q => absurd q (by omega), fun _ => ⟨fun q => absurd (fw_c1.symm.trans q) (by decide), fun _ => ⟨fun q => ⟨fw_11, ?_⟩, fun q => ?_⟩⟩⟩
    · rw [if_pos q] at h1
      exact h1 rfl σ hM h
    · rw [if_neg (fun y => y q)] at h0 h1
      refine ⟨x, A, e, p, rfl, h, hx, fun q2 => ?_, fun q2 => ?_⟩
      · rw [if_pos q2] at h0
        refine fun σ' a b => fs_readClue_123 hG (fs_readClue_97 hG ⟨fun _ => ⟨fw_01, h0 q2 σ' (fw_okM_tr hM a (by decide)) b⟩, fun _ => ⟨fun _ => ⟨fw_01, h0 q2 σ' (fw_okM_tr hM a (by decide)) b⟩, fun y => absurd fw_c0 y⟩⟩)
      · rw [if_neg (fun y => y q2)] at h0 h1
        exact fun σ' a b => fs_readClue_123 hG (ih (i + 1) σ' _ _ (by omega) (fw_okM_tr hM a (by decide)) b h0 h1)
section
variable {l : Launch} {cy : Nat → ClassId} {ad wr cr : Nat → Nat} {D : va_G}
theorem fm_readClue (hinj : nn_inj ad) : fw_H l cy ad wr cr D 31 5 sp_readClue := fw_mk hinj (⟨"NameNotes$StudioReader", "readClue", "()Z"⟩, prog_9_method_6_code, 4, (Option.some Jvm.ClassFile.FieldType.boolean), 0, true, 1) rfl rfl nn_KI3_ok nn_KJ3_ok nn_PF3_ok nn_PS3_ok (by decide +kernel) rfl rfl (List.forall_mem_cons.mpr ⟨fw_row nn_PM3_ok (x := 107) (k := 0) (mn := 22) (np := 1) (ob := true) (ci := 8) (⟨"NameNotes$Tape", "refuse", "(I)Z"⟩, prog_10_method_14_code, 2, (Option.some Jvm.ClassFile.FieldType.boolean), 1, true, 1) rfl (by decide +kernel) rfl rfl (by decide) (fun _ => ⟨_, _, rfl⟩) (fm_refuse hinj), (List.forall_mem_cons.mpr ⟨fw_row nn_PM3_ok (x := 113) (k := 0) (mn := 10) (np := 0) (ob := true) (ci := 8) (⟨"NameNotes$Tape", "step", "()V"⟩, prog_10_method_5_code, 2, (Option.none : Option Jvm.ClassFile.FieldType), 0, true, 4) rfl (by decide +kernel) rfl rfl (by decide) (fun _ => ⟨_, _, rfl⟩) (fm_step hinj), (List.forall_mem_cons.mpr ⟨fw_row nn_PM3_ok (x := 116) (k := 0) (mn := 23) (np := 0) (ob := true) (ci := 7) (⟨"NameNotes$StudioReader", "isNewName", "()Z"⟩, prog_9_method_12_code, 2, (Option.some Jvm.ClassFile.FieldType.boolean), 0, true, 1) rfl (by decide +kernel) rfl rfl (by decide) (fun _ => ⟨_, _, rfl⟩) (fm_isNewName hinj), (List.forall_mem_cons.mpr ⟨fw_row nn_PM3_ok (x := 127) (k := 2) (mn := 26) (np := 3) (ob := false) (ci := 0) (⟨"NameNotes", "put", "([JIJ)V"⟩, prog_1_method_87_code, 4, (Option.none : Option Jvm.ClassFile.FieldType), 3, false, 4) rfl (by decide +kernel) rfl rfl (by decide) (fun q => by cases q) (fm_putl hinj), (List.forall_mem_cons.mpr ⟨fw_row nn_PM3_ok (x := 134) (k := 2) (mn := 27) (np := 3) (ob := false) (ci := 0) (⟨"NameNotes", "put", "([III)V"⟩, prog_1_method_86_code, 3, (Option.none : Option Jvm.ClassFile.FieldType), 3, false, 4) rfl (by decide +kernel) rfl rfl (by decide) (fun q => by cases q) (fm_put hinj), (List.forall_mem_cons.mpr ⟨fw_row nn_PM3_ok (x := 166) (k := 0) (mn := 32) (np := 1) (ob := true) (ci := 7) (⟨"NameNotes$StudioReader", "readLeft", "(I)Z"⟩, prog_9_method_7_code, 4, (Option.some Jvm.ClassFile.FieldType.boolean), 1, true, 1) rfl (by decide +kernel) rfl rfl (by decide) (fun _ => ⟨_, _, rfl⟩) (fm_readLeft hinj), (fun _ h => absurd h List.not_mem_nil)⟩)⟩)⟩)⟩)⟩)⟩) (fun as σ K h => by
  obtain ⟨A, e, p, rfl, h, h0, h1⟩ := h
  have hi := h.2.1
  have b1 : σ 49 12 = A 49 12 := h.pl rfl
  have zm : fw_c 6 = 6 := fw_c_id (by decide) (by decide)
  have z4 : fw_c 4 = 4 := fw_c_id (by decide) (by decide)
  have ea : fw_c (A 49 12) = A 49 12 := fw_c_id (by omega) (by omega)
  unfold pr_clue at h0 h1
  refine ⟨rfl, fun G hG => fs_readClue_0 hG ?_⟩
  rw [b1, ea, zm]
  refine ⟨fun q => ?_, fun q => ⟨_, rfl, fs_readClue_22 hG ⟨fw_01, ?_⟩⟩⟩
  · rw [if_neg (show ¬ 6 ≤ A 49 12 by omega)] at h0 h1
    refine ⟨rfl, h.st.1, fun σ2 M2 S2 => fs_readClue_30 hG ?_⟩
    have H2 := h.st.2 σ2 M2 S2
    have N2 : ab_okM rd_M σ σ2 := fw_okM_tr (fw_okM_refl _ _) M2 (by decide)
    refine ⟨A, e, tn e p, rfl, H2, fun q2 => ?_, fun q2 qk => fs_readClue_34 hG ⟨fun _ => ?_, fun y => absurd (fw_c1.symm.trans y) (by decide)⟩⟩
    · rw [if_pos q2] at h0
      exact fun σ' a b => fs_readClue_34 hG ⟨fun y => absurd fw_c0 y, fun _ => ⟨fw_01, h0 q2 σ' (fw_okM_tr N2 a (by decide)) b⟩⟩
    · rw [if_neg (fun y => y q2)] at h0 h1
      have hw := H2.word qk
      generalize hx : A 49 12 = x at h0 h1 q ea hi ⊢
      have hx0 : 0 ≤ x ∧ x < 6 := by rw [← hx]; omega
      refine ⟨(58, 6), by decide, _, _, rfl, fun _ => fs_readClue_57 hG ?_, fun y => absurd (by rw [ea]; show 0 ≤ x ∧ x < 6; exact hx0) y⟩
      rw [ea, hw.2, hw.1]
      have dw : fw_d (pr_wd e (tn e p)) = pr_wd e (tn e p) := by rw [← hw.1]; exact hw.2
      have I3 : RI (ab_ups A 58 x.toNat (pr_wd e (tn e p))) := ⟨H2.2.1.1, H2.2.1.2.1, H2.2.1.2.2.1, H2.2.1.2.2.2.1, (fun j hj => by
        by_cases ej : j = x.toNat
        · rw [ej, ab_ups_eq]; exact dw
        · rw [ab_ups_ne (fun y => ej y.2)]; exact H2.2.1.2.2.2.2.1 j hj), H2.2.1.2.2.2.2.2.1, H2.2.1.2.2.2.2.2.2.1, H2.2.1.2.2.2.2.2.2.2⟩
      have H3 := H2.ups (k := 58) (j := x.toNat) (v := pr_wd e (tn e p)) (by decide) I3
      have M3 : ab_okM rd_M σ (ab_ups σ2 58 x.toNat (pr_wd e (tn e p))) := fw_okM_upa N2 (by decide)
      generalize ab_ups σ2 58 x.toNat (pr_wd e (tn e p)) = σ3 at H3 M3 ⊢
      refine ⟨(54, 6), by decide, _, _, rfl, fun _ => fs_readClue_69 hG ?_, fun y => absurd (by rw [ea]; show 0 ≤ x ∧ x < 6; exact hx0) y⟩
      rw [ea, fw_c0]
      have I4 : RI (ab_ups (ab_ups A 58 x.toNat (pr_wd e (tn e p))) 54 x.toNat 0) := I3
      have H4 := H3.ups (k := 54) (j := x.toNat) (v := 0) (by decide) I4
      have M4 : ab_okM rd_M σ (ab_ups σ3 54 x.toNat 0) := fw_okM_upa M3 (by decide)
      generalize ab_ups σ3 54 x.toNat 0 = σ4 at H4 M4 ⊢
      have b4 : σ4 49 12 = x := by rw [H4.pl (k := 49) (j := 12) rfl, ab_ups_ne (fun z => absurd z.1 (by decide)), ab_ups_ne (fun z => absurd z.1 (by decide))]; exact hx
      have e1 : fw_c (x + 1) = x + 1 := fw_c_id (by omega) (by omega)
      rw [b4, e1]
      have I5 : RI (ab_ups (ab_ups (ab_ups A 58 x.toNat (pr_wd e (tn e p))) 54 x.toNat 0) 49 12 (x + 1)) := ⟨I4.1, (by rw [ab_ups_eq]; omega), I4.2.2.1, I4.2.2.2.1, I4.2.2.2.2.1, I4.2.2.2.2.2.1, I4.2.2.2.2.2.2.1, I4.2.2.2.2.2.2.2⟩
      have H5 := H4.ups (k := 49) (j := 12) (v := x + 1) (by decide) I5
      have M5 : ab_okM rd_M σ (ab_ups σ4 49 12 (x + 1)) := fw_okM_ups M4 (by decide)
      generalize ab_ups σ4 49 12 (x + 1) = σ5 at H5 M5 ⊢
      refine ⟨rfl, H5.st.1, fun σ6 M6 S6 => fs_readClue_89 hG ?_⟩
      have H6 := H5.st.2 σ6 M6 S6
      have N6 : ab_okM rd_M σ σ6 := fw_okM_tr M5 M6 (by decide)
      dsimp only at h0 h1
      refine ⟨x, _, e, _, rfl, H6, hx0, fun q3 => ?_, fun q3 => ?_⟩
      · rw [if_pos q3] at h0
        exact fun σ' a b => fs_readClue_94 hG (fs_readClue_97 hG ⟨fun _ => ⟨fw_01, h0 q3 σ' (fw_okM_tr N6 a (by decide)) b⟩, fun _ => ⟨fun _ => ⟨fw_01, h0 q3 σ' (fw_okM_tr N6 a (by decide)) b⟩, fun y => absurd fw_c0 y⟩⟩)
      · rw [if_neg (fun y => y q3)] at h0 h1
        exact fun σ' a b => fs_readClue_94 hG (cl9_loop hG hx0 9 0 σ' _ _ rfl (fw_okM_tr N6 a (by decide)) b h0 h1)
  · rw [if_pos q] at h0
    exact h0 (by first | decide | (dsimp only; decide)) _ (tp_rf_M 4) (by rw [tp_rf_9, z4]))
end
section
variable {l : Launch} {cy : Nat → ClassId} {ad wr cr : Nat → Nat} {D : va_G}
theorem fm_readPerson (hinj : nn_inj ad) : fw_H l cy ad wr cr D 35 4 sp_readPerson := fw_mk hinj (⟨"NameNotes$StudioReader", "readPerson", "()Z"⟩, prog_9_method_8_code, 2, (Option.some Jvm.ClassFile.FieldType.boolean), 0, true, 1) rfl rfl nn_KI3_ok nn_KJ3_ok nn_PF3_ok nn_PS3_ok (by decide +kernel) rfl rfl (List.forall_mem_cons.mpr ⟨fw_row nn_PM3_ok (x := 107) (k := 0) (mn := 22) (np := 1) (ob := true) (ci := 8) (⟨"NameNotes$Tape", "refuse", "(I)Z"⟩, prog_10_method_14_code, 2, (Option.some Jvm.ClassFile.FieldType.boolean), 1, true, 1) rfl (by decide +kernel) rfl rfl (by decide) (fun _ => ⟨_, _, rfl⟩) (fm_refuse hinj), (List.forall_mem_cons.mpr ⟨fw_row nn_PM3_ok (x := 113) (k := 0) (mn := 10) (np := 0) (ob := true) (ci := 8) (⟨"NameNotes$Tape", "step", "()V"⟩, prog_10_method_5_code, 2, (Option.none : Option Jvm.ClassFile.FieldType), 0, true, 4) rfl (by decide +kernel) rfl rfl (by decide) (fun _ => ⟨_, _, rfl⟩) (fm_step hinj), (List.forall_mem_cons.mpr ⟨fw_row nn_PM3_ok (x := 116) (k := 0) (mn := 23) (np := 0) (ob := true) (ci := 7) (⟨"NameNotes$StudioReader", "isNewName", "()Z"⟩, prog_9_method_12_code, 2, (Option.some Jvm.ClassFile.FieldType.boolean), 0, true, 1) rfl (by decide +kernel) rfl rfl (by decide) (fun _ => ⟨_, _, rfl⟩) (fm_isNewName hinj), (List.forall_mem_cons.mpr ⟨fw_row nn_PM3_ok (x := 127) (k := 2) (mn := 26) (np := 3) (ob := false) (ci := 0) (⟨"NameNotes", "put", "([JIJ)V"⟩, prog_1_method_87_code, 4, (Option.none : Option Jvm.ClassFile.FieldType), 3, false, 4) rfl (by decide +kernel) rfl rfl (by decide) (fun q => by cases q) (fm_putl hinj), (fun _ h => absurd h List.not_mem_nil)⟩)⟩)⟩)⟩) (fun as σ K h => by
  obtain ⟨A, e, p, rfl, h, h0, h1⟩ := h
  have hi := h.2.1
  have b1 : σ 49 13 = A 49 13 := h.pl rfl
  have z5 : fw_c 5 = 5 := fw_c_id (by decide) (by decide)
  have z4 : fw_c 4 = 4 := fw_c_id (by decide) (by decide)
  have ea : fw_c (A 49 13) = A 49 13 := fw_c_id (by omega) (by omega)
  unfold pr_person at h0 h1
  refine ⟨rfl, fun G hG => fs_readPerson_0 hG ?_⟩
  rw [b1, ea, z5]
  refine ⟨fun q => ?_, fun q => ⟨_, rfl, fs_readPerson_21 hG ⟨fw_01, ?_⟩⟩⟩
  · rw [if_neg (show ¬ 5 ≤ A 49 13 by omega)] at h0 h1
    refine ⟨rfl, h.st.1, fun σ2 M2 S2 => fs_readPerson_29 hG ?_⟩
    have H2 := h.st.2 σ2 M2 S2
    have N2 : ab_okM rd_M σ σ2 := fw_okM_tr (fw_okM_refl _ _) M2 (by decide)
    refine ⟨A, e, tn e p, rfl, H2, fun q2 => ?_, fun q2 qk => fs_readPerson_33 hG ⟨fun _ => ?_, fun y => absurd (fw_c1.symm.trans y) (by decide)⟩⟩
    · rw [if_pos q2] at h0
      exact fun σ' a b => fs_readPerson_33 hG ⟨fun y => absurd fw_c0 y, fun _ => ⟨fw_01, h0 q2 σ' (fw_okM_tr N2 a (by decide)) b⟩⟩
    · rw [if_neg (fun y => y q2)] at h0 h1
      have hw := H2.word qk
      generalize hx : A 49 13 = x at h0 h1 q ea hi ⊢
      have hx0 : 0 ≤ x ∧ x < 5 := by rw [← hx]; omega
      refine ⟨(59, 5), by decide, _, _, rfl, fun _ => fs_readPerson_56 hG ?_, fun y => absurd (by rw [ea]; show 0 ≤ x ∧ x < 5; exact hx0) y⟩
      rw [ea, hw.2, hw.1]
      have dw : fw_d (pr_wd e (tn e p)) = pr_wd e (tn e p) := by rw [← hw.1]; exact hw.2
      have I3 : RI (ab_ups A 59 x.toNat (pr_wd e (tn e p))) := ⟨H2.2.1.1, H2.2.1.2.1, H2.2.1.2.2.1, H2.2.1.2.2.2.1, H2.2.1.2.2.2.2.1, fun j hj => by
        by_cases ej : j = x.toNat
        · rw [ej, ab_ups_eq]; exact dw
        · rw [ab_ups_ne (fun y => ej y.2)]; exact H2.2.1.2.2.2.2.2.1 j hj, H2.2.1.2.2.2.2.2.2.1, H2.2.1.2.2.2.2.2.2.2⟩
      have H3 := H2.ups (k := 59) (j := x.toNat) (v := pr_wd e (tn e p)) (by decide) I3
      have M3 : ab_okM rd_M σ (ab_ups σ2 59 x.toNat (pr_wd e (tn e p))) := fw_okM_upa N2 (by decide)
      generalize ab_ups σ2 59 x.toNat (pr_wd e (tn e p)) = σ3 at H3 M3 ⊢
      have b4 : σ3 49 13 = x := by rw [H3.pl (k := 49) (j := 13) rfl, ab_ups_ne (fun z => absurd z.1 (by decide))]; exact hx
      have e1 : fw_c (x + 1) = x + 1 := fw_c_id (by omega) (by omega)
      rw [b4, e1]
      have I5 : RI (ab_ups (ab_ups A 59 x.toNat (pr_wd e (tn e p))) 49 13 (x + 1)) := ⟨I3.1, I3.2.1, (by rw [ab_ups_eq]; omega), I3.2.2.2.1, I3.2.2.2.2.1, I3.2.2.2.2.2.1, I3.2.2.2.2.2.2.1, I3.2.2.2.2.2.2.2⟩
      have H5 := H3.ups (k := 49) (j := 13) (v := x + 1) (by decide) I5
      have M5 : ab_okM rd_M σ (ab_ups σ3 49 13 (x + 1)) := fw_okM_ups M3 (by decide)
      generalize ab_ups σ3 49 13 (x + 1) = σ5 at H5 M5 ⊢
      exact ⟨rfl, H5.st.1, fun σ6 M6 S6 => fs_readPerson_76 hG ⟨fw_11, h1 rfl σ6 (fw_okM_tr M5 M6 (by decide)) (H5.st.2 σ6 M6 S6)⟩⟩
  · rw [if_pos q] at h0
    exact h0 (by first | decide | (dsimp only; decide)) _ (tp_rf_M 4) (by rw [tp_rf_9, z4]))
theorem fm_readKnows (hinj : nn_inj ad) : fw_H l cy ad wr cr D 36 4 sp_readKnows := fw_mk hinj (⟨"NameNotes$StudioReader", "readKnows", "()Z"⟩, prog_9_method_9_code, 5, (Option.some Jvm.ClassFile.FieldType.boolean), 0, true, 1) rfl rfl nn_KI3_ok nn_KJ3_ok nn_PF3_ok nn_PS3_ok (by decide +kernel) rfl rfl (List.forall_mem_cons.mpr ⟨fw_row nn_PM3_ok (x := 107) (k := 0) (mn := 22) (np := 1) (ob := true) (ci := 8) (⟨"NameNotes$Tape", "refuse", "(I)Z"⟩, prog_10_method_14_code, 2, (Option.some Jvm.ClassFile.FieldType.boolean), 1, true, 1) rfl (by decide +kernel) rfl rfl (by decide) (fun _ => ⟨_, _, rfl⟩) (fm_refuse hinj), (List.forall_mem_cons.mpr ⟨fw_row nn_PM3_ok (x := 113) (k := 0) (mn := 10) (np := 0) (ob := true) (ci := 8) (⟨"NameNotes$Tape", "step", "()V"⟩, prog_10_method_5_code, 2, (Option.none : Option Jvm.ClassFile.FieldType), 0, true, 4) rfl (by decide +kernel) rfl rfl (by decide) (fun _ => ⟨_, _, rfl⟩) (fm_step hinj), (List.forall_mem_cons.mpr ⟨fw_row nn_PM3_ok (x := 134) (k := 2) (mn := 27) (np := 3) (ob := false) (ci := 0) (⟨"NameNotes", "put", "([III)V"⟩, prog_1_method_86_code, 3, (Option.none : Option Jvm.ClassFile.FieldType), 3, false, 4) rfl (by decide +kernel) rfl rfl (by decide) (fun q => by cases q) (fm_put hinj), (List.forall_mem_cons.mpr ⟨fw_row nn_PM3_ok (x := 140) (k := 2) (mn := 29) (np := 2) (ob := false) (ci := 0) (⟨"NameNotes", "at", "([II)I"⟩, prog_1_method_84_code, 2, (Option.some Jvm.ClassFile.FieldType.int), 2, false, 0) rfl (by decide +kernel) rfl rfl (by decide) (fun q => by cases q) (fm_at hinj), (List.forall_mem_cons.mpr ⟨fw_row nn_PM3_ok (x := 144) (k := 0) (mn := 30) (np := 2) (ob := true) (ci := 8) (⟨"NameNotes$Tape", "needNumber", "(II)Z"⟩, prog_10_method_12_code, 3, (Option.some Jvm.ClassFile.FieldType.boolean), 2, true, 1) rfl (by decide +kernel) rfl rfl (by decide) (fun _ => ⟨_, _, rfl⟩) (fm_needNumber hinj), (List.forall_mem_cons.mpr ⟨fw_row nn_PM3_ok (x := 169) (k := 0) (mn := 33) (np := 2) (ob := true) (ci := 8) (⟨"NameNotes$Tape", "seek", "([JI)I"⟩, prog_10_method_11_code, 4, (Option.some Jvm.ClassFile.FieldType.int), 2, true, 0) rfl (by decide +kernel) rfl rfl (by decide) (fun _ => ⟨_, _, rfl⟩) (fm_seek hinj), (List.forall_mem_cons.mpr ⟨fw_row nn_PM3_ok (x := 173) (k := 2) (mn := 34) (np := 2) (ob := false) (ci := 0) (⟨"NameNotes", "has", "(II)Z"⟩, prog_1_method_80_code, 2, (Option.some Jvm.ClassFile.FieldType.boolean), 2, false, 1) rfl (by decide +kernel) rfl rfl (by decide) (fun q => by cases q) (fm_has hinj), (List.forall_mem_cons.mpr ⟨fw_row nn_PM3_ok (x := 188) (k := 0) (mn := 37) (np := 3) (ob := true) (ci := 6) (⟨"NameNotes$Studio", "setNinth", "(III)V"⟩, prog_8_method_14_code, 4, (Option.none : Option Jvm.ClassFile.FieldType), 3, true, 4) rfl (by decide +kernel) rfl rfl (by decide) (fun _ => ⟨_, _, rfl⟩) (fm_setNinth49 hinj), (fun _ h => absurd h List.not_mem_nil)⟩)⟩)⟩)⟩)⟩)⟩)⟩)⟩) (fun as σ K h => by
  obtain ⟨A, e, p, rfl, h, h0, h1⟩ := h
  have hi := h.2.1
  have em : fw_c (-1) = -1 := fw_c_id (by decide) (by decide)
  have z3 : fw_c 3 = 3 := fw_c_id (by decide) (by decide)
  unfold pr_knows at h0 h1
  refine ⟨rfl, fun G hG => fs_readKnows_0 hG ⟨rfl, h.st.1, fun σ1 M1 S1 => fs_readKnows_7 hG ?_⟩⟩
  have H1 := h.st.2 σ1 M1 S1
  have N1 : ab_okM rd_M σ σ1 := fw_okM_tr (fw_okM_refl _ _) M1 (by decide)
  rw [H1.pl (k := 49) (j := 13) rfl]
  refine H1.seek (n := 5) (by decide) ⟨by omega, by show A 49 13 ≤ 5; omega⟩ (fun q => ?_) (fun q q1 q2 => ?_)
  · rw [if_pos q] at h0
    exact fun σ' a b => fs_readKnows_28 hG ⟨fun y => absurd rfl y, fun _ => ⟨fw_01, h0 q σ' (fw_okM_tr N1 a (by decide)) b⟩⟩
  rw [if_neg (fun y => y q)] at h0 h1
  generalize pr_ix A e 59 (A 49 13) (tn e p) = u at h0 h1 q1 q2 ⊢
  have eu : fw_c u = u := fw_c_id (by omega) (by omega)
  refine fs_readKnows_28 hG ⟨fun _ => ?_, fun y => absurd y (by rw [eu, em]; omega)⟩
  refine ⟨rfl, H1.st.1, fun σ2 M2 S2 => fs_readKnows_51 hG ?_⟩
  have H2 := H1.st.2 σ2 M2 S2
  have N2 : ab_okM rd_M σ σ2 := fw_okM_tr N1 M2 (by decide)
  rw [H2.pl (k := 49) (j := 11) rfl]
  refine H2.seek (n := 9) (by decide) ⟨by omega, by show A 49 11 ≤ 9; omega⟩ (fun p1 => ?_) (fun p1 r1 r2 => ?_)
  · rw [if_pos p1] at h0
    exact fun σ' a b => fs_readKnows_72 hG ⟨fun y => absurd rfl y, fun _ => ⟨fw_01, h0 p1 σ' (fw_okM_tr N2 a (by decide)) b⟩⟩
  rw [if_neg (fun y => y p1)] at h0 h1
  generalize pr_ix A e 57 (A 49 11) (tn e (tn e p)) = x at h0 h1 r1 r2 ⊢
  have ex : fw_c x = x := fw_c_id (by omega) (by omega)
  refine fs_readKnows_72 hG ⟨fun _ => ?_, fun y => absurd y (by rw [ex, em]; omega)⟩
  refine ⟨(64, 5), by decide, _, rfl, fun _ => ?_, fun y => absurd (by rw [eu]; show 0 ≤ u ∧ u < 5; omega) y⟩
  rw [eu, H2.pl (k := 64) (j := u.toNat) rfl]
  refine fs_readKnows_88 hG ⟨_, _, rfl, by rw [ex]; omega, ?_⟩
  refine fs_readKnows_96 hG ⟨fun y => ?_, fun y => ⟨_, rfl, fs_readKnows_107 hG ⟨fw_01, ?_⟩⟩⟩
  · have hf : pr_hs (A 64 u.toNat) x = false := by unfold pr_hs; exact decide_eq_false (fw_bo_eq y)
    rw [hf] at h0 h1
    replace h0 := h0
    refine ⟨(64, 5), by decide, _, _, rfl, fun _ => fs_readKnows_132 hG ?_, fun y => absurd (by rw [eu]; show 0 ≤ u ∧ u < 5; omega) y⟩
    rw [eu]
    have H3 := H2.ups (k := 64) (j := u.toNat) (v := pr_or (A 64 u.toNat) x) (by decide) hi
    have N3 : ab_okM rd_M σ (ab_ups σ2 64 u.toNat (pr_or (A 64 u.toNat) x)) := fw_okM_upa N2 (by decide)
    show sp_step [(2, 1, 0)] (ab_ups σ2 64 u.toNat (pr_or (A 64 u.toNat) x)) _
    generalize ab_ups σ2 64 u.toNat (pr_or (A 64 u.toNat) x) = σ3 at H3 N3 ⊢
    refine ⟨rfl, H3.st.1, fun σ4 M4 S4 => fs_readKnows_139 hG ?_⟩
    have H4 := H3.st.2 σ4 M4 S4
    have N4 : ab_okM rd_M σ σ4 := fw_okM_tr N3 M4 (by decide)
    refine H4.num (by decide) (fun p2 => ?_) (fun p2 p8 pa pb => ?_)
    · rw [if_neg (show ¬ false = true by decide), if_pos p2] at h0
      exact fun σ' a b => fs_readKnows_149 hG ⟨fun y => absurd fw_c0 y, fun _ => ⟨fw_01, h0 p2 σ' (fw_okM_tr N4 a (by decide)) b⟩⟩
    · rw [if_neg (show ¬ false = true by decide), if_neg (fun y => y p2)] at h1
      have ev : fw_c (σ4 1 8) = (tk e (tn e (tn e (tn e p)))).2.2.2.2 := by rw [p8]; exact fw_c_id (by omega) (by omega)
      refine fs_readKnows_149 hG ⟨fun _ => ⟨_, _, _, rfl, by omega, ?_⟩, fun y => absurd (fw_c1.symm.trans y) (by decide)⟩
      rw [ev]
      have H5 := H4.ups (k := 55) (j := (u * 9 + x).toNat) (v := (tk e (tn e (tn e (tn e p)))).2.2.2.2) (by decide) hi
      have N5 : ab_okM rd_M σ (ab_ups σ4 55 (u * 9 + x).toNat (tk e (tn e (tn e (tn e p)))).2.2.2.2) := fw_okM_upa N4 (by decide)
      generalize ab_ups σ4 55 (u * 9 + x).toNat (tk e (tn e (tn e (tn e p)))).2.2.2.2 = σ5 at H5 N5 ⊢
      refine fs_readKnows_170 hG ⟨rfl, H5.st.1, fun σ6 M6 S6 => fs_readKnows_177 hG ⟨fw_11, h1 rfl σ6 (fw_okM_tr N5 M6 (by decide)) (H5.st.2 σ6 M6 S6)⟩⟩
  · have hf : pr_hs (A 64 u.toNat) x = true := by unfold pr_hs; exact decide_eq_true (fw_bo_ne y)
    rw [hf] at h0
    rw [if_pos rfl] at h0
    refine h0 (by first | decide | (dsimp only; decide)) _ (fw_okM_ups (fw_okM_tr N2 (tp_rf_M 3) (by decide)) (by decide)) ?_
    rw [ab_ups_ne (by decide), tp_rf_9, z3])
theorem fm_readDare (hinj : nn_inj ad) : fw_H l cy ad wr cr D 38 4 sp_readDare := fw_mk hinj (⟨"NameNotes$StudioReader", "readDare", "()Z"⟩, prog_9_method_10_code, 2, (Option.some Jvm.ClassFile.FieldType.boolean), 0, true, 1) rfl rfl nn_KI3_ok nn_KJ3_ok nn_PF3_ok nn_PS3_ok (by decide +kernel) rfl rfl (List.forall_mem_cons.mpr ⟨fw_row nn_PM3_ok (x := 107) (k := 0) (mn := 22) (np := 1) (ob := true) (ci := 8) (⟨"NameNotes$Tape", "refuse", "(I)Z"⟩, prog_10_method_14_code, 2, (Option.some Jvm.ClassFile.FieldType.boolean), 1, true, 1) rfl (by decide +kernel) rfl rfl (by decide) (fun _ => ⟨_, _, rfl⟩) (fm_refuse hinj), (List.forall_mem_cons.mpr ⟨fw_row nn_PM3_ok (x := 113) (k := 0) (mn := 10) (np := 0) (ob := true) (ci := 8) (⟨"NameNotes$Tape", "step", "()V"⟩, prog_10_method_5_code, 2, (Option.none : Option Jvm.ClassFile.FieldType), 0, true, 4) rfl (by decide +kernel) rfl rfl (by decide) (fun _ => ⟨_, _, rfl⟩) (fm_step hinj), (List.forall_mem_cons.mpr ⟨fw_row nn_PM3_ok (x := 134) (k := 2) (mn := 27) (np := 3) (ob := false) (ci := 0) (⟨"NameNotes", "put", "([III)V"⟩, prog_1_method_86_code, 3, (Option.none : Option Jvm.ClassFile.FieldType), 3, false, 4) rfl (by decide +kernel) rfl rfl (by decide) (fun q => by cases q) (fm_put hinj), (List.forall_mem_cons.mpr ⟨fw_row nn_PM3_ok (x := 144) (k := 0) (mn := 30) (np := 2) (ob := true) (ci := 8) (⟨"NameNotes$Tape", "needNumber", "(II)Z"⟩, prog_10_method_12_code, 3, (Option.some Jvm.ClassFile.FieldType.boolean), 2, true, 1) rfl (by decide +kernel) rfl rfl (by decide) (fun _ => ⟨_, _, rfl⟩) (fm_needNumber hinj), (List.forall_mem_cons.mpr ⟨fw_row nn_PM3_ok (x := 169) (k := 0) (mn := 33) (np := 2) (ob := true) (ci := 8) (⟨"NameNotes$Tape", "seek", "([JI)I"⟩, prog_10_method_11_code, 4, (Option.some Jvm.ClassFile.FieldType.int), 2, true, 0) rfl (by decide +kernel) rfl rfl (by decide) (fun _ => ⟨_, _, rfl⟩) (fm_seek hinj), (List.forall_mem_cons.mpr ⟨fw_row nn_PM3_ok (x := 173) (k := 2) (mn := 34) (np := 2) (ob := false) (ci := 0) (⟨"NameNotes", "has", "(II)Z"⟩, prog_1_method_80_code, 2, (Option.some Jvm.ClassFile.FieldType.boolean), 2, false, 1) rfl (by decide +kernel) rfl rfl (by decide) (fun q => by cases q) (fm_has hinj), (fun _ h => absurd h List.not_mem_nil)⟩)⟩)⟩)⟩)⟩)⟩) (fun as σ K h => by
  obtain ⟨A, e, p, rfl, h, h0, h1⟩ := h
  have hi := h.2.1
  have em : fw_c (-1) = -1 := fw_c_id (by decide) (by decide)
  have z3 : fw_c 3 = 3 := fw_c_id (by decide) (by decide)
  unfold pr_dare at h0 h1
  refine ⟨rfl, fun G hG => fs_readDare_0 hG ⟨rfl, h.st.1, fun σ1 M1 S1 => fs_readDare_7 hG ?_⟩⟩
  have H1 := h.st.2 σ1 M1 S1
  have N1 : ab_okM rd_M σ σ1 := fw_okM_tr (fw_okM_refl _ _) M1 (by decide)
  rw [H1.pl (k := 49) (j := 13) rfl]
  refine H1.seek (n := 5) (by decide) ⟨by omega, by show A 49 13 ≤ 5; omega⟩ (fun q => ?_) (fun q q1 q2 => ?_)
  · rw [if_pos q] at h0
    exact fun σ' a b => fs_readDare_28 hG ⟨fun y => absurd rfl y, fun _ => ⟨fw_01, h0 q σ' (fw_okM_tr N1 a (by decide)) b⟩⟩
  rw [if_neg (fun y => y q)] at h0 h1
  generalize pr_ix A e 59 (A 49 13) (tn e p) = u at h0 h1 q1 q2 ⊢
  have eu : fw_c u = u := fw_c_id (by omega) (by omega)
  refine fs_readDare_28 hG ⟨fun _ => ?_, fun y => absurd y (by rw [eu, em]; omega)⟩
  rw [H1.pl (k := 48) (j := 3) rfl]
  refine ⟨_, _, rfl, by rw [eu]; omega, ?_⟩
  refine fs_readDare_44 hG ⟨fun y => ?_, fun y => ⟨_, rfl, fs_readDare_55 hG ⟨fw_01, ?_⟩⟩⟩
  · have hf : pr_hs (A 48 3) u = false := by unfold pr_hs; exact decide_eq_false (fw_bo_eq y)
    rw [hf] at h0 h1
    rw [H1.pl (k := 48) (j := 3) rfl]
    have H3 := H1.ups (k := 48) (j := 3) (v := pr_or (A 48 3) u) (by decide) hi
    have N3 : ab_okM rd_M σ (ab_ups σ1 48 3 (pr_or (A 48 3) u)) := fw_okM_ups N1 (by decide)
    show sp_step [(2, 1, 0)] (ab_ups σ1 48 3 (pr_or (A 48 3) u)) _
    generalize ab_ups σ1 48 3 (pr_or (A 48 3) u) = σ3 at H3 N3 ⊢
    refine ⟨rfl, H3.st.1, fun σ4 M4 S4 => fs_readDare_75 hG ?_⟩
    have H4 := H3.st.2 σ4 M4 S4
    have N4 : ab_okM rd_M σ σ4 := fw_okM_tr N3 M4 (by decide)
    refine H4.num (by decide) (fun p2 => ?_) (fun p2 p8 pa pb => ?_)
    · rw [if_neg (show ¬ false = true by decide), if_pos p2] at h0
      exact fun σ' a b => fs_readDare_85 hG ⟨fun y => absurd fw_c0 y, fun _ => ⟨fw_01, h0 p2 σ' (fw_okM_tr N4 a (by decide)) b⟩⟩
    · rw [if_neg (show ¬ false = true by decide), if_neg (fun y => y p2)] at h1
      have ev : fw_c (σ4 1 8) = (tk e (tn e (tn e p))).2.2.2.2 := by rw [p8]; exact fw_c_id (by omega) (by omega)
      refine fs_readDare_85 hG ⟨fun _ => ⟨(56, 5), by decide, _, _, rfl, fun _ => fs_readDare_108 hG ?_, fun y => absurd (by rw [eu]; show 0 ≤ u ∧ u < 5; omega) y⟩, fun y => absurd (fw_c1.symm.trans y) (by decide)⟩
      rw [ev, eu]
      have H5 := H4.ups (k := 56) (j := u.toNat) (v := (tk e (tn e (tn e p))).2.2.2.2) (by decide) hi
      have N5 : ab_okM rd_M σ (ab_ups σ4 56 u.toNat (tk e (tn e (tn e p))).2.2.2.2) := fw_okM_upa N4 (by decide)
      generalize ab_ups σ4 56 u.toNat (tk e (tn e (tn e p))).2.2.2.2 = σ5 at H5 N5 ⊢
      exact ⟨rfl, H5.st.1, fun σ6 M6 S6 => fs_readDare_115 hG ⟨fw_11, h1 rfl σ6 (fw_okM_tr N5 M6 (by decide)) (H5.st.2 σ6 M6 S6)⟩⟩
  · have hf : pr_hs (A 48 3) u = true := by unfold pr_hs; exact decide_eq_true (fw_bo_ne y)
    rw [hf, if_pos rfl] at h0
    exact h0 (by first | decide | (dsimp only; decide)) _ (fw_okM_tr N1 (tp_rf_M 3) (by decide)) (by rw [tp_rf_9, z3]))
theorem fm_readFrom (hinj : nn_inj ad) : fw_H l cy ad wr cr D 39 4 sp_readFrom := fw_mk hinj (⟨"NameNotes$StudioReader", "readFrom", "()Z"⟩, prog_9_method_11_code, 1, (Option.some Jvm.ClassFile.FieldType.boolean), 0, true, 1) rfl rfl nn_KI3_ok nn_KJ3_ok nn_PF3_ok nn_PS3_ok (by decide +kernel) rfl rfl (List.forall_mem_cons.mpr ⟨fw_row nn_PM3_ok (x := 107) (k := 0) (mn := 22) (np := 1) (ob := true) (ci := 8) (⟨"NameNotes$Tape", "refuse", "(I)Z"⟩, prog_10_method_14_code, 2, (Option.some Jvm.ClassFile.FieldType.boolean), 1, true, 1) rfl (by decide +kernel) rfl rfl (by decide) (fun _ => ⟨_, _, rfl⟩) (fm_refuse hinj), (List.forall_mem_cons.mpr ⟨fw_row nn_PM3_ok (x := 113) (k := 0) (mn := 10) (np := 0) (ob := true) (ci := 8) (⟨"NameNotes$Tape", "step", "()V"⟩, prog_10_method_5_code, 2, (Option.none : Option Jvm.ClassFile.FieldType), 0, true, 4) rfl (by decide +kernel) rfl rfl (by decide) (fun _ => ⟨_, _, rfl⟩) (fm_step hinj), (List.forall_mem_cons.mpr ⟨fw_row nn_PM3_ok (x := 144) (k := 0) (mn := 30) (np := 2) (ob := true) (ci := 8) (⟨"NameNotes$Tape", "needNumber", "(II)Z"⟩, prog_10_method_12_code, 3, (Option.some Jvm.ClassFile.FieldType.boolean), 2, true, 1) rfl (by decide +kernel) rfl rfl (by decide) (fun _ => ⟨_, _, rfl⟩) (fm_needNumber hinj), (fun _ h => absurd h List.not_mem_nil)⟩)⟩)⟩) (fun as σ K h => by
  obtain ⟨A, e, p, rfl, h, h0, h1⟩ := h
  have hi := h.2.1
  have z3 : fw_c 3 = 3 := fw_c_id (by decide) (by decide)
  have b1 : σ 48 4 = A 48 4 := h.pl rfl
  have ea : fw_c (A 48 4) = A 48 4 := fw_c_id (by omega) (by omega)
  unfold pr_from at h0 h1
  refine ⟨rfl, fun G hG => fs_readFrom_0 hG ?_⟩
  rw [b1, ea]
  refine ⟨fun q => ⟨fw_11, ?_⟩, fun q => ⟨_, rfl, fs_readFrom_15 hG ⟨fw_01, ?_⟩⟩⟩
  · rw [if_neg (fun y => y q)] at h0 h1
    rw [fw_c1]
    have I1 : RI (ab_ups A 48 4 1) := ⟨hi.1, hi.2.1, hi.2.2.1, hi.2.2.2.1, hi.2.2.2.2.1, hi.2.2.2.2.2.1, hi.2.2.2.2.2.2.1, by rw [ab_ups_eq]; decide⟩
    have H1 := h.ups (k := 48) (j := 4) (v := 1) (by decide) I1
    have N1 : ab_okM rd_M σ (ab_ups σ 48 4 1) := fw_okM_ups (fw_okM_refl _ _) (by decide)
    generalize ab_ups σ 48 4 1 = σ1 at H1 N1 ⊢
    refine ⟨rfl, H1.st.1, fun σ2 M2 S2 => fs_readFrom_28 hG ?_⟩
    have H2 := H1.st.2 σ2 M2 S2
    have N2 : ab_okM rd_M σ σ2 := fw_okM_tr N1 M2 (by decide)
    refine H2.num (by decide) (fun p2 => ?_) (fun p2 p8 pa pb => ?_)
    · rw [if_pos p2] at h0
      exact fun σ' a b => fs_readFrom_38 hG ⟨fun y => absurd fw_c0 y, fun _ => ⟨fw_01, h0 p2 σ' (fw_okM_tr N2 a (by decide)) b⟩⟩
    · rw [if_neg (fun y => y p2)] at h1
      have ev : fw_c (σ2 1 8) = (tk e (tn e p)).2.2.2.2 := by rw [p8]; exact fw_c_id (by omega) (by omega)
      refine fs_readFrom_38 hG ⟨fun _ => ?_, fun y => absurd (fw_c1.symm.trans y) (by decide)⟩
      rw [ev]
      have H5 := H2.ups (k := 49) (j := 14) (v := (tk e (tn e p)).2.2.2.2) (by decide) I1
      have N5 : ab_okM rd_M σ (ab_ups σ2 49 14 (tk e (tn e p)).2.2.2.2) := fw_okM_ups N2 (by decide)
      generalize ab_ups σ2 49 14 (tk e (tn e p)).2.2.2.2 = σ5 at H5 N5 ⊢
      exact ⟨rfl, H5.st.1, fun σ6 M6 S6 => fs_readFrom_64 hG ⟨fw_11, h1 rfl σ6 (fw_okM_tr N5 M6 (by decide)) (H5.st.2 σ6 M6 S6)⟩⟩
  · rw [if_pos q] at h0
    exact h0 (by first | decide | (dsimp only; decide)) _ (tp_rf_M 3) (by rw [tp_rf_9, z3]))
theorem fm_readLine (hinj : nn_inj ad) : fw_H l cy ad wr cr D 19 6 sp_readLine := fw_mk hinj (⟨"NameNotes$StudioReader", "readLine", "()Z"⟩, prog_9_method_3_code, 1, (Option.some Jvm.ClassFile.FieldType.boolean), 0, true, 1) rfl rfl nn_KI3_ok nn_KJ3_ok nn_PF3_ok nn_PS3_ok (by decide +kernel) rfl rfl (List.forall_mem_cons.mpr ⟨fw_row nn_PM3_ok (x := 70) (k := 0) (mn := 20) (np := 1) (ob := true) (ci := 8) (⟨"NameNotes$Tape", "isWord", "(LNameNotes$Word;)Z"⟩, prog_10_method_10_code, 2, (Option.some Jvm.ClassFile.FieldType.boolean), 1, true, 1) rfl (by decide +kernel) rfl rfl (by decide) (fun _ => ⟨_, _, rfl⟩) (fm_isWord hinj), (List.forall_mem_cons.mpr ⟨fw_row nn_PM3_ok (x := 74) (k := 0) (mn := 21) (np := 0) (ob := true) (ci := 7) (⟨"NameNotes$StudioReader", "readTune", "()Z"⟩, prog_9_method_4_code, 4, (Option.some Jvm.ClassFile.FieldType.boolean), 0, true, 1) rfl (by decide +kernel) rfl rfl (by decide) (fun _ => ⟨_, _, rfl⟩) (fm_readTune hinj), (List.forall_mem_cons.mpr ⟨fw_row nn_PM3_ok (x := 80) (k := 0) (mn := 31) (np := 0) (ob := true) (ci := 7) (⟨"NameNotes$StudioReader", "readClue", "()Z"⟩, prog_9_method_6_code, 4, (Option.some Jvm.ClassFile.FieldType.boolean), 0, true, 1) rfl (by decide +kernel) rfl rfl (by decide) (fun _ => ⟨_, _, rfl⟩) (fm_readClue hinj), (List.forall_mem_cons.mpr ⟨fw_row nn_PM3_ok (x := 86) (k := 0) (mn := 35) (np := 0) (ob := true) (ci := 7) (⟨"NameNotes$StudioReader", "readPerson", "()Z"⟩, prog_9_method_8_code, 2, (Option.some Jvm.ClassFile.FieldType.boolean), 0, true, 1) rfl (by decide +kernel) rfl rfl (by decide) (fun _ => ⟨_, _, rfl⟩) (fm_readPerson hinj), (List.forall_mem_cons.mpr ⟨fw_row nn_PM3_ok (x := 92) (k := 0) (mn := 36) (np := 0) (ob := true) (ci := 7) (⟨"NameNotes$StudioReader", "readKnows", "()Z"⟩, prog_9_method_9_code, 5, (Option.some Jvm.ClassFile.FieldType.boolean), 0, true, 1) rfl (by decide +kernel) rfl rfl (by decide) (fun _ => ⟨_, _, rfl⟩) (fm_readKnows hinj), (List.forall_mem_cons.mpr ⟨fw_row nn_PM3_ok (x := 98) (k := 0) (mn := 38) (np := 0) (ob := true) (ci := 7) (⟨"NameNotes$StudioReader", "readDare", "()Z"⟩, prog_9_method_10_code, 2, (Option.some Jvm.ClassFile.FieldType.boolean), 0, true, 1) rfl (by decide +kernel) rfl rfl (by decide) (fun _ => ⟨_, _, rfl⟩) (fm_readDare hinj), (List.forall_mem_cons.mpr ⟨fw_row nn_PM3_ok (x := 104) (k := 0) (mn := 39) (np := 0) (ob := true) (ci := 7) (⟨"NameNotes$StudioReader", "readFrom", "()Z"⟩, prog_9_method_11_code, 1, (Option.some Jvm.ClassFile.FieldType.boolean), 0, true, 1) rfl (by decide +kernel) rfl rfl (by decide) (fun _ => ⟨_, _, rfl⟩) (fm_readFrom hinj), (List.forall_mem_cons.mpr ⟨fw_row nn_PM3_ok (x := 107) (k := 0) (mn := 22) (np := 1) (ob := true) (ci := 8) (⟨"NameNotes$Tape", "refuse", "(I)Z"⟩, prog_10_method_14_code, 2, (Option.some Jvm.ClassFile.FieldType.boolean), 1, true, 1) rfl (by decide +kernel) rfl rfl (by decide) (fun _ => ⟨_, _, rfl⟩) (fm_refuse hinj), (fun _ h => absurd h List.not_mem_nil)⟩)⟩)⟩)⟩)⟩)⟩)⟩)⟩) (fun as σ K h => by
  obtain ⟨A, e, p, rfl, h, h0, h1⟩ := h
  have hk := h.kw
  -- a word's number: the token is a word there
  have isw : ∀ x : Int, 0 ≤ x → ((fw_c (σ 1 5) = 2 ∧ σ 1 7 = x) ↔ tw e p = x) := by
    intro x hx
    rw [h.kind.2, hk.1]
    refine ⟨fun q => q.2, fun q => ⟨?_, q⟩⟩
    unfold tw at q
    by_cases g : (tk e p).1 = 2
    · exact g
    · rw [if_neg g] at q; omega
  have one : ∀ (v : Int) (σ' : ab_SG) (r : pr_R), (0 ≤ fw_c v ∧ fw_c v ≤ 1) → (0 ≤ fw_c v ∧ fw_c v ≤ 1) := fun _ _ _ z => z
  unfold pr_line at h0 h1
  refine ⟨rfl, fun G hG => fs_readLine_0 hG ⟨0, rfl, ⟨hk.2.1, hk.2.2, by decide, by decide⟩, ?_⟩⟩
  refine fs_readLine_10 hG ⟨fun z => ?_, fun z => ?_⟩
  rotate_left
  · have hq := (isw 0 (by decide)).mp (fw_bo_ne z)
    rw [if_pos hq] at h0 h1
    exact ⟨A, e, p, rfl, h, fun q σ' a b => fs_readLine_17 hG ⟨fw_01, h0 q σ' a b⟩, fun q σ' a b => fs_readLine_17 hG ⟨fw_11, h1 q σ' a b⟩⟩
  have q0 : ¬ tw e p = 0 := fun y => fw_bo_eq z ((isw 0 (by decide)).mpr y)
  rw [if_neg q0] at h0 h1
  refine ⟨1, rfl, ⟨hk.2.1, hk.2.2, by decide, by decide⟩, fs_readLine_28 hG ⟨fun z1 => ?_, fun z1 => ?_⟩⟩
  rotate_left
  · have hq := (isw 1 (by decide)).mp (fw_bo_ne z1)
    rw [if_pos hq] at h0 h1
    exact ⟨A, e, p, rfl, h, fun q σ' a b => fs_readLine_35 hG ⟨fw_01, h0 q σ' a b⟩, fun q σ' a b => fs_readLine_35 hG ⟨fw_11, h1 q σ' a b⟩⟩
  have q1 : ¬ tw e p = 1 := fun y => fw_bo_eq z1 ((isw 1 (by decide)).mpr y)
  rw [if_neg q1] at h0 h1
  refine ⟨2, rfl, ⟨hk.2.1, hk.2.2, by decide, by decide⟩, fs_readLine_46 hG ⟨fun z2 => ?_, fun z2 => ?_⟩⟩
  rotate_left
  · have hq := (isw 2 (by decide)).mp (fw_bo_ne z2)
    rw [if_pos hq] at h0 h1
    exact ⟨A, e, p, rfl, h, fun q σ' a b => fs_readLine_53 hG ⟨fw_01, h0 q σ' a b⟩, fun q σ' a b => fs_readLine_53 hG ⟨fw_11, h1 q σ' a b⟩⟩
  have q2 : ¬ tw e p = 2 := fun y => fw_bo_eq z2 ((isw 2 (by decide)).mpr y)
  rw [if_neg q2] at h0 h1
  refine ⟨3, rfl, ⟨hk.2.1, hk.2.2, by decide, by decide⟩, fs_readLine_64 hG ⟨fun z3 => ?_, fun z3 => ?_⟩⟩
  rotate_left
  · have hq := (isw 3 (by decide)).mp (fw_bo_ne z3)
    rw [if_pos hq] at h0 h1
    exact ⟨A, e, p, rfl, h, fun q σ' a b => fs_readLine_71 hG ⟨fw_01, h0 q σ' a b⟩, fun q σ' a b => fs_readLine_71 hG ⟨fw_11, h1 q σ' a b⟩⟩
  have q3 : ¬ tw e p = 3 := fun y => fw_bo_eq z3 ((isw 3 (by decide)).mpr y)
  rw [if_neg q3] at h0 h1
  refine ⟨4, rfl, ⟨hk.2.1, hk.2.2, by decide, by decide⟩, fs_readLine_82 hG ⟨fun z4 => ?_, fun z4 => ?_⟩⟩
  rotate_left
  · have hq := (isw 4 (by decide)).mp (fw_bo_ne z4)
    rw [if_pos hq] at h0 h1
    exact ⟨A, e, p, rfl, h, fun q σ' a b => fs_readLine_89 hG ⟨fw_01, h0 q σ' a b⟩, fun q σ' a b => fs_readLine_89 hG ⟨fw_11, h1 q σ' a b⟩⟩
  have q4 : ¬ tw e p = 4 := fun y => fw_bo_eq z4 ((isw 4 (by decide)).mpr y)
  rw [if_neg q4] at h0 h1
  refine ⟨5, rfl, ⟨hk.2.1, hk.2.2, by decide, by decide⟩, fs_readLine_100 hG ⟨fun z5 => ?_, fun z5 => ?_⟩⟩
  rotate_left
  · have hq := (isw 5 (by decide)).mp (fw_bo_ne z5)
    rw [if_pos hq] at h0 h1
    exact ⟨A, e, p, rfl, h, fun q σ' a b => fs_readLine_107 hG (fs_readLine_118 hG ⟨fw_01, h0 q σ' a b⟩), fun q σ' a b => fs_readLine_107 hG (fs_readLine_118 hG ⟨fw_11, h1 q σ' a b⟩)⟩
  have q5 : ¬ tw e p = 5 := fun y => fw_bo_eq z5 ((isw 5 (by decide)).mpr y)
  rw [if_neg q5] at h0
  exact ⟨1, rfl, fs_readLine_118 hG ⟨fw_01, h0 (by first | decide | (dsimp only; decide)) _ (tp_rf_M 1) (by rw [tp_rf_9, fw_c1])⟩⟩)
end
end
section
/-! what a studio's numbers are -/
def nr_is (A : ab_SG) (x : Nat) : Prop := ∀ i : Nat, (i : Int) < A 52 x → (0 ≤ A 50 (x * 9 + i) ∧ A 50 (x * 9 + i) ≤ 24) ∧ (1 ≤ A 51 (x * 9 + i) ∧ A 51 (x * 9 + i) ≤ 9)
def p2_n (n : Int) : Int := ([1, 2, 4, 8, 16, 32, 64, 128, 256, 512] : List Int).getD n.toNat 512
def nb_is (A : ab_SG) : Prop := (∀ x : Nat, (x : Int) < A 49 11 → 1 ≤ A 52 x ∧ nr_is A x) ∧ (∀ c : Nat, (c : Int) < A 49 12 → 1 ≤ A 54 c ∧ A 54 c < p2_n (A 49 11)) ∧
  (∀ j : Nat, j < 45 → 0 ≤ A 55 j ∧ A 55 j ≤ 9) ∧ (∀ j : Nat, j < 5 → 0 ≤ A 56 j ∧ A 56 j ≤ 9) ∧ (1 ≤ A 49 14 ∧ A 49 14 ≤ 9)
theorem p2_le : ∀ n : Nat, n ≤ 9 → p2_n (n : Int) ≤ 512 ∧ ∀ m : Nat, m ≤ n → p2_n (m : Int) ≤ p2_n (n : Int) := by decide +kernel
theorem p2_or0 : ∀ s : Nat, s < 256 → ∀ x : Nat, x < 9 → 1 ≤ pr_or (s : Int) (x : Int) ∧ ∀ n : Nat, n ≤ 9 → x < n → (s : Int) < p2_n (n : Int) → pr_or (s : Int) (x : Int) < p2_n (n : Int) := by decide +kernel
theorem p2_or1 : ∀ s : Nat, s < 256 → ∀ x : Nat, x < 9 → 1 ≤ pr_or ((s + 256 : Nat) : Int) (x : Int) ∧ ∀ n : Nat, n ≤ 9 → x < n → ((s + 256 : Nat) : Int) < p2_n (n : Int) → pr_or ((s + 256 : Nat) : Int) (x : Int) < p2_n (n : Int) := by decide +kernel
theorem p2_or {s x n : Int} (h1 : 0 ≤ s) (hn : n ≤ 9) (x1 : 0 ≤ x) (x2 : x < n) (h2 : s < p2_n n) : 1 ≤ pr_or s x ∧ pr_or s x < p2_n n := by
  have en : ((n.toNat : Nat) : Int) = n := by omega
  have ex : ((x.toNat : Nat) : Int) = x := by omega
  have h512 := (p2_le n.toNat (by omega)).1
  rw [en] at h512
  by_cases c : s < 256
  · have h := p2_or0 s.toNat (by omega) x.toNat (by omega)
    rw [ex, show ((s.toNat : Nat) : Int) = s by omega] at h
    have h3 := h.2 n.toNat (by omega) (by omega)
    rw [en] at h3
    exact ⟨h.1, h3 h2⟩
  · have h := p2_or1 (s - 256).toNat (by omega) x.toNat (by omega)
    rw [ex, show (((s - 256).toNat + 256 : Nat) : Int) = s by omega] at h
    have h3 := h.2 n.toNat (by omega) (by omega)
    rw [en] at h3
    exact ⟨h.1, h3 h2⟩
theorem p2_mono {n m : Int} (h0 : 0 ≤ m) (h1 : m ≤ n) (h2 : n ≤ 9) : p2_n m ≤ p2_n n := by
  have h := (p2_le n.toNat (by omega)).2 m.toNat (by omega)
  rw [show ((n.toNat : Nat) : Int) = n by omega, show ((m.toNat : Nat) : Int) = m by omega] at h
  exact h
theorem pr_nm_in {e : tk_E} {p : Nat} {a b : Int} (q : pr_nm e p a b = 0) : a ≤ (tk e p).2.2.2.2 ∧ (tk e p).2.2.2.2 ≤ b := by
  unfold pr_nm at q
  by_cases y : (tk e p).1 = 3
  · rw [if_pos y] at q
    by_cases z : a ≤ (tk e p).2.2.2.2 ∧ (tk e p).2.2.2.2 ≤ b
    · exact z
    · rw [if_neg z] at q
      exact absurd q (by decide)
  · rw [if_neg y] at q
    exact absurd q (by decide)
theorem pr_sk_in {A : ab_SG} {e : tk_E} {k : Nat} {n : Int} {p : Nat} (hn : 0 ≤ n) (q : pr_sk A e k n p = 0) : 0 ≤ pr_ix A e k n p ∧ pr_ix A e k n p < n := by
  have h := rw_fd_le (A k) (pr_wd e p) n.toNat 0
  replace h : pr_ix A e k n p < 0 ∨ ((0 : Nat) : Int) ≤ pr_ix A e k n p ∧ pr_ix A e k n p < ((0 : Nat) : Int) + n.toNat := h
  unfold pr_sk at q
  by_cases y : (tk e p).1 = 2 ∧ tw e p < 0
  · rw [if_pos y] at q
    by_cases z : pr_ix A e k n p < 0
    · rw [if_pos z] at q
      exact absurd q (by decide)
    · omega
  · rw [if_neg y] at q
    exact absurd q (by decide)
/-- one note more -/
theorem pr_note_nb {A : ab_SG} {e : tk_E} {x p : Nat} (hx : 0 ≤ A 52 x) (q : (pr_note A e x p).1 = 0) : A 52 x < 9 ∧ (nr_is A x → nr_is (pr_note A e x p).2.1 x) ∧ (pr_note A e x p).2.1 52 x = A 52 x + 1 ∧
    ∀ k j : Nat, (k = 50 ∨ k = 51 → j < 9 * x ∨ 9 * x + 9 ≤ j) → (k = 52 → j ≠ x) → (pr_note A e x p).2.1 k j = A k j := by
  unfold pr_note at q ⊢
  rw [Int.toNat_natCast] at q ⊢
  by_cases c1 : pr_nm e p 0 24 ≠ 0
  · rw [if_pos c1] at q; exact absurd q c1
  rw [if_neg c1] at q ⊢
  by_cases c2 : 9 ≤ A 52 x
  · rw [if_pos c2] at q; exact absurd q (show ¬ (4 : Int) = 0 by decide)
  rw [if_neg c2] at q ⊢
  by_cases c3 : pr_nm e (tn e p) 1 9 ≠ 0
  · rw [if_pos c3] at q; exact absurd q c3
  rw [if_neg c3]
  have v1 := pr_nm_in (Classical.not_not.mp c1)
  have v2 := pr_nm_in (Classical.not_not.mp c3)
  obtain ⟨i, hi⟩ : ∃ i : Nat, A 52 x = (i : Int) := ⟨(A 52 x).toNat, by omega⟩
  have eq : ((x : Int) * 9 + (i : Int)).toNat = x * 9 + i := by omega
  dsimp only
  rw [hi, eq]
  generalize (tk e p).2.2.2.2 = a at v1 ⊢
  generalize (tk e (tn e p)).2.2.2.2 = b at v2 ⊢
  refine ⟨by omega, fun h i' hi' => ?_, ab_ups_eq, fun k j q1 q2 => ?_⟩
  · rw [ab_ups_eq] at hi'
    by_cases c : i' = i
    · subst c
      have g1 : ab_ups (ab_ups (ab_ups A 50 (x * 9 + i') a) 51 (x * 9 + i') b) 52 x ((i' : Int) + 1) 50 (x * 9 + i') = a := by rw [ab_ups_ne (fun z => absurd z.1 (by decide)), ab_ups_ne (fun z => absurd z.1 (by decide)), ab_ups_eq]
      have g2 : ab_ups (ab_ups (ab_ups A 50 (x * 9 + i') a) 51 (x * 9 + i') b) 52 x ((i' : Int) + 1) 51 (x * 9 + i') = b := by rw [ab_ups_ne (fun z => absurd z.1 (by decide)), ab_ups_eq]
      rw [g1, g2]
      exact ⟨v1, v2⟩
    · have g1 : ab_ups (ab_ups (ab_ups A 50 (x * 9 + i) a) 51 (x * 9 + i) b) 52 x ((i : Int) + 1) 50 (x * 9 + i') = A 50 (x * 9 + i') := by rw [ab_ups_ne (fun z => absurd z.1 (by decide)), ab_ups_ne (fun z => absurd z.1 (by decide)), ab_ups_ne (fun z => by omega)]
      have g2 : ab_ups (ab_ups (ab_ups A 50 (x * 9 + i) a) 51 (x * 9 + i) b) 52 x ((i : Int) + 1) 51 (x * 9 + i') = A 51 (x * 9 + i') := by rw [ab_ups_ne (fun z => absurd z.1 (by decide)), ab_ups_ne (fun z => by omega), ab_ups_ne (fun z => absurd z.1 (by decide))]
      rw [g1, g2]
      exact h i' (by omega)
  · rw [ab_ups_ne (fun z => q2 z.1 z.2), ab_ups_ne (fun z => by have := q1 (Or.inr z.1); omega), ab_ups_ne (fun z => by have := q1 (Or.inl z.1); omega)]
theorem pr_notes_nb {e : tk_E} {x : Nat} : ∀ (f : Nat) (A : ab_SG) (p : Nat), 0 ≤ A 52 x → A 52 x ≤ 9 → nr_is A x → (pr_notes e x f A p).1 = 0 → A 52 x ≤ (pr_notes e x f A p).2.1 52 x ∧ (pr_notes e x f A p).2.1 52 x ≤ 9 ∧ nr_is (pr_notes e x f A p).2.1 x ∧
    ∀ k j : Nat, (k = 50 ∨ k = 51 → j < 9 * x ∨ 9 * x + 9 ≤ j) → (k = 52 → j ≠ x) → (pr_notes e x f A p).2.1 k j = A k j := by
  intro f
  induction f with
  | zero => intro A p h1 h2 h3 _; exact ⟨Int.le_refl _, h2, h3, fun k j _ _ => rfl⟩
  | succ f ih =>
    intro A p h1 h2 h3 q
    unfold pr_notes at q ⊢
    by_cases c1 : (tk e p).1 ≠ 3
    · rw [if_pos c1]; exact ⟨Int.le_refl _, h2, h3, fun k j _ _ => rfl⟩
    rw [if_neg c1] at q ⊢
    by_cases c2 : (pr_note A e x p).1 ≠ 0
    · rw [if_pos c2] at q; exact absurd q c2
    rw [if_neg c2] at q ⊢
    obtain ⟨g0, g1, g2, g3⟩ := pr_note_nb h1 (Classical.not_not.mp c2)
    obtain ⟨k0, k1, k2, k3⟩ := ih _ _ (by omega) (by omega) (g1 h3) q
    exact ⟨by omega, k1, k2, fun k j q1 q2 => (k3 k j q1 q2).trans (g3 k j q1 q2)⟩
/-- one tune of a clue more -/
theorem pr_left_nb {A : ab_SG} {e : tk_E} {x p : Nat} (hn : 0 ≤ A 49 11 ∧ A 49 11 ≤ 9) (hx : 0 ≤ A 54 x) (hx2 : A 54 x < p2_n (A 49 11)) (q : (pr_left A e x p).1 = 0) : 1 ≤ (pr_left A e x p).2.1 54 x ∧ (pr_left A e x p).2.1 54 x < p2_n (A 49 11) ∧
    ∀ k j : Nat, (k = 54 → j ≠ x) → (pr_left A e x p).2.1 k j = A k j := by
  unfold pr_left at q ⊢
  rw [Int.toNat_natCast] at q ⊢
  by_cases c1 : pr_sk A e 57 (A 49 11) p ≠ 0
  · rw [if_pos c1] at q; exact absurd q c1
  rw [if_neg c1] at q ⊢
  by_cases c2 : pr_hs (A 54 x) (pr_ix A e 57 (A 49 11) p) = true
  · rw [if_pos c2] at q; exact absurd q (show ¬ (3 : Int) = 0 by decide)
  rw [if_neg c2]
  have g := pr_sk_in hn.1 (Classical.not_not.mp c1)
  have g2 := p2_or hx hn.2 g.1 g.2 hx2
  dsimp only
  rw [ab_ups_eq]
  exact ⟨g2.1, g2.2, fun k j q1 => ab_ups_ne (fun z => q1 z.1 z.2)⟩
theorem pr_lefts_nb {e : tk_E} {x : Nat} : ∀ (f : Nat) (A : ab_SG) (p : Nat), (0 ≤ A 49 11 ∧ A 49 11 ≤ 9) → 1 ≤ A 54 x → A 54 x < p2_n (A 49 11) → (pr_lefts e x f A p).1 = 0 → 1 ≤ (pr_lefts e x f A p).2.1 54 x ∧ (pr_lefts e x f A p).2.1 54 x < p2_n (A 49 11) ∧
    ∀ k j : Nat, (k = 54 → j ≠ x) → (pr_lefts e x f A p).2.1 k j = A k j := by
  intro f
  induction f with
  | zero => intro A p _ h1 h2 _; exact ⟨h1, h2, fun k j _ => rfl⟩
  | succ f ih =>
    intro A p hn h1 h2 q
    unfold pr_lefts at q ⊢
    by_cases c1 : (tk e p).1 ≠ 2
    · rw [if_pos c1]; exact ⟨h1, h2, fun k j _ => rfl⟩
    rw [if_neg c1] at q ⊢
    by_cases c2 : (pr_left A e x p).1 ≠ 0
    · rw [if_pos c2] at q; exact absurd q c2
    rw [if_neg c2] at q ⊢
    obtain ⟨g1, g2, g3⟩ := pr_left_nb hn (by omega) h2 (Classical.not_not.mp c2)
    have e11 : (pr_left A e x p).2.1 49 11 = A 49 11 := g3 49 11 (fun z => absurd z (by decide))
    obtain ⟨k1, k2, k3⟩ := ih _ _ (by rw [e11]; exact hn) g1 (by rw [e11]; exact g2) q
    rw [e11] at k2
    exact ⟨k1, k2, fun k j q1 => (k3 k j q1).trans (g3 k j q1)⟩
theorem nr_cong {A A' : ab_SG} {x : Nat} (h52 : A' 52 x = A 52 x) (hs : A 52 x ≤ 9) (h : ∀ j : Nat, 9 * x ≤ j → j < 9 * x + 9 → A' 50 j = A 50 j ∧ A' 51 j = A 51 j) (hr : nr_is A x) : nr_is A' x := by
  intro i hi
  rw [h52] at hi
  have g := h (x * 9 + i) (by omega) (by omega)
  rw [g.1, g.2]
  exact hr i hi
theorem pr_tune_nb {A : ab_SG} {e : tk_E} {p : Nat} (hi : RI A) (hb : nb_is A) (q : (pr_tune A e p).1 = 0) : nb_is (pr_tune A e p).2.1 := by
  unfold pr_tune at q ⊢
  have hi1 := hi.1
  by_cases c1 : 9 ≤ A 49 11
  · rw [if_pos c1] at q; exact absurd q (show ¬ (4 : Int) = 0 by decide)
  rw [if_neg c1] at q ⊢
  by_cases c2 : pr_new A e (tn e p) ≠ 0
  · rw [if_pos c2] at q; exact absurd q c2
  rw [if_neg c2] at q ⊢
  dsimp only at q ⊢
  obtain ⟨x, hx⟩ : ∃ x : Nat, A 49 11 = (x : Int) := ⟨(A 49 11).toNat, by omega⟩
  rw [hx] at q ⊢
  rw [Int.toNat_natCast] at q ⊢
  have a52 : ab_ups (ab_ups (ab_ups A 57 x (pr_wd e (tn e p))) 52 x 0) 49 11 ((x : Int) + 1) 52 x = 0 := by rw [ab_ups_ne (fun z => absurd z.1 (by decide)), ab_ups_eq]
  have a11 : ab_ups (ab_ups (ab_ups A 57 x (pr_wd e (tn e p))) 52 x 0) 49 11 ((x : Int) + 1) 49 11 = (x : Int) + 1 := ab_ups_eq
  have ak : ∀ k j : Nat, k ≠ 57 → (k = 52 → j ≠ x) → (k = 49 → j ≠ 11) → ab_ups (ab_ups (ab_ups A 57 x (pr_wd e (tn e p))) 52 x 0) 49 11 ((x : Int) + 1) k j = A k j := fun k j q1 q2 q3 => by rw [ab_ups_ne (fun z => q3 z.1 z.2), ab_ups_ne (fun z => q2 z.1 z.2), ab_ups_ne (fun z => q1 z.1)]
  generalize ab_ups (ab_ups (ab_ups A 57 x (pr_wd e (tn e p))) 52 x 0) 49 11 ((x : Int) + 1) = A1 at q a52 a11 ak ⊢
  by_cases c3 : (pr_note A1 e x (tn e (tn e p))).1 ≠ 0
  · rw [if_pos c3] at q; exact absurd q c3
  rw [if_neg c3] at q ⊢
  have hr1 : nr_is A1 x := fun i hi2 => by rw [a52] at hi2; exact absurd hi2 (by omega)
  obtain ⟨g0, g1, g2, g3⟩ := pr_note_nb (by rw [a52]; exact Int.le_refl _) (Classical.not_not.mp c3)
  rw [a52] at g2
  obtain ⟨k0, k1, k2, k3⟩ := pr_notes_nb 9 _ _ (by rw [g2]; decide) (by rw [g2]; decide) (g1 hr1) q
  rw [g2] at k0
  generalize (pr_notes e x 9 (pr_note A1 e x (tn e (tn e p))).2.1 (pr_note A1 e x (tn e (tn e p))).2.2).2.1 = A3 at k0 k1 k2 k3 ⊢
  have fr : ∀ k j : Nat, (k = 50 ∨ k = 51 → j < 9 * x ∨ 9 * x + 9 ≤ j) → (k = 52 → j ≠ x) → k ≠ 57 → (k = 49 → j ≠ 11) → A3 k j = A k j := fun k j q1 q2 q3 q4 => (k3 k j q1 q2).trans ((g3 k j q1 q2).trans (ak k j q3 q2 q4))
  have f11 : A3 49 11 = (x : Int) + 1 := (k3 49 11 (fun z => by omega) (fun z => absurd z (by decide))).trans ((g3 49 11 (fun z => by omega) (fun z => absurd z (by decide))).trans a11)
  have fo : ∀ k j : Nat, k ≠ 50 → k ≠ 51 → k ≠ 52 → k ≠ 57 → (k = 49 → j ≠ 11) → A3 k j = A k j := fun k j q1 q2 q3 q4 q5 => fr k j (fun z => by omega) (fun z => absurd z q3) q4 q5
  obtain ⟨b1, b2, b3, b4, b5⟩ := hb
  refine ⟨fun y hy => ?_, fun c hc => ?_, fun j hj => ?_, fun j hj => ?_, ?_⟩
  · rw [f11] at hy
    by_cases c : y = x
    · rw [c]; exact ⟨by omega, k2⟩
    · have hy2 := b1 y (by omega)
      have e52 : A3 52 y = A 52 y := fr 52 y (fun z => by omega) (fun _ => c) (by decide) (fun z => absurd z (by decide))
      refine ⟨by rw [e52]; exact hy2.1, nr_cong e52 ((hi.2.2.2.2.2.2.1 y (by omega)).2) (fun j j1 j2 => ⟨fr 50 j (fun _ => by omega) (fun z => absurd z (by decide)) (by decide) (fun z => absurd z (by decide)), fr 51 j (fun _ => by omega) (fun z => absurd z (by decide)) (by decide) (fun z => absurd z (by decide))⟩) hy2.2⟩
  · rw [fo 49 12 (by decide) (by decide) (by decide) (by decide) (fun _ => by decide)] at hc
    have h := b2 c hc
    rw [fo 54 c (by decide) (by decide) (by decide) (by decide) (fun z => absurd z (by decide)), f11]
    have h2 := p2_mono (n := (x : Int) + 1) (m := (x : Int)) (by omega) (by omega) (by omega)
    rw [hx] at h
    exact ⟨h.1, by omega⟩
  · rw [fo 55 j (by decide) (by decide) (by decide) (by decide) (fun z => absurd z (by decide))]; exact b3 j hj
  · rw [fo 56 j (by decide) (by decide) (by decide) (by decide) (fun z => absurd z (by decide))]; exact b4 j hj
  · rw [fo 49 14 (by decide) (by decide) (by decide) (by decide) (fun _ => by decide)]; exact b5
theorem pr_clue_nb {A : ab_SG} {e : tk_E} {p : Nat} (hi : RI A) (hb : nb_is A) (q : (pr_clue A e p).1 = 0) : nb_is (pr_clue A e p).2.1 := by
  unfold pr_clue at q ⊢
  have hi1 := hi.1
  have hi2 := hi.2.1
  by_cases c1 : 6 ≤ A 49 12
  · rw [if_pos c1] at q; exact absurd q (show ¬ (4 : Int) = 0 by decide)
  rw [if_neg c1] at q ⊢
  by_cases c2 : pr_new A e (tn e p) ≠ 0
  · rw [if_pos c2] at q; exact absurd q c2
  rw [if_neg c2] at q ⊢
  dsimp only at q ⊢
  obtain ⟨x, hx⟩ : ∃ x : Nat, A 49 12 = (x : Int) := ⟨(A 49 12).toNat, by omega⟩
  rw [hx] at q ⊢
  rw [Int.toNat_natCast] at q ⊢
  have a54 : ab_ups (ab_ups (ab_ups A 58 x (pr_wd e (tn e p))) 54 x 0) 49 12 ((x : Int) + 1) 54 x = 0 := by rw [ab_ups_ne (fun z => absurd z.1 (by decide)), ab_ups_eq]
  have a12 : ab_ups (ab_ups (ab_ups A 58 x (pr_wd e (tn e p))) 54 x 0) 49 12 ((x : Int) + 1) 49 12 = (x : Int) + 1 := ab_ups_eq
  have ak : ∀ k j : Nat, k ≠ 58 → (k = 54 → j ≠ x) → (k = 49 → j ≠ 12) → ab_ups (ab_ups (ab_ups A 58 x (pr_wd e (tn e p))) 54 x 0) 49 12 ((x : Int) + 1) k j = A k j := fun k j q1 q2 q3 => by rw [ab_ups_ne (fun z => q3 z.1 z.2), ab_ups_ne (fun z => q2 z.1 z.2), ab_ups_ne (fun z => q1 z.1)]
  generalize ab_ups (ab_ups (ab_ups A 58 x (pr_wd e (tn e p))) 54 x 0) 49 12 ((x : Int) + 1) = A1 at q a54 a12 ak ⊢
  have e11 : A1 49 11 = A 49 11 := ak 49 11 (by decide) (fun z => absurd z (by decide)) (fun _ => by decide)
  by_cases c3 : (pr_left A1 e x (tn e (tn e p))).1 ≠ 0
  · rw [if_pos c3] at q; exact absurd q c3
  rw [if_neg c3] at q ⊢
  have hp : 0 < p2_n (A 49 11) := by
    have := p2_mono (n := A 49 11) (m := 0) (by omega) (by omega) (by omega)
    have h0 : p2_n 0 = 1 := by decide
    omega
  obtain ⟨g1, g2, g3⟩ := pr_left_nb (by rw [e11]; exact hi1) (by rw [a54]; exact Int.le_refl _) (by rw [a54, e11]; exact hp) (Classical.not_not.mp c3)
  have e11' : (pr_left A1 e x (tn e (tn e p))).2.1 49 11 = A1 49 11 := g3 49 11 (fun z => absurd z (by decide))
  obtain ⟨k1, k2, k3⟩ := pr_lefts_nb 9 _ _ (by rw [e11', e11]; exact hi1) g1 (by rw [e11']; exact g2) q
  rw [e11', e11] at k2
  generalize (pr_lefts e x 9 (pr_left A1 e x (tn e (tn e p))).2.1 (pr_left A1 e x (tn e (tn e p))).2.2).2.1 = A3 at k1 k2 k3 ⊢
  have fr : ∀ k j : Nat, (k = 54 → j ≠ x) → k ≠ 58 → (k = 49 → j ≠ 12) → A3 k j = A k j := fun k j q1 q2 q3 => (k3 k j q1).trans ((g3 k j q1).trans (ak k j q2 q1 q3))
  have f12 : A3 49 12 = (x : Int) + 1 := (k3 49 12 (fun z => absurd z (by decide))).trans ((g3 49 12 (fun z => absurd z (by decide))).trans a12)
  have fo : ∀ k j : Nat, k ≠ 54 → k ≠ 58 → (k = 49 → j ≠ 12) → A3 k j = A k j := fun k j q1 q2 q3 => fr k j (fun z => absurd z q1) q2 q3
  obtain ⟨b1, b2, b3, b4, b5⟩ := hb
  have f11 : A3 49 11 = A 49 11 := fo 49 11 (by decide) (by decide) (fun _ => by decide)
  refine ⟨fun y hy => ?_, fun c hc => ?_, fun j hj => ?_, fun j hj => ?_, ?_⟩
  · rw [f11] at hy
    have hy2 := b1 y hy
    have e52 : A3 52 y = A 52 y := fo 52 y (by decide) (by decide) (fun z => absurd z (by decide))
    exact ⟨by rw [e52]; exact hy2.1, nr_cong e52 ((hi.2.2.2.2.2.2.1 y (by omega)).2) (fun j _ _ => ⟨fo 50 j (by decide) (by decide) (fun z => absurd z (by decide)), fo 51 j (by decide) (by decide) (fun z => absurd z (by decide))⟩) hy2.2⟩
  · rw [f12] at hc
    rw [f11]
    by_cases d : c = x
    · rw [d]; exact ⟨k1, k2⟩
    · rw [fr 54 c (fun _ => d) (by decide) (fun z => absurd z (by decide))]; exact b2 c (by omega)
  · rw [fo 55 j (by decide) (by decide) (fun z => absurd z (by decide))]; exact b3 j hj
  · rw [fo 56 j (by decide) (by decide) (fun z => absurd z (by decide))]; exact b4 j hj
  · rw [fo 49 14 (by decide) (by decide) (fun _ => by decide)]; exact b5
/-- other lines -/
theorem nb_frame {A A' : ab_SG} (hi : RI A) (hb : nb_is A) (h : ∀ k j : Nat, k = 49 ∧ (j = 11 ∨ j = 12) ∨ k = 50 ∨ k = 51 ∨ k = 52 ∨ k = 54 → A' k j = A k j) (h55 : ∀ j : Nat, j < 45 → 0 ≤ A' 55 j ∧ A' 55 j ≤ 9) (h56 : ∀ j : Nat, j < 5 → 0 ≤ A' 56 j ∧ A' 56 j ≤ 9) (h14 : 1 ≤ A' 49 14 ∧ A' 49 14 ≤ 9) : nb_is A' := by
  obtain ⟨b1, b2, -, -, -⟩ := hb
  have hi1 := hi.1
  have f11 : A' 49 11 = A 49 11 := h 49 11 (by omega)
  refine ⟨fun y hy => ?_, fun c hc => ?_, h55, h56, h14⟩
  · rw [f11] at hy
    have hy2 := b1 y hy
    have e52 : A' 52 y = A 52 y := h 52 y (by omega)
    exact ⟨by rw [e52]; exact hy2.1, nr_cong e52 ((hi.2.2.2.2.2.2.1 y (by omega)).2) (fun j _ _ => ⟨h 50 j (by omega), h 51 j (by omega)⟩) hy2.2⟩
  · rw [h 49 12 (by omega)] at hc
    rw [f11, h 54 c (by omega)]
    exact b2 c hc
theorem pr_person_nb {A : ab_SG} {e : tk_E} {p : Nat} (hi : RI A) (hb : nb_is A) (q : (pr_person A e p).1 = 0) : nb_is (pr_person A e p).2.1 := by
  unfold pr_person at q ⊢
  by_cases c1 : 5 ≤ A 49 13
  · rw [if_pos c1] at q; exact absurd q (show ¬ (4 : Int) = 0 by decide)
  rw [if_neg c1] at q ⊢
  by_cases c2 : pr_new A e (tn e p) ≠ 0
  · rw [if_pos c2] at q; exact absurd q c2
  rw [if_neg c2]
  show nb_is (ab_ups (ab_ups A 59 (A 49 13).toNat (pr_wd e (tn e p))) 49 13 (A 49 13 + 1))
  have f : ∀ k j : Nat, k ≠ 59 → (k = 49 → j ≠ 13) → ab_ups (ab_ups A 59 (A 49 13).toNat (pr_wd e (tn e p))) 49 13 (A 49 13 + 1) k j = A k j := fun k j q1 q2 => by rw [ab_ups_ne (fun z => q2 z.1 z.2), ab_ups_ne (fun z => q1 z.1)]
  refine nb_frame hi hb (fun k j z => f k j (by omega) (by omega)) (fun j hj => ?_) (fun j hj => ?_) ?_
  · rw [f 55 j (by decide) (fun z => absurd z (by decide))]; exact hb.2.2.1 j hj
  · rw [f 56 j (by decide) (fun z => absurd z (by decide))]; exact hb.2.2.2.1 j hj
  · rw [f 49 14 (by decide) (fun _ => by decide)]; exact hb.2.2.2.2
theorem pr_knows_nb {A : ab_SG} {e : tk_E} {p : Nat} (hi : RI A) (hb : nb_is A) (q : (pr_knows A e p).1 = 0) : nb_is (pr_knows A e p).2.1 := by
  unfold pr_knows at q ⊢
  by_cases c1 : pr_sk A e 59 (A 49 13) (tn e p) ≠ 0
  · rw [if_pos c1] at q; exact absurd q c1
  rw [if_neg c1] at q ⊢
  by_cases c2 : pr_sk A e 57 (A 49 11) (tn e (tn e p)) ≠ 0
  · rw [if_pos c2] at q; exact absurd q c2
  rw [if_neg c2] at q ⊢
  by_cases c3 : pr_hs (A 64 (pr_ix A e 59 (A 49 13) (tn e p)).toNat) (pr_ix A e 57 (A 49 11) (tn e (tn e p))) = true
  · rw [if_pos c3] at q; exact absurd q (show ¬ (3 : Int) = 0 by decide)
  rw [if_neg c3] at q ⊢
  by_cases c4 : pr_nm e (tn e (tn e (tn e p))) 0 9 ≠ 0
  · rw [if_pos c4] at q; exact absurd q c4
  rw [if_neg c4]
  have v := pr_nm_in (Classical.not_not.mp c4)
  dsimp only
  generalize (pr_ix A e 59 (A 49 13) (tn e p) * 9 + pr_ix A e 57 (A 49 11) (tn e (tn e p))).toNat = u
  generalize pr_or (A 64 (pr_ix A e 59 (A 49 13) (tn e p)).toNat) (pr_ix A e 57 (A 49 11) (tn e (tn e p))) = o
  generalize (pr_ix A e 59 (A 49 13) (tn e p)).toNat = w
  generalize (tk e (tn e (tn e (tn e p)))).2.2.2.2 = a at v
  have f : ∀ k j : Nat, k ≠ 64 → k ≠ 55 → ab_ups (ab_ups A 64 w o) 55 u a k j = A k j := fun k j q1 q2 => by rw [ab_ups_ne (fun z => q2 z.1), ab_ups_ne (fun z => q1 z.1)]
  refine nb_frame hi hb (fun k j z => f k j (by omega) (by omega)) (fun j hj => ?_) (fun j hj => ?_) ?_
  · by_cases c : j = u
    · rw [c, ab_ups_eq]; exact v
    · rw [ab_ups_ne (fun z => c z.2), ab_ups_ne (fun z => absurd z.1 (by decide))]; exact hb.2.2.1 j hj
  · rw [f 56 j (by decide) (by decide)]; exact hb.2.2.2.1 j hj
  · rw [f 49 14 (by decide) (by decide)]; exact hb.2.2.2.2
theorem pr_dare_nb {A : ab_SG} {e : tk_E} {p : Nat} (hi : RI A) (hb : nb_is A) (q : (pr_dare A e p).1 = 0) : nb_is (pr_dare A e p).2.1 := by
  unfold pr_dare at q ⊢
  by_cases c1 : pr_sk A e 59 (A 49 13) (tn e p) ≠ 0
  · rw [if_pos c1] at q; exact absurd q c1
  rw [if_neg c1] at q ⊢
  by_cases c3 : pr_hs (A 48 3) (pr_ix A e 59 (A 49 13) (tn e p)) = true
  · rw [if_pos c3] at q; exact absurd q (show ¬ (3 : Int) = 0 by decide)
  rw [if_neg c3] at q ⊢
  by_cases c4 : pr_nm e (tn e (tn e p)) 0 9 ≠ 0
  · rw [if_pos c4] at q; exact absurd q c4
  rw [if_neg c4]
  have v := pr_nm_in (Classical.not_not.mp c4)
  dsimp only
  generalize pr_or (A 48 3) (pr_ix A e 59 (A 49 13) (tn e p)) = o
  generalize (pr_ix A e 59 (A 49 13) (tn e p)).toNat = u
  generalize (tk e (tn e (tn e p))).2.2.2.2 = a at v
  have f : ∀ k j : Nat, k ≠ 48 → k ≠ 56 → ab_ups (ab_ups A 48 3 o) 56 u a k j = A k j := fun k j q1 q2 => by rw [ab_ups_ne (fun z => q2 z.1), ab_ups_ne (fun z => q1 z.1)]
  refine nb_frame hi hb (fun k j z => f k j (by omega) (by omega)) (fun j hj => ?_) (fun j hj => ?_) ?_
  · rw [f 55 j (by decide) (by decide)]; exact hb.2.2.1 j hj
  · by_cases c : j = u
    · rw [c, ab_ups_eq]; exact v
    · rw [ab_ups_ne (fun z => c z.2), ab_ups_ne (fun z => absurd z.1 (by decide))]; exact hb.2.2.2.1 j hj
  · rw [f 49 14 (by decide) (by decide)]; exact hb.2.2.2.2
theorem pr_from_nb {A : ab_SG} {e : tk_E} {p : Nat} (hi : RI A) (hb : nb_is A) (q : (pr_from A e p).1 = 0) : nb_is (pr_from A e p).2.1 := by
  unfold pr_from at q ⊢
  by_cases c1 : A 48 4 ≠ 0
  · rw [if_pos c1] at q; exact absurd q (show ¬ (3 : Int) = 0 by decide)
  rw [if_neg c1] at q ⊢
  by_cases c4 : pr_nm e (tn e p) 1 9 ≠ 0
  · rw [if_pos c4] at q; exact absurd q c4
  rw [if_neg c4]
  have v := pr_nm_in (Classical.not_not.mp c4)
  dsimp only
  generalize (tk e (tn e p)).2.2.2.2 = a at v
  have f : ∀ k j : Nat, k ≠ 48 → (k = 49 → j ≠ 14) → ab_ups (ab_ups A 48 4 1) 49 14 a k j = A k j := fun k j q1 q2 => by rw [ab_ups_ne (fun z => q2 z.1 z.2), ab_ups_ne (fun z => q1 z.1)]
  refine nb_frame hi hb (fun k j z => f k j (by omega) (by omega)) (fun j hj => ?_) (fun j hj => ?_) ?_
  · rw [f 55 j (by decide) (fun z => absurd z (by decide))]; exact hb.2.2.1 j hj
  · rw [f 56 j (by decide) (fun z => absurd z (by decide))]; exact hb.2.2.2.1 j hj
  · rw [ab_ups_eq]; exact v
theorem pr_line_nb {A : ab_SG} {e : tk_E} {p : Nat} (hi : RI A) (hb : nb_is A) (q : (pr_line A e p).1 = 0) : nb_is (pr_line A e p).2.1 := by
  unfold pr_line at q ⊢
  by_cases c0 : tw e p = 0
  · rw [if_pos c0] at q ⊢; exact pr_tune_nb hi hb q
  rw [if_neg c0] at q ⊢
  by_cases c1 : tw e p = 1
  · rw [if_pos c1] at q ⊢; exact pr_clue_nb hi hb q
  rw [if_neg c1] at q ⊢
  by_cases c2 : tw e p = 2
  · rw [if_pos c2] at q ⊢; exact pr_person_nb hi hb q
  rw [if_neg c2] at q ⊢
  by_cases c3 : tw e p = 3
  · rw [if_pos c3] at q ⊢; exact pr_knows_nb hi hb q
  rw [if_neg c3] at q ⊢
  by_cases c4 : tw e p = 4
  · rw [if_pos c4] at q ⊢; exact pr_dare_nb hi hb q
  rw [if_neg c4] at q ⊢
  by_cases c5 : tw e p = 5
  · rw [if_pos c5] at q ⊢; exact pr_from_nb hi hb q
  rw [if_neg c5] at q
  exact absurd q (show ¬ (1 : Int) = 0 by decide)
theorem pr_lns_nb {A : ab_SG} {e : tk_E} {p : Nat} (hi : RI A) (hb : nb_is A) (q : (pr_lns A e p).1 = 0) : nb_is (pr_lns A e p).2.1 := by
  unfold pr_lns at q ⊢
  by_cases c0 : (pr_line A e p).1 ≠ 0
  · rw [if_pos c0] at q; exact absurd q c0
  rw [if_neg c0] at q ⊢
  by_cases c1 : (tk e (pr_line A e p).2.2).1 ≠ 59
  · rw [if_pos c1] at q; exact absurd q (show ¬ (1 : Int) = 0 by decide)
  rw [if_neg c1]
  exact pr_line_nb hi hb (Classical.not_not.mp c0)
end
