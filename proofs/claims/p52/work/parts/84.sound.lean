def ab_room (d : Nat) : Room := { frames := d, cells := 0, slots := 0, locals := 40 * d }
/-- a contract holds -/
def ab_hold (l : Launch) (cy : Nat → ClassId) (ad wr cr : Nat → Nat) (D : va_G) (cl : List vw_C) (sh : List ab_SP) (T : ab_RG) (C : ab_CT) (NW : ab_NW) (kd : ab_KD) (TT : List Jvm.Cond) (MT : List ab_MR) (q : Nat × Nat × ab_CN) : Prop :=
  ∀ mr : ab_MR, MT[q.1]? = some mr → 0 < q.2.2.2.1.length ∧
    (mr.2.2.2.2.2.1 = true → ∃ (k : Nat) (z : Int) (as : List ab_AV) (ci : Nat) (fs : List (Nat × Nat)) (T9 : u_T) (N9 : Nat), q.2.2.1 = (2, k, z) :: as ∧ sh[k]? = some (.inl (ci, fs)) ∧ cl[ci]? = some (mr.1.cls, T9, N9)) ∧
    ∀ (ρ : Nat → Int) (σ : ab_SG) (sz : Nat), ab_K T C σ q.2.2.2.1 q.2.2.2.2.1 q.2.2.2.2.2.1 [] ρ σ → (∀ a ∈ q.2.2.1, ab_sy q.2.2.2.1.length a) →
      Met l mr.1 (Jvm.Cond.code mr.1 mr.2.1 mr.2.2.1 mr.2.2.2.1 :: TT) (ab_room q.2.1) (ab_PC cy ad wr cr D cl sh NW kd σ (q.2.2.1.map (ab_V ad wr cr ρ)) sz) (ab_QC cy ad wr cr D cl sh T C q.2.2.2.1.length ρ σ q.2.2.2.2.2.2 (ab_A ad sh.length sz)) 0 0 (ab_A ad sh.length sz)
/-- what a call's row says of the tables -/
def ab_mlk (MT : List ab_MR) (Ts : List Jvm.Cond) (NW : ab_NW) (own : String) (q : Nat × Nat × Nat) : Prop :=
  ∀ mr : ab_MR, MT[q.2.2]? = some mr → Jvm.Cond.code mr.1 mr.2.1 mr.2.2.1 mr.2.2.2.1 ∈ Ts ∧ Jvm.Cond.initialized mr.1.cls ∈ Ts ∧ (mr.1.cls ≠ "java/lang/invoke/MethodHandle" ∧ mr.1.cls ≠ "java/lang/invoke/VarHandle") ∧ (parseMethodDescriptor mr.1.desc).map (fun d => d.parameters.length) = some mr.2.2.2.2.1 ∧
    (mr.2.2.2.2.2.1 = true → Jvm.Cond.instanceMethod mr.1 ∈ Ts ∧ Jvm.Cond.selects mr.1.cls mr.1 mr.1 ∈ Ts) ∧ (mr.2.2.2.2.2.1 = false → Jvm.Cond.static mr.1 ∈ Ts) ∧
    ((q.2.1 = 0 ∧ Jvm.Cond.methodLink own q.1 mr.1 ∈ Ts) ∨ (∃ host, (own, q.1, mr.1, host) ∈ NW))
theorem ab_K_start {T : ab_RG} {C : ab_CT} {σ0 σ : ab_SG} {B : ab_BD} {F : ab_FT} {Dl : ab_DL} {M : ab_ML} {ρ : Nat → Int} (h : ab_K T C σ0 B F Dl M ρ σ) : ab_K T C σ B F Dl [] ρ σ := by
  obtain ⟨k1, k2, k3, k4, k5, k6, k7, -⟩ := h
  exact ⟨k1, k2, k3, k4, k5, k6, k7, fun _ _ _ => rfl⟩
theorem ab_vf_th {θ : ab_TH} {PL : ab_LS} {PS : List ab_AV} {PB : ab_BD} {PF : ab_FT} {PD : ab_DL} {PM : ab_ML} {L : ab_LS} {S : List ab_AV} {B : ab_BD} {F : ab_FT} {Dl : ab_DL} {M : ab_ML} {ρ : Nat → Int} (hB : ab_okB B ρ) (h : ab_vf θ PL PS PB PF PD PM L S B F Dl M = true) : (∀ q ∈ θ, q.1 < B.length) ∧ θ.length = PB.length := by
  unfold ab_vf at h
  rw [Bool.and_eq_true, Bool.and_eq_true, Bool.and_eq_true, Bool.and_eq_true, Bool.and_eq_true, Bool.and_eq_true, Bool.and_eq_true] at h
  obtain ⟨⟨⟨⟨⟨⟨⟨h1, h2⟩, h3⟩, h4⟩, h5⟩, h6⟩, h7⟩, h8⟩ := h
  have hθ : ∀ q ∈ θ, q.1 < B.length := fun q hq => Nat.le_of_ble_eq_true (List.all_eq_true.mp h1 q hq)
  exact ⟨hθ, (ab_vb_ok hB θ PB hθ h3).2⟩
theorem ab_okN_moved {NW : ab_NW} {s U : State} (hW : s.WarmedH U.vm) (h : ab_okN NW s) : ab_okN NW U := fun q hq => va_Nw.warmM hW (h q hq)
section
variable {p : Program} {l : Launch} {e : Env} {s : State} {m : MethodId} {args : Array Value} {below : List Frame} {meth : Method} {c : Code} {H : Heap} {locs : List Loc} {Q : State → Prop} {cc : ByteArray} {pc : Nat} {ls : Array Slot} {st : List Value} {R : Room}
variable {ad wr cr : Nat → Nat} {cy : Nat → ClassId} {nL n0 lev : Nat} {T : ab_RG} {C : ab_CT} {σ0 : ab_SG} {ρ0 : Nat → Int} {own : String} {i : Instr} {len : Nat} {D : va_G} {cl : List vw_C} {sh : List ab_SP} {A : Nat → Prop} {H0 : Heap} {Ts TT : List Jvm.Cond} {NW : ab_NW} {kd : ab_KD} {MT : List ab_MR} {PM : ab_PC2} {KS : ab_KS} {X : ab_AS}
def ab_Gm (cy : Nat → ClassId) (ad wr cr : Nat → Nat) (D : va_G) (cl : List vw_C) (sh : List ab_SP) (T : ab_RG) (C : ab_CT) (nL n0 : Nat) (ρ0 : Nat → Int) (σ0 : ab_SG) (A : Nat → Prop) (H0 : Heap) (X : ab_AS) (ρ : Nat → Int) (σ : ab_SG) (H : Heap) (locs : List Loc) (ls : Array Slot) (st : List Value) : Prop :=
  ab_K T C σ0 X.2.2.1 X.2.2.2.1 X.2.2.2.2.1 X.2.2.2.2.2 ρ σ ∧ (∀ i, i < n0 → ρ i = ρ0 i) ∧ n0 ≤ X.2.2.1.length ∧ ab_okL ad wr cr X.2.2.1.length nL ρ X.1 ls ∧ ab_okS ad wr cr X.2.2.1.length ρ X.2.1 st ∧ va_P D cl (ab_WD cy ad wr sh σ) H ∧ va_S A H0 H locs
/-- from a known frame on -/
def ab_To (p : Program) (l : Launch) (e : Env) (R : Room) (s : State) (m : MethodId) (args : Array Value) (below : List Frame) (meth : Method) (c : Code) (cells slots : Nat) (Q : State → Prop) (cy : Nat → ClassId) (ad wr cr : Nat → Nat) (D : va_G) (cl : List vw_C) (sh : List ab_SP) (T : ab_RG) (C : ab_CT) (nL n0 : Nat) (ρ0 : Nat → Int) (σ0 : ab_SG) (A : Nat → Prop) (H0 : Heap) (n : Nat) (ρ : Nat → Int) (q : Nat × ab_AS) : Prop :=
  ∀ (ρ' : Nat → Int) (σ' : ab_SG) (H' : Heap) (locs' : List Loc) (ls' : Array Slot) (st' : List Value), n ≤ q.2.2.2.1.length → (∀ i, i < n → ρ' i = ρ i) → ab_Gm cy ad wr cr D cl sh T C nL n0 ρ0 σ0 A H0 q.2 ρ' σ' H' locs' ls' st' → W p l e R s m args below meth c H' locs' cells slots Q (F0 m q.1 ls' st')
set_option maxHeartbeats 4000000 in
theorem ab_cl_ok {cells slots : Nat} (hcs : cells ≤ R.cells ∧ slots ≤ R.slots) (hx : p.tables.exec = Jvm.exec) (hb : c.code = cc) (hml : c.maxLocals = nL) (hown : s.vm.findClass own = some m.cls) (hts : ∀ w ∈ Ts, w.before args s = true) (hKK : va_K D cl (ab_tys cy) s) (hN : ab_okN NW s) (hCB : ab_CB cy ad wr cr kd A s) (hH0 : H0 = s.heap) (hTT : ∀ w ∈ TT, w ∈ Ts ∧ goodWord w = true) (hcode : ∀ mr ∈ MT, goodWord (Jvm.Cond.code mr.1 mr.2.1 mr.2.2.1 mr.2.2.2.1) = true)
    (hA : ∀ k, k < sh.length → A (ad k)) (hA2 : ∀ q, H0.size ≤ q → A q) (hPM : ∀ q ∈ PM, ab_mlk MT Ts NW own q) (hKS : ∀ q ∈ KS, ab_hold l cy ad wr cr D cl sh T C NW kd TT MT q) (hR : lev ≤ R.frames ∧ 40 * lev ≤ R.locals)
    {ls9 : List ab_AS} (h : ab_cl T MT PM KS lev i len X = some ls9) (hdg : decode cc pc = .ok (i, len)) {ρ : Nat → Int} {σ : ab_SG} (hG : ab_Gm cy ad wr cr D cl sh T C nL n0 ρ0 σ0 A H0 X ρ σ H locs ls st)
    (kk : ∀ x ∈ ls9, ab_To p l e R s m args below meth c cells slots Q cy ad wr cr D cl sh T C nL n0 ρ0 σ0 A H0 X.2.2.1.length ρ (pc + 3, x)) : W p l e R s m args below meth c H locs cells slots Q (F0 m pc ls st) := by
  obtain ⟨L, S, B, F, Dl, M⟩ := X
  obtain ⟨hK, hr0, hn0, hL, hS, hP, hSS⟩ := hG
  dsimp only at hK hr0 hn0 hL hS kk
  unfold ab_cl at h
  split at h
  · rename_i ob x9 hiv
    split at h
    · rename_i q9 hq9
      split at h
      · rename_i mr hmr
        split at h
        · rename_i as rest hpop
          obtain ⟨g, h2⟩ := ab_co h
          rw [Bool.and_eq_true, Bool.and_eq_true, Bool.and_eq_true] at g
          obtain ⟨⟨⟨g1, g2⟩, g3⟩, g4⟩ := g
          have := ab_beq g1; subst this
          have g2 : mr.2.2.2.2.2.1 = ob := eq_of_beq g2
          have g3 := Nat.le_of_ble_eq_true g3
          have g4 := Nat.le_of_ble_eq_true g4
          obtain ⟨w9, hw9, htr⟩ := ab_try_ok h2
          unfold ab_tr1 at htr
          obtain ⟨t1, htr⟩ := ab_co htr
          rw [Bool.and_eq_true, Bool.and_eq_true] at t1
          obtain ⟨⟨t1, t2⟩, -⟩ := t1
          have t1 := ab_beq t1
          have t2 := Nat.le_of_ble_eq_true t2
          split at htr
          · rename_i B1 D1 hmat
            obtain ⟨hvf, htr⟩ := ab_cs htr
            obtain ⟨ρ1, m1, m2, m3⟩ := ab_mat_ok _ hK hmat
            have hqi : q9.1 = x9 := by
              have := List.find?_some hq9
              exact ab_beq this
            have hml9 := hPM q9 (List.mem_of_find?_eq_some hq9) mr hmr
            obtain ⟨c1, c2, c3, c4, c5, c6, c7⟩ := hml9
            obtain ⟨e0, e1, e2⟩ := hKS w9 hw9 mr (by rw [t1]; exact hmr)
            obtain ⟨p1, p2⟩ := ab_pop_ok _ _ _ hpop
            rw [List.reverse_nil, List.nil_append] at p1
            have hS1 := ab_okS_ext hS m2 m3
            have hSm : ∀ a ∈ as, ab_sy B1.length a := fun a ha => hS1.2 a (by show a ∈ S; rw [show S = as.reverse ++ rest from p1]; exact List.mem_append_left _ (List.mem_reverse.mpr ha))
            have hrm : ∀ a ∈ rest, ab_sy B1.length a := fun a ha => hS1.2 a (by show a ∈ S; rw [show S = as.reverse ++ rest from p1]; exact List.mem_append_right _ ha)
            have hst : st = (as.map (ab_V ad wr cr ρ1)).reverse ++ rest.map (ab_V ad wr cr ρ1) := by
              rw [hS1.1, show S = as.reverse ++ rest from p1, List.map_append, List.map_reverse]
            obtain ⟨v1, v2⟩ := ab_vf_th m1.1 hvf
            obtain ⟨vK, -, vS⟩ := ab_vf_ok (ad := ad) (wr := wr) (cr := cr) (nL := nL) (ls := ls) (st := as.map (ab_V ad wr cr ρ1)) (L := []) hvf (ab_K_start m1) ⟨⟨hL.1.1, hL.1.2.1, fun q hq => by cases hq⟩, fun q hq => by cases hq⟩ ⟨rfl, hSm⟩
            have hM := e2 _ σ H.size vK vS.2
            rw [← vS.1] at hM
            have hws : ∀ w ∈ (Jvm.Cond.code mr.1 mr.2.1 mr.2.2.1 mr.2.2.2.1 :: TT), ∀ (a' : Array Value) (U : State), s.WarmedH U.vm → w.before a' U = true := by
              intro w hw a' U hW
              rcases List.mem_cons.mp hw with rfl | hw
              · exact word_at hW (good_of_word (hcode mr (List.mem_of_getElem? hmr))) (hts _ c1)
              · exact word_at hW (good_of_word (hTT w hw).2) (hts _ (hTT w hw).1)
            have hcat : ((rest.map (ab_V ad wr cr ρ1)).map fun v => v.category).sum ≤ 8 := by
              have := ab_cat_ok (ad := ad) (wr := wr) (cr := cr) (ρ := ρ1) rest 0
              unfold ab_cat at g3
              rw [this] at g3
              omega
            have hfree : ∀ q, ab_A ad sh.length H.size q → A q := by
              rintro q (⟨k, hk, rfl⟩ | hk)
              · exact hA k hk
              · exact hA2 q (Nat.le_trans hSS.1 hk)
            have hpre : ∀ U : State, U.heap = H → s.WarmedH U.vm → ab_PC cy ad wr cr D cl sh NW kd σ (as.map (ab_V ad wr cr ρ1)) H.size (as.map (ab_V ad wr cr ρ1)).toArray U := fun U hU hW => ⟨rfl, by rw [hU], by rw [hU]; exact hP, va_K.moved hW.alike hKK, ab_okN_moved hW hN, ab_CB_go hCB hW (fun a ha hna => by rw [hU, hSS.2.1 a (by rw [hH0]; exact ha) hna, hH0]) hfree⟩
            have hsig : ∀ sig, parseMethodDescriptor mr.1.desc = some sig → mr.2.2.2.2.1 = sig.parameters.length := fun sig hsg => by
              rw [hsg] at c4
              exact (Option.some.inj c4).symm
            have hfr : (ab_room w9.2.1).frames + 1 ≤ R.frames := by show w9.2.1 + 1 ≤ _; omega
            have hlo : 8 + (mr.2.2.1 + 11) + (ab_room w9.2.1).locals ≤ R.locals := by show 8 + (mr.2.2.1 + 11) + 40 * w9.2.1 ≤ _; omega
            have hfix : CallFix p m c cc nL s args Ts own := ⟨hx, hb, hml, hown, hts⟩
            have hA3 : ∀ q, q < H.size → ab_A ad sh.length H.size q → A q := by
              rintro q hq (⟨k, hk, rfl⟩ | hk)
              · exact hA k hk
              · exact absurd hq (Nat.not_lt.mpr hk)
            have fin : va_Run p l e R s m args below meth c H locs cells slots 0 0 (F0 m pc ls st) (rest.map (ab_V ad wr cr ρ1)) (ab_QC cy ad wr cr D cl sh T C w9.2.2.2.1.length (ab_thv (ab_gs 1 [] w9.2.2.1 w9.2.2.2.1 w9.2.2.2.2.2.1 [] as D1) ρ1) σ w9.2.2.2.2.2.2 (ab_A ad sh.length H.size) (as.map (ab_V ad wr cr ρ1)).toArray) (ab_A ad sh.length H.size) → W p l e R s m args below meth c H locs cells slots Q (F0 m pc ls st) := by
              intro hrun
              refine ab_callQ hrun hSS hA3 hfree (fun rv o H1 locs1 ho hps hSS1 => ?_)
              obtain ⟨ρ', σ', q1, q2, q3, q4, q5⟩ := hps
              obtain ⟨ρ2, b1, b2, b3, b4⟩ := ab_af_ok (ad := ad) (wr := wr) (cr := cr) (o := o) m1 v1 v2 q1 q2 q3 q4
              cases hno : (ab_no (ab_af (ab_gs 1 [] w9.2.2.1 w9.2.2.2.1 w9.2.2.2.2.2.1 [] as D1) w9.2.2.2.1.length o B1 F D1 M).2.1 || ab_nf (ab_af (ab_gs 1 [] w9.2.2.1 w9.2.2.2.1 w9.2.2.2.2.2.1 [] as D1) w9.2.2.2.1.length o B1 F D1 M).2.1 (ab_af (ab_gs 1 [] w9.2.2.1 w9.2.2.2.1 w9.2.2.2.2.2.1 [] as D1) w9.2.2.2.1.length o B1 F D1 M).2.2.1 || ab_ng (ab_af (ab_gs 1 [] w9.2.2.1 w9.2.2.2.1 w9.2.2.2.2.2.1 [] as D1) w9.2.2.2.1.length o B1 F D1 M).2.1 (ab_af (ab_gs 1 [] w9.2.2.1 w9.2.2.2.1 w9.2.2.2.2.2.1 [] as D1) w9.2.2.2.1.length o B1 F D1 M).2.2.1 ((ab_af (ab_gs 1 [] w9.2.2.1 w9.2.2.2.1 w9.2.2.2.2.2.1 [] as D1) w9.2.2.2.1.length o B1 F D1 M).2.2.1.take o.2.2.1.length)) with
              | true => rw [ab_no_ok b1.1, ab_nf_ok b1.1 b1.2.1, ab_ng_ok b1.1 b1.2.1 (fun g hg => List.mem_of_mem_take hg)] at hno; cases hno
              | false =>
                have hmem : (L, (ab_af (ab_gs 1 [] w9.2.2.1 w9.2.2.2.1 w9.2.2.2.2.2.1 [] as D1) w9.2.2.2.1.length o B1 F D1 M).1 ++ rest, (ab_af (ab_gs 1 [] w9.2.2.1 w9.2.2.2.1 w9.2.2.2.2.2.1 [] as D1) w9.2.2.2.1.length o B1 F D1 M).2.1, (ab_af (ab_gs 1 [] w9.2.2.1 w9.2.2.2.1 w9.2.2.2.2.2.1 [] as D1) w9.2.2.2.1.length o B1 F D1 M).2.2.1, (ab_af (ab_gs 1 [] w9.2.2.1 w9.2.2.2.1 w9.2.2.2.2.2.1 [] as D1) w9.2.2.2.1.length o B1 F D1 M).2.2.2.1, (ab_af (ab_gs 1 [] w9.2.2.1 w9.2.2.2.1 w9.2.2.2.2.2.1 [] as D1) w9.2.2.2.1.length o B1 F D1 M).2.2.2.2) ∈ ls9 := by
                  rw [← htr]
                  refine List.mem_filterMap.mpr ⟨o, ho, ?_⟩
                  show cond (ab_no (ab_af (ab_gs 1 [] w9.2.2.1 w9.2.2.2.1 w9.2.2.2.2.2.1 [] as D1) w9.2.2.2.1.length o B1 F D1 M).2.1 || ab_nf (ab_af (ab_gs 1 [] w9.2.2.1 w9.2.2.2.1 w9.2.2.2.2.2.1 [] as D1) w9.2.2.2.1.length o B1 F D1 M).2.1 (ab_af (ab_gs 1 [] w9.2.2.1 w9.2.2.2.1 w9.2.2.2.2.2.1 [] as D1) w9.2.2.2.1.length o B1 F D1 M).2.2.1 || ab_ng (ab_af (ab_gs 1 [] w9.2.2.1 w9.2.2.2.1 w9.2.2.2.2.2.1 [] as D1) w9.2.2.2.1.length o B1 F D1 M).2.1 (ab_af (ab_gs 1 [] w9.2.2.1 w9.2.2.2.1 w9.2.2.2.2.2.1 [] as D1) w9.2.2.2.1.length o B1 F D1 M).2.2.1 ((ab_af (ab_gs 1 [] w9.2.2.1 w9.2.2.2.1 w9.2.2.2.2.2.1 [] as D1) w9.2.2.2.1.length o B1 F D1 M).2.2.1.take o.2.2.1.length)) none (some _) = some _
                  rw [hno]
                  rfl
                have hag : ∀ i, i < B.length → ρ2 i = ρ i := fun i hi => (b3 i (Nat.lt_of_lt_of_le hi m2)).trans (m3 i hi)
                refine kk _ hmem ρ2 σ' H1 locs1 ls (rv.toList ++ rest.map (ab_V ad wr cr ρ1)) (Nat.le_trans m2 b2) hag ⟨b1, fun i hi => (hag i (Nat.lt_of_lt_of_le hi hn0)).trans (hr0 i hi), Nat.le_trans hn0 (Nat.le_trans m2 b2), ab_okL_ext hL (Nat.le_trans m2 b2) hag, ?_, q5, hSS1⟩
                refine ⟨?_, ?_⟩
                · rw [List.map_append, ← b4.1]
                  congr 1
                  exact List.map_congr_left (fun a ha => (ab_V_ext (hrm a ha) b3).symm)
                · intro a ha
                  rcases List.mem_append.mp ha with ha | ha
                  · exact b4.2 a ha
                  · exact ab_sy_mono (hrm a ha) b2
            have hall : (ab_room w9.2.1).cells = 0 ∧ (ab_room w9.2.1).slots = 0 ∧ (ab_room w9.2.1).frames + 1 ≤ R.frames ∧ 8 + (mr.2.2.1 + 11) + (ab_room w9.2.1).locals ≤ R.locals ∧ (∀ w ∈ (Jvm.Cond.code mr.1 mr.2.1 mr.2.2.1 mr.2.2.2.1 :: TT), ∀ (a' : Array Value) (U : State), s.WarmedH U.vm → w.before a' U = true) ∧ Jvm.Cond.code mr.1 mr.2.1 mr.2.2.1 mr.2.2.2.1 ∈ (Jvm.Cond.code mr.1 mr.2.1 mr.2.2.1 mr.2.2.2.1 :: TT) := ⟨rfl, rfl, hfr, hlo, hws, List.mem_cons_self⟩
            have hroom : 2 * (F0 m pc ls st).monitorRoom + ((rest.map (ab_V ad wr cr ρ1)).map fun v => v.category).sum ≤ 8 := lv_room (rest := st) hcat
            have hz : cells + 0 ≤ R.cells ∧ slots + 0 ≤ R.slots := hcs
            have hlz : ls.size = nL := hL.1.1
            unfold ab_iv at hiv
            split at hiv
            · cases hiv
              obtain ⟨k9, z9, as9, ci9, fs9, T9, N9, r1, r2, r3⟩ := e1 g2
              obtain ⟨d1, d2⟩ := c5 g2
              have has : ∃ as2 : List ab_AV, as.map (ab_V ad wr cr ρ1) = .ref (ad k9) :: as2.map (ab_V ad wr cr ρ1) ∧ as2.length = mr.2.2.2.2.1 := by
                rw [r1] at vS
                cases as with
                | nil => cases vS.1
                | cons a as =>
                  have v3 := vS.1
                  rw [List.map_cons, List.map_cons] at v3
                  have v4 := (List.cons.inj v3).1
                  refine ⟨as, by rw [List.map_cons, v4]; rfl, ?_⟩
                  rw [List.length_cons] at p2
                  have : as.length + 1 = mr.2.2.2.2.1 + 1 + 0 := p2
                  omega
              obtain ⟨as2, has1, has2⟩ := has
              rw [has1] at hM hpre fin hst
              rw [List.reverse_cons, List.append_assoc] at hst
              have hrecv := va_recv hKK hP r3 (ab_cell_f (σ := σ) (cy := cy) (ad := ad) (wr := wr) r2)
              have hpv : PreV s H mr.1.cls (ad k9) (ab_PC cy ad wr cr D cl sh NW kd σ (.ref (ad k9) :: as2.map (ab_V ad wr cr ρ1)) H.size) (as2.map (ab_V ad wr cr ρ1)) := ⟨ab_PC_blind, hrecv, hpre⟩
              rcases c7 with ⟨-, c7⟩ | ⟨host, c7⟩
              · rw [hqi] at c7
                exact fin (va_runV (As := as2.map (ab_V ad wr cr ρ1)) hfix hM ⟨⟨rfl, rfl, hfr, hlo, hws, List.mem_cons_self, hts _ c1, hts _ c2, c3, hsig, hts _ c7⟩, hts _ d1, hts _ d2⟩ hpv rfl (by rw [List.length_map]; exact has2) hlz hst hroom hdg hz)
              · rw [hqi] at c7
                have zN := hN _ c7
                dsimp only at zN
                exact fin (va_runVN (As := as2.map (ab_V ad wr cr ρ1)) hfix hM ⟨⟨hall, hts _ c1, hts _ c2, c3, hsig, va_Nw.use rfl zN⟩, hts _ d1, hts _ d2⟩ hpv rfl (by rw [List.length_map]; exact has2) hlz hst hroom hdg hz)
            · cases hiv
              have d1 := c6 g2
              have hps : PreS s H (ab_PC cy ad wr cr D cl sh NW kd σ (as.map (ab_V ad wr cr ρ1)) H.size) (as.map (ab_V ad wr cr ρ1)) := ⟨ab_PC_blind, hpre⟩
              have hlen : (as.map (ab_V ad wr cr ρ1)).length = mr.2.2.2.2.1 := by
                rw [List.length_map]
                have : as.length = mr.2.2.2.2.1 + 0 + 0 := p2
                omega
              rcases c7 with ⟨-, c7⟩ | ⟨host, c7⟩
              · rw [hqi] at c7
                exact fin (va_runS (As := as.map (ab_V ad wr cr ρ1)) hfix hM ⟨⟨rfl, rfl, hfr, hlo, hws, List.mem_cons_self, hts _ c1, hts _ c2, c3, hsig, hts _ c7⟩, hts _ d1⟩ hps rfl hlen hlz hst hroom hdg hz)
              · rw [hqi] at c7
                have zN := hN _ c7
                dsimp only at zN
                exact fin (va_runSN (As := as.map (ab_V ad wr cr ρ1)) hfix hM ⟨⟨hall, hts _ c1, hts _ c2, c3, hsig, va_Nw.use rfl zN⟩, hts _ d1, trivial⟩ hps rfl hlen hlz hst hroom hdg hz)
            · cases hiv
          · cases htr
        · cases h
      · cases h
    · cases h
  · cases h
end
