section
section
variable {p : Program} {l : Launch} {e : Env} {s : State} {m : MethodId} {args : Array Value} {below : List Frame} {meth : Method} {c : Code} {H : Heap} {locs : List Loc} {Q : State → Prop} {cc : ByteArray} {pc : Nat} {ls : Array Slot} {st : List Value} {R : Room}
variable {ad wr cr : Nat → Nat} {cy : Nat → ClassId} {nL n0 lev : Nat} {T : ab_RG} {C : ab_CT} {σ0 : ab_SG} {ρ0 : Nat → Int} {own : String} {i : Instr} {len : Nat} {D : va_G} {cl : List vw_C} {sh : List ab_SP} {A : Nat → Prop} {H0 : Heap} {Ts TT : List Jvm.Cond} {NW : ab_NW} {MT : List ab_MR} {PM : ab_PC2} {KS : ab_KS} {X : ab_AS} {KI KJ : List (Nat × Int)} {PF : ab_PT} {kd : ab_KD} {PS : ab_PS}
/-- the form of an answer goes with its type -/
def ab_rkok (rk : Nat) (ret : Option FieldType) : Prop := match rk with
  | 0 => ret = some .int
  | 1 => ret = some .boolean
  | 2 => ret = some .long
  | 3 => ∃ n, ret = some (.object n)
  | _ => ret = none
set_option maxHeartbeats 4000000 in
theorem ab_rt_ok {rk : Nat} {os : List ab_OU} {ret : Option FieldType} {cells slots : Nat} (hx : p.tables.exec = Jvm.exec) (hb : c.code = cc) (hret : meth.sig.returnType = ret) (hrk : ab_rkok rk ret) (hlocks : meth.locks = false)
    (h : ab_rt T n0 os rk i len X = true) (hdg : decode cc pc = .ok (i, len)) {ρ : Nat → Int} {σ : ab_SG} (hG : ab_Gm cy ad wr cr D cl sh T C nL n0 ρ0 σ0 A s.heap X ρ σ H locs ls st) :
    W p l e R s m args below meth c H locs cells slots (MQ below (ab_QC cy ad wr cr D cl sh T C n0 ρ0 σ0 os A) args s cells slots A) (F0 m pc ls st) := by
  obtain ⟨L, S, B, F, Dl, M⟩ := X
  obtain ⟨hK, hr0, hn0, hL, hS, hP, hSS⟩ := hG
  dsimp only at hK hr0 hn0 hL hS
  unfold ab_rt at h
  rw [Bool.and_eq_true, Bool.and_eq_true] at h
  obtain ⟨⟨h1, h3⟩, h2⟩ := h
  have := ab_beq h1; subst this
  obtain ⟨o, ho, hen⟩ := List.any_eq_true.mp h2
  have post : ∀ (rv : Option Value), st = rv.toList → ∀ t : State, t.heap = H → ab_QC cy ad wr cr D cl sh T C n0 ρ0 σ0 os A args s (.returned rv) t := by
    intro rv hrv t ht
    refine ⟨⟨rv, o, rfl, ho, ?_⟩, hSS.F ht⟩
    unfold ab_en at hen
    split at hen
    · rename_i B1 D1 hmat
      rw [Bool.and_eq_true] at hen
      obtain ⟨ρ1, m1, m2, m3⟩ := ab_mat_ok _ hK hmat
      obtain ⟨v1, v2⟩ := ab_vf_th m1.1 hen.1
      obtain ⟨vK, -, vS⟩ := ab_vf_ok (ad := ad) (wr := wr) (cr := cr) (nL := nL) (ls := ls) (L := []) hen.1 m1 ⟨⟨hL.1.1, hL.1.2.1, fun q hq => by cases hq⟩, fun q hq => by cases hq⟩ (ab_okS_ext hS m2 m3)
      obtain ⟨w1, w2⟩ := ab_rid_ok (ρ := ρ1) n0 0 _ hen.2
      refine ⟨_, σ, fun j hj => ?_, by rw [← v2]; exact w1, vK, by rw [← hrv]; exact vS, by rw [ht]; exact hP⟩
      rw [w2 j hj, Nat.zero_add, m3 j (Nat.lt_of_lt_of_le hj hn0), hr0 j hj]
    · cases hen
  replace h3 : ab_rk rk B i S = true := h3
  unfold ab_rk at h3
  split at h3
  · rename_i s9 c9
    obtain ⟨st1, rfl, hs1, hS1⟩ := ab_okS_pop hS
    have : st1 = [] := hS1.1
    subst this
    rw [Bool.or_eq_true] at h3
    rcases h3 with h3 | h3
    · have h3 := ab_beq h3
      subst h3
      exact W.iret hx hb (hret.trans hrk) (fun t ht _ => post (some (.int _)) rfl t ht) hSS.2.2 hdg hlocks
    · rw [Bool.and_eq_true] at h3
      have h4 := ab_beq h3.1
      subst h4
      have hf : (ab_le 0 (ab_lo B s9 + c9) && ab_le (ab_hi B s9 + c9) 1) = true := h3.2
      rw [Bool.and_eq_true, ab_le_iff, ab_le_iff] at hf
      have hs1 : s9 < B.length := hs1
      have hb9 := hK.1 s9 hs1
      exact W.zret hx hb (hret.trans hrk) (ab_nar_zv (x := ρ s9 + c9) (by omega) (by omega)).1 (fun t ht _ => post (some (.int _)) rfl t ht) hSS.2.2 hdg hlocks
  · obtain ⟨st1, rfl, hs1, hS1⟩ := ab_okS_pop hS
    have : st1 = [] := hS1.1
    subst this
    have h3 := ab_beq h3
    subst h3
    exact W.lret hx hb (hret.trans hrk) (fun t ht _ => post (some (.long _)) rfl t ht) hSS.2.2 hdg hlocks
  · rename_i a9
    obtain ⟨st1, rfl, hs1, hS1⟩ := ab_okS_pop hS
    have : st1 = [] := hS1.1
    subst this
    rw [Bool.and_eq_true] at h3
    have h4 := ab_beq h3.1
    subst h4
    obtain ⟨n9, hn9⟩ := hrk
    refine W.aret (v := ab_V ad wr cr ρ a9) hx hb (hret.trans hn9) (Or.inl ⟨n9, rfl⟩) ?_ (fun t ht _ => post (some _) rfl t ht) hSS.2.2 hdg hlocks
    rcases ab_ref (ad := ad) (wr := wr) (cr := cr) (ρ := ρ) h3.2 with ⟨x, hx1⟩ | hx1
    · exact Or.inr ⟨x, hx1⟩
    · exact Or.inl hx1
  · have : st = [] := hS.1
    subst this
    have h3 := ab_beq h3
    subst h3
    exact W.vret hx hb (hret.trans hrk) (fun t ht _ => post none rfl t ht) hSS.2.2 hdg hlocks
  · cases h3
/-- all that a method's run stands on -/
def ab_Ev (p : Program) (l : Launch) (s : State) (m : MethodId) (args : Array Value) (meth : Method) (c : Code) (cc : ByteArray) (nL lev : Nat) (R : Room) (cy : Nat → ClassId) (ad wr cr : Nat → Nat) (D : va_G) (cl : List vw_C) (sh : List ab_SP) (T : ab_RG) (C : ab_CT) (own : String) (A : Nat → Prop) (H0 : Heap) (Ts TT : List Jvm.Cond) (NW : ab_NW) (MT : List ab_MR) (KI KJ : List (Nat × Int)) (PF : ab_PT) (kd : ab_KD) (PS : ab_PS) (PM : ab_PC2) (KS : ab_KS) (sc n0 : Nat) (ρ0 : Nat → Int) (cells slots : Nat) (dt : ab_DT) (σ0 : ab_SG) : Prop :=
  p.tables.exec = Jvm.exec ∧ c.code = cc ∧ c.maxLocals = nL ∧ s.vm.findClass own = some m.cls ∧ (∀ w ∈ Ts, w.before args s = true) ∧ va_K D cl (ab_tys cy) s ∧ ab_okN NW s ∧ (∀ w ∈ TT, w ∈ Ts ∧ goodWord w = true) ∧ (∀ mr ∈ MT, goodWord (Jvm.Cond.code mr.1 mr.2.1 mr.2.2.1 mr.2.2.2.1) = true) ∧
  (∀ k, k < sh.length → A (ad k)) ∧ (∀ q, H0.size ≤ q → A q) ∧ (∀ q ∈ PM, ab_mlk MT Ts NW own q) ∧ (∀ q ∈ KS, ab_hold l cy ad wr cr D cl sh T C NW kd TT MT q) ∧ (lev ≤ R.frames ∧ 40 * lev ≤ R.locals) ∧
  (∀ q ∈ KI, (Jvm.Cond.constant own q.1 (Int32.ofInt q.2)).before args s = true) ∧ (∀ q ∈ KJ, (Jvm.Cond.constantLong own q.1 (Int64.ofInt q.2)).before args s = true) ∧ (∀ q ∈ PF, ab_fok cl Ts own q) ∧ (∀ σ, va_D A (ab_WD cy ad wr sh σ)) ∧ ab_CB cy ad wr cr kd A s ∧ H0 = s.heap ∧ (∀ q ∈ PS, ab_psok Ts kd own q) ∧ (cells ≤ R.cells ∧ slots ≤ R.slots) ∧ (sc = 1 → ∃ (L : Nat) (xs : Nat → Int32), va_X (cr 999) L xs s H0 ∧ cr 999 < H0.size ∧ ¬ A (cr 999) ∧ ρ0 1 = (L : Int) ∧ 1 < n0 ∧ ∀ j : Nat, j < L → σ0 140 j = (xs j).toInt) ∧ ab_dtok cc dt = true
theorem ab_sxj {n s9 : Nat} {c9 : Int} {ρ : Nat → Int} (h0 : 0 ≤ c9) (h1 : c9 ≤ 999) (hs : s9 < n) : ab_kn n (2000000 + 1000 * s9 + c9.toNat) ∧ ab_kv ρ (2000000 + 1000 * s9 + c9.toNat) = (ρ s9 + c9).toNat := by
  have e1 : (2000000 + 1000 * s9 + c9.toNat - 2000000) / 1000 = s9 := by omega
  have e2 : (2000000 + 1000 * s9 + c9.toNat - 2000000) % 1000 = c9.toNat := by omega
  have e3 : (2000000 + 1000 * s9 + c9.toNat).ble 1999999 = false := by rw [← Bool.not_eq_true]; intro q; have := Nat.le_of_ble_eq_true q; omega
  refine ⟨Or.inr (by rw [e1]; exact hs), ?_⟩
  unfold ab_kv
  rw [e3, e1, e2]
  show (ρ s9 + ((c9.toNat : Nat) : Int)).toNat = _
  rw [Int.toNat_of_nonneg h0]
theorem ab_sx_ok {cells slots sc : Nat} {F : ab_FT} {B B' : ab_BD} {Dl Dl' : ab_DL} {M : ab_ML} {S S' : List ab_AV} {ρ : Nat → Int} {σ : ab_SG} (hx : p.tables.exec = Jvm.exec) (hb : c.code = cc) (hsc : sc = 1 → ∃ (L : Nat) (xs : Nat → Int32), va_X (cr 999) L xs s H0 ∧ cr 999 < H0.size ∧ ¬ A (cr 999) ∧ ρ0 1 = (L : Int) ∧ 1 < n0 ∧ ∀ j : Nat, j < L → σ0 140 j = (xs j).toInt)
    (h : ab_sx sc i len S B F Dl M = some (S', B', Dl')) (hdg : decode cc pc = .ok (i, len)) (hK : ab_K T C σ0 B F Dl M ρ σ) (hr0 : ∀ i, i < n0 → ρ i = ρ0 i) (hn0 : n0 ≤ B.length) (hS : ab_okS ad wr cr B.length ρ S st) (hSS : va_S A H0 H locs)
    (kk : ∀ (ρ' : Nat → Int) (st' : List Value), ab_K T C σ0 B' F Dl' M ρ' σ → B.length ≤ B'.length → (∀ i, i < B.length → ρ' i = ρ i) → ab_okS ad wr cr B'.length ρ' S' st' → W p l e R s m args below meth c H locs cells slots Q (F0 m (pc + len) ls st')) : W p l e R s m args below meth c H locs cells slots Q (F0 m pc ls st) := by
  unfold ab_sx at h
  split at h
  · split at h
    · rename_i s9 c9 k9 z9 S9
      obtain ⟨g, h2⟩ := ab_co h
      rw [Bool.and_eq_true, Bool.and_eq_true, Bool.and_eq_true, Bool.and_eq_true, Bool.and_eq_true] at g
      obtain ⟨⟨⟨⟨⟨g1, g2⟩, g3⟩, g4⟩, g5⟩, g6⟩ := g
      have := ab_beq g1; subst this
      have g3 := ab_beq g3; subst g3
      have g4 := ab_le_iff.mp g4
      have g6 := ab_le_iff.mp g6
      obtain ⟨L9, xs9, x1, x2, x3, x4, x5, x6⟩ := hsc (ab_beq g2)
      obtain ⟨st1, rfl, hs1, hS1⟩ := ab_okS_pop hS
      obtain ⟨st2, rfl, hs2, hS2⟩ := ab_okS_pop hS1
      have hs1 : s9 < B.length := hs1
      have ex := ab_in_ok hK.1 hs1 g5
      have u := ab_ub_ok hK.1 hK.2.1 hs1 (Nat.lt_of_lt_of_le x5 hn0)
      have bx := hK.1 s9 hs1
      rw [hr0 1 x5, x4] at u
      have hin : vp_in (Int32.ofInt (ρ s9 + c9)) L9 := vp_in_iff.mpr ⟨by rw [ex]; omega, by rw [ex]; omega⟩
      refine va_sld hx hb x1 x2 x3 hSS hin hdg ?_
      have hix : (Int32.ofInt (ρ s9 + c9)).toNatClampNeg = (ρ s9 + c9).toNat := by show (Int32.ofInt (ρ s9 + c9)).toInt.toNat = _; rw [ex]
      have hlt : (ρ s9 + c9).toNat < L9 := by omega
      have hval : M.all (fun q => !(q.1.beq 140)) = true → σ 140 (ρ s9 + c9).toNat = (xs9 (ρ s9 + c9).toNat).toInt := by
        intro hM
        rw [← x6 _ hlt]
        refine hK.2.2.2.2.2.2.2 140 _ (fun q hq hq2 => ?_)
        have h9 := List.all_eq_true.mp hM q hq
        rw [hq2.1] at h9
        cases h9
      rw [hix]
      generalize hzz : xs9 (ρ s9 + c9).toNat = z at hval ⊢
      have hl : (B ++ [((-2147483648 : Int), (2147483647 : Int))]).length = B.length + 1 := by rw [List.length_append, List.length_singleton]
      have hz := ab_r32 z
      have hv := ab_K_fresh hK (v := z.toInt) (l := -2147483648) (u := 2147483647) hz.1 hz.2 [] (by intro f hf; cases hf)
      have hρ : ∀ i, i < B.length → (fun i => if i = B.length then z.toInt else ρ i) i = ρ i := fun i hi => if_neg (by omega)
      have hρn : (fun i => if i = B.length then z.toInt else ρ i) B.length = z.toInt := if_pos rfl
      have hk := ab_okS_push (a := (0, B.length, 0)) (ab_okS_ext hS2 (Nat.le_of_lt (by rw [hl]; omega : B.length < (B ++ [((-2147483648 : Int), (2147483647 : Int))]).length)) hρ) (by show B.length < _; rw [hl]; omega)
      rw [show ab_V ad wr cr (fun i => if i = B.length then z.toInt else ρ i) (0, B.length, 0) = .int z from by
        show Value.int (Int32.ofInt ((if B.length = B.length then z.toInt else _) + 0)) = _
        rw [if_pos rfl, Int.add_zero, Int32.ofInt_toInt]] at hk
      split at h2
      · rename_i j9 hj9
        obtain ⟨g, hj⟩ := ab_cs hj9
        rw [Bool.and_eq_true, Bool.and_eq_true, ab_le_iff, ab_le_iff] at g
        obtain ⟨⟨q1, q2⟩, q3⟩ := g
        subst hj
        have hval := hval q3
        obtain ⟨n1, n2⟩ := ab_sxj (ρ := ρ) q1 q2 hs1
        split at h2
        · rename_i q9 hq9
          cases h2
          obtain ⟨d1, -, d3⟩ := hK.2.2.2.2.1 _ (ab_dk_mem hq9)
          have d3 : σ 140 (ab_kv ρ (2000000 + 1000 * s9 + c9.toNat)) = ρ q9.1 + q9.2 := d3
          rw [n2, hval] at d3
          have hk2 := kk ρ _ hK (Nat.le_refl _) (fun _ _ => rfl) (ab_okS_push (a := (0, q9.1, q9.2)) hS2 d1)
          rw [show ab_V ad wr cr ρ (0, q9.1, q9.2) = .int z from by
            show Value.int (Int32.ofInt (ρ q9.1 + q9.2)) = _
            rw [← d3, Int32.ofInt_toInt]] at hk2
          exact hk2
        · cases h2
          refine kk _ _ ⟨hv.1, hv.2.1, hv.2.2.1, hv.2.2.2.1, ?_, hv.2.2.2.2.2⟩ (by rw [hl]; omega) hρ hk
          intro d hd
          rcases List.mem_cons.mp hd with rfl | hd
          · refine ⟨by show B.length < _; rw [hl]; omega, ab_kn_mono n1 (by rw [hl]; omega), ?_⟩
            show σ 140 (ab_kv _ (2000000 + 1000 * s9 + c9.toNat)) = (fun i => if i = B.length then z.toInt else ρ i) B.length + 0
            rw [ab_kv_ext n1 hρ, n2, hval, hρn, Int.add_zero]
          · exact hv.2.2.2.2.1 d hd
      · cases h2
        exact kk _ _ hv (by rw [hl]; omega) hρ hk
    · cases h
  · split at h
    · rename_i k9 z9 S9
      obtain ⟨g, h2⟩ := ab_cs h
      rw [Bool.and_eq_true, Bool.and_eq_true] at g
      obtain ⟨⟨g1, g2⟩, g3⟩ := g
      have := ab_beq g1; subst this
      have g3 := ab_beq g3; subst g3
      cases h2
      obtain ⟨L9, xs9, x1, x2, x3, x4, x5, -⟩ := hsc (ab_beq g2)
      obtain ⟨st1, rfl, hs1, hS1⟩ := ab_okS_pop hS
      refine va_slen hx hb x1 x2 x3 hSS hdg ?_
      have hk := kk ρ _ hK (Nat.le_refl _) (fun _ _ => rfl) (ab_okS_push (a := (0, 1, 0)) hS1 (Nat.lt_of_lt_of_le x5 hn0))
      rw [show ab_V ad wr cr ρ (0, 1, 0) = .int (Int32.ofInt (L9 : Int)) from by
        show Value.int (Int32.ofInt (ρ 1 + 0)) = _
        rw [hr0 1 x5, x4, Int.add_zero]] at hk
      exact hk
    · cases h
  · cases h
set_option maxHeartbeats 4000000 in
theorem ab_st_ok {dt : ab_DT} {rk sc cells slots : Nat} {os : List ab_OU} {sp : List Nat} (hE : ab_Ev p l s m args meth c cc nL lev R cy ad wr cr D cl sh T C own A H0 Ts TT NW MT KI KJ PF kd PS PM KS sc n0 ρ0 cells slots dt σ0)
    {l9 : List (Nat × ab_AS)} (h : ab_st cl T C sh MT KI KJ PF kd PS PM KS lev sc dt nL n0 os rk sp pc X = some l9) {ρ : Nat → Int} {σ : ab_SG} (hG : ab_Gm cy ad wr cr D cl sh T C nL n0 ρ0 σ0 A H0 X ρ σ H locs ls st)
    (hRT : ∀ i len, decode cc pc = .ok (i, len) → ab_rt T n0 os rk i len X = true → W p l e R s m args below meth c H locs cells slots Q (F0 m pc ls st))
    (kk : ∀ q ∈ l9, ab_To p l e R s m args below meth c cells slots Q cy ad wr cr D cl sh T C nL n0 ρ0 σ0 A H0 X.2.2.1.length ρ q) : W p l e R s m args below meth c H locs cells slots Q (F0 m pc ls st) := by
  obtain ⟨hx, hb, hml, hown, hts, hKK, hN, hTT, hcode, hA, hA2, hPM, hKS, hR, hKI, hKJ, hPF, hD, hCB, hH0, hPS, hcs, hsc, hdt⟩ := hE
  have hG0 := hG
  obtain ⟨L, S, B, F, Dl, M⟩ := X
  obtain ⟨hK, hr0, hn0, hL, hS, hP, hSS⟩ := hG
  dsimp only at hK hr0 hn0 hL hS kk
  unfold ab_st at h
  have pu : ∀ {i9 : Instr} {len9 : Nat}, decode cc pc = .ok (i9, len9) → ∀ {r9 : ab_PU}, ab_pu KI KJ nL i9 len9 L S B F = some r9 → l9 = [(pc + len9, (r9.1, r9.2.1, r9.2.2.1, r9.2.2.2, Dl, M))] → W p l e R s m args below meth c H locs cells slots Q (F0 m pc ls st) := by
    intro i9 len9 hdg r9 hr9 hl
    subst hl
    obtain ⟨L', S', B', F'⟩ := r9
    refine ab_pu_ok (ad := ad) (wr := wr) (cr := cr) hx hb hown hKI hKJ hr9 hdg hK hL hS (fun ρ' ls' st' a1 a2 a3 a4 a5 => ?_)
    exact kk _ List.mem_cons_self ρ' σ H locs ls' st' a2 a3 ⟨a1, fun i hi => (a3 i (Nat.lt_of_lt_of_le hi hn0)).trans (hr0 i hi), Nat.le_trans hn0 a2, a4, a5, hP, hSS⟩
  have hp : ∀ {i9 : Instr} {len9 : Nat}, decode cc pc = .ok (i9, len9) → ∀ {r9 : ab_HS}, ab_hp cl T C sh PF i9 len9 S B F Dl M = some r9 → l9 = [(pc + len9, (L, r9.1, r9.2.1, F, r9.2.2.1, r9.2.2.2))] → W p l e R s m args below meth c H locs cells slots Q (F0 m pc ls st) := by
    intro i9 len9 hdg r9 hr9 hl
    subst hl
    obtain ⟨S', B', Dl', M'⟩ := r9
    refine ab_hp_ok hx hb hown hts hKK hD hPF hr9 hdg hK hS hP hSS (fun ρ' σ' H' locs' st' a1 a2 a3 a4 a5 a6 => ?_)
    exact kk _ List.mem_cons_self ρ' σ' H' locs' ls st' a2 a3 ⟨a1, fun i hi => (a3 i (Nat.lt_of_lt_of_le hi hn0)).trans (hr0 i hi), Nat.le_trans hn0 a2, ab_okL_ext hL a2 a3, a6, a4, a5⟩
  have ks : ∀ {i9 : Instr} {len9 : Nat}, decode cc pc = .ok (i9, len9) → ∀ {r9 : List ab_AV × ab_BD}, ab_ks kd PS i9 len9 S B = some r9 → l9 = [(pc + len9, (L, r9.1, r9.2, F, Dl, M))] → W p l e R s m args below meth c H locs cells slots Q (F0 m pc ls st) := by
    intro i9 len9 hdg r9 hr9 hl
    subst hl
    obtain ⟨S', B'⟩ := r9
    refine ab_ks_ok (ad := ad) (wr := wr) (cr := cr) hx hb hown hts hKK hCB hPS hr9 hdg hK hS (by rw [← hH0]; exact hSS) (fun ρ' st' a1 a2 a3 a4 => ?_)
    exact kk _ List.mem_cons_self ρ' σ H locs ls st' a2 a3 ⟨a1, fun i hi => (a3 i (Nat.lt_of_lt_of_le hi hn0)).trans (hr0 i hi), Nat.le_trans hn0 a2, ab_okL_ext hL a2 a3, a4, hP, hSS⟩
  have sx : ∀ {i9 : Instr} {len9 : Nat}, decode cc pc = .ok (i9, len9) → ∀ {r9 : List ab_AV × ab_BD × ab_DL}, ab_sx sc i9 len9 S B F Dl M = some r9 → l9 = [(pc + len9, (L, r9.1, r9.2.1, F, r9.2.2, M))] → W p l e R s m args below meth c H locs cells slots Q (F0 m pc ls st) := by
    intro i9 len9 hdg r9 hr9 hl
    subst hl
    obtain ⟨S', B', Dl'⟩ := r9
    refine ab_sx_ok (ad := ad) (wr := wr) (cr := cr) hx hb hsc hr9 hdg hK hr0 hn0 hS hSS (fun ρ' st' a1 a2 a3 a4 => ?_)
    exact kk _ List.mem_cons_self ρ' σ H locs ls st' a2 a3 ⟨a1, fun i hi => (a3 i (Nat.lt_of_lt_of_le hi hn0)).trans (hr0 i hi), Nat.le_trans hn0 a2, ab_okL_ext hL a2 a3, a4, hP, hSS⟩
  have mo : ∀ {i9 : Instr} {len9 : Nat}, decode cc pc = .ok (i9, len9) → ∀ {l8 : List ab_SU}, ab_mo (sp.any (fun x => x.beq pc)) PS lev pc i9 len9 S B F = some l8 → l9 = l8.map (fun q => (q.1, (L, q.2.1, q.2.2.1, q.2.2.2, Dl, M))) → W p l e R s m args below meth c H locs cells slots Q (F0 m pc ls st) := by
    intro i9 len9 hdg l8 hr9 hl
    subst hl
    refine ab_mo_ok (ad := ad) (wr := wr) (cr := cr) hx hb (hml.trans hL.1.1.symm) hown hts hCB hPS hR hcs.1 hcs.2 hr9 hdg hK hS (fun q hq ρ' st' a1 a2 a3 a4 => ?_)
    exact kk _ (List.mem_map.mpr ⟨q, hq, rfl⟩) ρ' σ H locs ls st' a2 a3 ⟨a1, fun i hi => (a3 i (Nat.lt_of_lt_of_le hi hn0)).trans (hr0 i hi), Nat.le_trans hn0 a2, ab_okL_ext hL a2 a3, a4, hP, hSS⟩
  split at h
  · rename_i i9 len9 h9 hdec
    have hdg := ab_dec_ok hdt hdec
    replace hdg : decode cc pc = .ok (i9, len9) := hdg
    split at h
    · split at h
      · rename_i r9 hr9
        exact pu hdg hr9 (Option.some.inj h).symm
      · cases h
    · split at h
      · rename_i r9 hr9
        exact hp hdg hr9 (Option.some.inj h).symm
      · split at h
        · rename_i r9 hr9
          exact ks hdg hr9 (Option.some.inj h).symm
        · split at h
          · rename_i r9 hr9
            exact sx hdg hr9 (Option.some.inj h).symm
          · cases h
    · split at h
      · rename_i l8 hr9
        cases h
        refine ab_br_ok (ad := ad) (wr := wr) (cr := cr) hx hb hr9 hdg ?_ hK.1 hK.2.1 hK.2.2.1 hK.2.2.2.1 hS (fun q hq st' a1 a2 => ?_)
        · intro j n hj
          split at hj
          · rename_i q8 hq8
            cases hj
            exact ab_dec_ok hdt hq8
          · cases hj
        · have hlen : q.2.2.1.length = B.length := a1.1
          have hk := kk _ (List.mem_map.mpr ⟨q, hq, rfl⟩) ρ σ H locs ls st' (by show B.length ≤ q.2.2.1.length; rw [hlen]; exact Nat.le_refl _) (fun _ _ => rfl)
          refine hk ⟨?_, hr0, by show n0 ≤ q.2.2.1.length; rw [hlen]; exact hn0, by show ab_okL _ _ _ q.2.2.1.length _ _ _ _; rw [hlen]; exact hL, by show ab_okS _ _ _ q.2.2.1.length _ _ _; rw [hlen]; exact a2, hP, hSS⟩
          show ab_K T C σ0 q.2.2.1 q.2.2.2 Dl M ρ σ
          exact ⟨a1.2.1, by rw [hlen]; exact a1.2.2, hK.2.2.1, by rw [hlen]; exact hK.2.2.2.1, by rw [hlen]; exact hK.2.2.2.2.1, hK.2.2.2.2.2⟩
      · cases h
    · split at h
      · rename_i l8 hr9
        cases h
        exact ab_cl_ok hcs hx hb hml hown hts hKK hN hCB hH0 hTT hcode hA hA2 hPM hKS hR hr9 hdg hG0 (fun x hx9 => kk _ (List.mem_map.mpr ⟨x, hx9, rfl⟩))
      · split at h
        · rename_i l8 hr9
          exact mo hdg hr9 (Option.some.inj h).symm
        · cases h
    · split at h
      · rename_i r9 hr9
        exact ks hdg hr9 (Option.some.inj h).symm
      · cases h
    · split at h
      · rename_i l8 hr9
        exact mo hdg hr9 (Option.some.inj h).symm
      · cases h
    · obtain ⟨g, h2⟩ := ab_cs h
      exact hRT i9 len9 hdg g
  · cases h
theorem ab_c1_ok {ρ : Nat → Int} {s9 : Nat} {v : Int} {n : Nat} {a : ab_AV} (h0 : ρ 0 = 0) (hn : 0 < n) (hv : ρ s9 = v) (h : ab_sy n a) : ab_V ad wr cr ρ (ab_c1 s9 v a) = ab_V ad wr cr ρ a ∧ ab_sy n (ab_c1 s9 v a) := by
  obtain ⟨t, u, c9⟩ := a
  match t, h with
  | 0, h =>
    cases hc : u.beq s9 with
    | false => have e1 : ab_c1 s9 v (0, u, c9) = (0, u, c9) := by unfold ab_c1; show cond (u.beq s9) _ _ = _; rw [hc]; rfl
               rw [e1]; exact ⟨rfl, h⟩
    | true => have e1 : ab_c1 s9 v (0, u, c9) = (0, 0, v + c9) := by unfold ab_c1; show cond (u.beq s9) _ _ = _; rw [hc]; rfl
              rw [e1]
              have := ab_beq hc
              subst this
              exact ⟨by show Value.int _ = Value.int _; rw [h0, hv, Int.zero_add], hn⟩
  | 1, h =>
    cases hc : u.beq s9 with
    | false => have e1 : ab_c1 s9 v (1, u, c9) = (1, u, c9) := by unfold ab_c1; show cond (u.beq s9) _ _ = _; rw [hc]; rfl
               rw [e1]; exact ⟨rfl, h⟩
    | true => have e1 : ab_c1 s9 v (1, u, c9) = (1, 0, v + c9) := by unfold ab_c1; show cond (u.beq s9) _ _ = _; rw [hc]; rfl
              rw [e1]
              have := ab_beq hc
              subst this
              exact ⟨by show Value.long _ = Value.long _; rw [h0, hv, Int.zero_add], hn⟩
  | 2, _ => exact ⟨rfl, trivial⟩
  | 3, _ => exact ⟨rfl, trivial⟩
  | 4, h =>
    cases hc : u.beq s9 with
    | false => have e1 : ab_c1 s9 v (4, u, c9) = (4, u, c9) := by unfold ab_c1; show cond (u.beq s9) _ _ = _; rw [hc]; rfl
               rw [e1]; exact ⟨rfl, h⟩
    | true => have e1 : ab_c1 s9 v (4, u, c9) = (4, 0, v + c9) := by unfold ab_c1; show cond (u.beq s9) _ _ = _; rw [hc]; rfl
              rw [e1]
              have := ab_beq hc
              subst this
              exact ⟨by show ab_wv _ _ = ab_wv _ _; rw [h0, hv, Int.zero_add], hn⟩
  | n + 5, _ => exact ⟨rfl, trivial⟩
theorem ab_vs_in {s9 : Nat} : ∀ (n : Nat) (v x : Int), v ≤ x → x < v + n → ab_cX s9 x X ∈ ab_vs s9 X n v := by
  intro n
  induction n with
  | zero => intro v x h1 h2; exact absurd h2 (by omega)
  | succ n ih =>
    intro v x h1 h2
    by_cases h : x = v
    · subst h; exact List.mem_cons_self
    · exact List.mem_cons_of_mem _ (ih (v + 1) x (by omega) (by omega))
theorem ab_spl_ok {s9 : Nat} {ρ : Nat → Int} {σ : ab_SG} (hG : ab_Gm cy ad wr cr D cl sh T C nL n0 ρ0 σ0 A H0 X ρ σ H locs ls st) : ∃ X' ∈ ab_spl s9 X, X'.2.2.1.length = X.2.2.1.length ∧ ab_Gm cy ad wr cr D cl sh T C nL n0 ρ0 σ0 A H0 X' ρ σ H locs ls st := by
  unfold ab_spl
  cases hz : (s9.beq 0 || !((s9 + 1).ble X.2.2.1.length)) with
  | true => exact ⟨X, List.mem_singleton.mpr rfl, rfl, hG⟩
  | false =>
    rw [Bool.or_eq_false_iff, Bool.not_eq_false'] at hz
    obtain ⟨hK, hr0, hn0, hL, hS, hP, hSS⟩ := hG
    have hs9 : s9 < X.2.2.1.length := Nat.le_of_ble_eq_true hz.2
    have hb := hK.1 s9 hs9
    refine ⟨ab_cX s9 (ρ s9) X, ab_vs_in _ _ _ hb.1 (by omega), by show (X.2.2.1.set _ _).length = _; rw [List.length_set], ?_⟩
    have hlen : (ab_cX s9 (ρ s9) X).2.2.1.length = X.2.2.1.length := by show (X.2.2.1.set _ _).length = _; rw [List.length_set]
    have c1 := fun (a : ab_AV) (ha : ab_sy X.2.2.1.length a) => ab_c1_ok (ad := ad) (wr := wr) (cr := cr) (s9 := s9) hK.2.2.1 hK.2.2.2.1 rfl ha
    refine ⟨⟨?_, ?_, hK.2.2.1, by rw [hlen]; exact hK.2.2.2.1, ?_, hK.2.2.2.2.2⟩, hr0, by rw [hlen]; exact hn0, ⟨?_, ?_⟩, ⟨?_, ?_⟩, hP, hSS⟩
    · exact ab_okB_set hK.1 s9 (fun _ => ⟨Int.le_refl _, Int.le_refl _⟩)
    · rw [hlen]; exact hK.2.1
    · rw [hlen]
      intro d hd
      obtain ⟨x, hx, rfl⟩ := List.mem_map.mp hd
      obtain ⟨g1, g3, g2⟩ := hK.2.2.2.2.1 x hx
      cases hc : x.2.1.beq s9 with
      | false => exact ⟨g1, g3, g2⟩
      | true =>
        have := ab_beq hc
        refine ⟨hK.2.2.2.1, g3, ?_⟩
        show σ x.1.1 (ab_kv ρ x.1.2) = ρ 0 + (ρ s9 + x.2.2)
        rw [g2, this, hK.2.2.1, Int.zero_add]
    · have e1 : (ab_cX s9 (ρ s9) X).1.map (fun q => (q.1, ab_V ad wr cr ρ q.2)) = X.1.map (fun q => (q.1, ab_V ad wr cr ρ q.2)) := by
        show (X.1.map _).map _ = _
        rw [List.map_map]
        exact List.map_congr_left (fun q hq => by show (q.1, ab_V ad wr cr ρ (ab_c1 s9 (ρ s9) q.2)) = _; rw [(c1 q.2 (hL.2 q hq)).1])
      rw [e1]
      exact hL.1
    · rw [hlen]
      intro q hq
      obtain ⟨x, hx, rfl⟩ := List.mem_map.mp hq
      exact (c1 x.2 (hL.2 x hx)).2
    · show st = (X.2.1.map _).map _
      rw [List.map_map, hS.1]
      exact List.map_congr_left (fun a ha => ((c1 a (hS.2 a ha)).1).symm)
    · rw [hlen]
      intro a ha
      obtain ⟨x, hx, rfl⟩ := List.mem_map.mp ha
      exact (c1 x (hS.2 x hx)).2
/-- a hidden number changed: the cells stay -/
theorem ab_WD_gc {σ : ab_SG} {j : Nat} {x : Int} (h : sh.length.ble 130 = true) : ab_WD cy ad wr sh (ab_ups σ ab_GC j x) = ab_WD cy ad wr sh σ := by
  unfold ab_WD
  apply List.ext_getElem?
  intro i
  rw [List.getElem?_mapIdx, List.getElem?_mapIdx]
  cases hi : sh[i]? with
  | none => rfl
  | some sp =>
    have h1 := (List.getElem?_eq_some_iff.mp hi).1
    have h2 := Nat.le_of_ble_eq_true h
    show some (ad i, ab_cell cy ad wr sp (ab_ups σ ab_GC j x i)) = some (ad i, ab_cell cy ad wr sp (σ i))
    rw [ab_ups_row (show i ≠ ab_GC from by show i ≠ 130; omega)]
/-- what is found behind a hint -/
def ab_Nx (cy : Nat → ClassId) (ad wr cr : Nat → Nat) (D : va_G) (cl : List vw_C) (sh : List ab_SP) (T : ab_RG) (C : ab_CT) (nL n0 : Nat) (ρ0 : Nat → Int) (σ0 : ab_SG) (A : Nat → Prop) (H0 : Heap) (n : Nat) (ρ : Nat → Int) (l : List ab_AS) (H : Heap) (locs : List Loc) (ls : Array Slot) (st : List Value) : Prop :=
  ∃ X' ∈ l, ∃ (ρ' : Nat → Int) (σ' : ab_SG), n ≤ X'.2.2.1.length ∧ (∀ i, i < n → ρ' i = ρ i) ∧ ab_Gm cy ad wr cr D cl sh T C nL n0 ρ0 σ0 A H0 X' ρ' σ' H locs ls st
set_option maxHeartbeats 4000000 in
theorem ab_hu_ok {k9 i9 : Nat} {l9 : List ab_AS} {ρ : Nat → Int} {σ : ab_SG} (h : ab_hu T C k9 i9 X = some l9) (hG : ab_Gm cy ad wr cr D cl sh T C nL n0 ρ0 σ0 A H0 X ρ σ H locs ls st) : ab_Nx cy ad wr cr D cl sh T C nL n0 ρ0 σ0 A H0 X.2.2.1.length ρ l9 H locs ls st := by
  obtain ⟨L, S, B, F, Dl, M⟩ := X
  unfold ab_hu at h
  split at h
  · rename_i row9 hrow9
    split at h
    · rename_i q9 hq9
      split at h
      · rename_i B9 Dl9 hm9
        cases h
        obtain ⟨hK, hr0, hn0, hL, hS, hP, hSS⟩ := hG
        obtain ⟨ρ', r1, r2, r3⟩ := ab_mat_ok _ hK hm9
        have hG2 : ab_Gm cy ad wr cr D cl sh T C nL n0 ρ0 σ0 A H0 (L, S, B9, F, Dl9, M) ρ' σ H locs ls st := ⟨r1, fun i hi => (r3 i (Nat.lt_of_lt_of_le hi hn0)).trans (hr0 i hi), Nat.le_trans hn0 r2, ab_okL_ext hL r2 r3, ab_okS_ext hS r2 r3, hP, hSS⟩
        cases hk : q9.any (ab_atk B9 F Dl9) with
        | true => exact ⟨_, List.mem_singleton.mpr rfl, ρ', σ, r2, r3, hG2⟩
        | false =>
          obtain ⟨z9, hz9, hqz⟩ := ab_cq_in hq9
          obtain ⟨a, ha, ha2⟩ := r1.2.2.2.2.2.2.1.2 _ row9 hrow9 z9 hz9 q9 hqz
          have hex : ∃ X' ∈ ab_ua (L, S, B, F, Dl, M) B9 Dl9 a, X'.2.2.1.length = B9.length ∧ ab_Gm cy ad wr cr D cl sh T C nL n0 ρ0 σ0 A H0 X' ρ' σ H locs ls st := by
            unfold ab_ua
            split
            · rename_i s9 t9 hs9 ht9
              obtain ⟨a1, a2⟩ := ab_pd_ok r1.2.2.1 r1.2.2.2.1 r1.2.2.2.2.1 hs9
              obtain ⟨b1, b2⟩ := ab_pd_ok r1.2.2.1 r1.2.2.2.1 r1.2.2.2.2.1 ht9
              unfold ab_okA at ha2
              rw [a2, b2] at ha2
              obtain ⟨B', F', e1, e2, e3, e4⟩ := ab_asm_ok (k := a.2.2 - s9.2 + t9.2) r1.1 r1.2.1 a1 b1 (by omega)
              replace e1 : ab_asm B9 F s9.1 t9.1 (a.2.2 - s9.2 + t9.2) = some (B', F') := e1
              split
              · rename_i r8 hr8
                replace hr8 : ab_asm B9 F s9.1 t9.1 (a.2.2 - s9.2 + t9.2) = some r8 := hr8
                rw [e1] at hr8
                cases hr8
                refine ⟨_, List.mem_singleton.mpr rfl, e2, ?_⟩
                refine ⟨?_, hG2.2.1, by show n0 ≤ B'.length; rw [e2]; exact hG2.2.2.1, by show ab_okL _ _ _ B'.length _ _ _ _; rw [e2]; exact hG2.2.2.2.1, by show ab_okS _ _ _ B'.length _ _ _; rw [e2]; exact hG2.2.2.2.2.1, hP, hSS⟩
                show ab_K T C σ0 B' F' Dl9 M ρ' σ
                exact ⟨e3, by rw [e2]; exact e4, r1.2.2.1, by rw [e2]; exact r1.2.2.2.1, by rw [e2]; exact r1.2.2.2.2.1, r1.2.2.2.2.2⟩
              · rename_i hr8
                replace hr8 : ab_asm B9 F s9.1 t9.1 (a.2.2 - s9.2 + t9.2) = none := hr8
                rw [e1] at hr8
                cases hr8
            · exact ⟨_, List.mem_singleton.mpr rfl, rfl, hG2⟩
          obtain ⟨X', g1, g2, g3⟩ := hex
          exact ⟨X', List.mem_flatMap.mpr ⟨a, ha, g1⟩, ρ', σ, by rw [g2]; exact r2, r3, g3⟩
      · cases h
    · cases h
  · cases h
theorem ab_h10_ok {i9 : Nat} {cc9 : Int} {l9 : List ab_AS} {ρ : Nat → Int} {σ : ab_SG} (h : ab_h10 i9 cc9 X = some l9) (hG : ab_Gm cy ad wr cr D cl sh T C nL n0 ρ0 σ0 A H0 X ρ σ H locs ls st) : ab_Nx cy ad wr cr D cl sh T C nL n0 ρ0 σ0 A H0 X.2.2.1.length ρ l9 H locs ls st := by
  obtain ⟨L, S, B, F, Dl, M⟩ := X
  unfold ab_h10 at h
  split at h
  · rename_i s9 c9 hlk
    obtain ⟨g, h2⟩ := ab_cs h
    rw [Bool.and_eq_true, ab_le_iff] at g
    have hs9 : s9 < B.length := Nat.le_of_ble_eq_true g.1
    subst h2
    obtain ⟨hK, hr0, hn0, hL, hS, hP, hSS⟩ := hG
    have hb : ab_lo B s9 ≤ ρ s9 ∧ ρ s9 ≤ ab_hi B s9 := hK.1 s9 hs9
    obtain ⟨w, w1, w2, w3⟩ := ab_ivs_in (s := s9) (X := (L, S, B, F, Dl, M)) g.2 ((ab_hi B s9 - ab_lo B s9).toNat / cc9.toNat + 1) (ab_lo B s9) (ρ s9) hb.1 (by
      have hc : ((cc9.toNat : Nat) : Int) = cc9 := Int.toNat_of_nonneg (by omega)
      have hd := Nat.lt_div_mul_add (a := (ab_hi B s9 - ab_lo B s9).toNat) (b := cc9.toNat) (by omega)
      have he : (((ab_hi B s9 - ab_lo B s9).toNat / cc9.toNat + 1 : Nat) : Int) * cc9 = (((ab_hi B s9 - ab_lo B s9).toNat / cc9.toNat * cc9.toNat + cc9.toNat : Nat) : Int) := by
        rw [Int.natCast_add, Int.natCast_add, Int.natCast_mul, hc, Int.add_mul]; simp
      rw [he]
      omega)
    refine ⟨_, w3, ρ, σ, by show B.length ≤ (B.set _ _).length; rw [List.length_set]; exact Nat.le_refl _, fun _ _ => rfl, ?_, hr0, by show n0 ≤ (B.set _ _).length; rw [List.length_set]; exact hn0, by show ab_okL _ _ _ (B.set _ _).length _ _ _ _; rw [List.length_set]; exact hL, by show ab_okS _ _ _ (B.set _ _).length _ _ _; rw [List.length_set]; exact hS, hP, hSS⟩
    show ab_K T C σ0 (B.set s9 (ab_max (ab_lo B s9) w, ab_min (ab_hi B s9) (w + cc9 - 1))) F Dl M ρ σ
    refine ⟨ab_okB_set hK.1 s9 (fun _ => ⟨ab_max_le hb.1 w1, ab_le_min hb.2 w2⟩), ?_, hK.2.2.1, ?_, ?_, hK.2.2.2.2.2⟩
    · rw [List.length_set]; exact hK.2.1
    · rw [List.length_set]; exact hK.2.2.2.1
    · rw [List.length_set]; exact hK.2.2.2.2.1
  · cases h
set_option maxHeartbeats 4000000 in
theorem ab_h1_ok {h9 : ab_HT} {l9 : List ab_AS} {ρ : Nat → Int} {σ : ab_SG} (h : ab_h1 T C sh h9 X = some l9) (hG : ab_Gm cy ad wr cr D cl sh T C nL n0 ρ0 σ0 A H0 X ρ σ H locs ls st) : ab_Nx cy ad wr cr D cl sh T C nL n0 ρ0 σ0 A H0 X.2.2.1.length ρ l9 H locs ls st := by
  have ofs : ∀ {s9 : Nat}, ab_Nx cy ad wr cr D cl sh T C nL n0 ρ0 σ0 A H0 X.2.2.1.length ρ (ab_spl s9 X) H locs ls st := by
    intro s9
    obtain ⟨X', g1, g2, g3⟩ := ab_spl_ok (s9 := s9) hG
    exact ⟨X', g1, ρ, σ, by rw [g2]; exact Nat.le_refl _, fun _ _ => rfl, g3⟩
  obtain ⟨L, S, B, F, Dl, M⟩ := X
  unfold ab_h1 at h
  split at h
  · split at h
    · cases h; exact ofs
    · cases h; exact ofs
    · cases h
  · split at h
    · rename_i q9 B9 Dl9 hg9
      cases h
      obtain ⟨hK, hr0, hn0, hL, hS, hP, hSS⟩ := hG
      obtain ⟨ρ', r1, r2, r3, -, -⟩ := ab_get_ok hK hg9 (Nat.le_refl _) (Nat.le_refl _) (fun q => by cases q)
      obtain ⟨X', g1, g2, g3⟩ := ab_spl_ok (s9 := q9.1) (X := (L, S, B9, F, Dl9, M)) (cy := cy) (ad := ad) (wr := wr) (cr := cr) (D := D) (cl := cl) (sh := sh) (nL := nL) (n0 := n0) (ρ0 := ρ0) (A := A) (H0 := H0) (ls := ls) ⟨r1, fun i hi => (r3 i (Nat.lt_of_lt_of_le hi hn0)).trans (hr0 i hi), Nat.le_trans hn0 r2, ab_okL_ext hL r2 r3, ab_okS_ext hS r2 r3, hP, hSS⟩
      exact ⟨X', g1, ρ', σ, by rw [g2]; exact r2, r3, g3⟩
    · cases h
  · exact ab_hu_ok h hG
  · obtain ⟨g, h2⟩ := ab_co h
    split at h2
    · rename_i Dl9 M9 hg9
      cases h2
      obtain ⟨hK, hr0, hn0, hL, hS, hP, hSS⟩ := hG
      have hK2 := ab_set_ok hK hg9 hK.2.2.2.1 (Nat.le_refl _) (Nat.le_refl _)
      exact ⟨_, List.mem_singleton.mpr rfl, ρ, _, Nat.le_refl _, fun _ _ => rfl, hK2, hr0, hn0, hL, hS, by rw [ab_WD_gc g]; exact hP, hSS⟩
    · cases h2
  · obtain ⟨g, h2⟩ := ab_co h
    split at h2
    · rename_i q9 B9 Dl9 hg9
      split at h2
      · rename_i Dl8 M8 hg8
        cases h2
        obtain ⟨hK, hr0, hn0, hL, hS, hP, hSS⟩ := hG
        obtain ⟨ρ', r1, r2, r3, r4, -⟩ := ab_get_ok hK hg9 (Nat.le_refl _) (Nat.le_refl _) (fun q => by cases q)
        have hK2 := ab_set_ok r1 hg8 r4 (Nat.le_refl _) (Nat.le_refl _)
        exact ⟨_, List.mem_singleton.mpr rfl, ρ', _, r2, r3, hK2, fun i hi => (r3 i (Nat.lt_of_lt_of_le hi hn0)).trans (hr0 i hi), Nat.le_trans hn0 r2, ab_okL_ext hL r2 r3, ab_okS_ext hS r2 r3, by rw [ab_WD_gc g]; exact hP, hSS⟩
      · cases h2
    · cases h2
  · obtain ⟨g, h2⟩ := ab_cs h
    obtain ⟨hK, hr0, hn0, hL, hS, hP, hSS⟩ := hG
    have hne : ∀ f ∈ F, f.1 ≠ f.2.1 := by
      intro f hf q
      have := List.all_eq_true.mp g f hf
      rw [q, show f.2.1.beq f.2.1 = true from Nat.beq_refl _] at this
      cases this
    obtain ⟨t1, t2⟩ := ab_tgt_ok F B hK.1 hK.2.1 hne
    replace h2 : cond (ab_no (ab_tgt F B)) [] [((L, S, ab_tgt F B, F, Dl, M) : ab_AS)] = l9 := h2
    rw [ab_no_ok t2] at h2
    subst h2
    refine ⟨_, List.mem_singleton.mpr rfl, ρ, σ, by show B.length ≤ (ab_tgt F B).length; rw [t1]; exact Nat.le_refl _, fun _ _ => rfl, ?_, hr0, by show n0 ≤ (ab_tgt F B).length; rw [t1]; exact hn0, by show ab_okL _ _ _ (ab_tgt F B).length _ _ _ _; rw [t1]; exact hL, by show ab_okS _ _ _ (ab_tgt F B).length _ _ _; rw [t1]; exact hS, hP, hSS⟩
    show ab_K T C σ0 (ab_tgt F B) F Dl M ρ σ
    exact ⟨t2, by rw [t1]; exact hK.2.1, hK.2.2.1, by rw [t1]; exact hK.2.2.2.1, by rw [t1]; exact hK.2.2.2.2.1, hK.2.2.2.2.2⟩
  · split at h
    · exact ab_hu_ok h hG
    · cases h; exact ⟨_, List.mem_singleton.mpr rfl, ρ, σ, Nat.le_refl _, fun _ _ => rfl, hG⟩
  · split at h
    · cases h; exact ofs
    · cases h; exact ofs
    · cases h
  · exact ab_h10_ok h hG
  · cases h
    obtain ⟨hK, hr0, hn0, hL, hS, hP, hSS⟩ := hG
    exact ⟨_, List.mem_singleton.mpr rfl, ρ, σ, Nat.le_refl _, fun _ _ => rfl, ⟨hK.1, ab_chn_ok hK.2.1, hK.2.2⟩, hr0, hn0, hL, hS, hP, hSS⟩
  · cases h
end
theorem ab_cat2_in {f : ab_AS → Option (List ab_AS)} : ∀ {l r : List ab_AS}, ab_cat2 f l = some r → ∀ x ∈ l, ∃ a, f x = some a ∧ ∀ y ∈ a, y ∈ r := by
  intro l
  induction l with
  | nil => intro r _ x hx; cases hx
  | cons z l ih =>
    intro r h x hx
    unfold ab_cat2 at h
    split at h
    · rename_i a9 b9 h1 h2
      cases h
      rcases List.mem_cons.mp hx with rfl | hx
      · exact ⟨a9, h1, fun y hy => List.mem_append_left _ hy⟩
      · obtain ⟨a, g1, g2⟩ := ih h2 x hx
        exact ⟨a, g1, fun y hy => List.mem_append_right _ (g2 y hy)⟩
    · cases h
section
variable {H : Heap} {locs : List Loc} {ls : Array Slot} {st : List Value} {ad wr cr : Nat → Nat} {cy : Nat → ClassId} {nL n0 : Nat} {T : ab_RG} {C : ab_CT} {σ0 : ab_SG} {ρ0 : Nat → Int} {D : va_G} {cl : List vw_C} {sh : List ab_SP} {A : Nat → Prop} {H0 : Heap}
theorem ab_hs_ok : ∀ (hs : List ab_HT) (X : ab_AS) {l9 : List ab_AS} {ρ : Nat → Int} {σ : ab_SG}, ab_hs T C sh hs X = some l9 → ab_Gm cy ad wr cr D cl sh T C nL n0 ρ0 σ0 A H0 X ρ σ H locs ls st → ab_Nx cy ad wr cr D cl sh T C nL n0 ρ0 σ0 A H0 X.2.2.1.length ρ l9 H locs ls st := by
  intro hs
  induction hs with
  | nil => intro X l9 ρ σ h hG; cases h; exact ⟨X, List.mem_singleton.mpr rfl, ρ, σ, Nat.le_refl _, fun _ _ => rfl, hG⟩
  | cons h1 hs ih =>
    intro X l9 ρ σ h hG
    unfold ab_hs at h
    split at h
    · rename_i l8 hl8
      obtain ⟨X1, a1, ρ1, σ1, a2, a3, a4⟩ := ab_h1_ok hl8 hG
      obtain ⟨r, b1, b2⟩ := ab_cat2_in h X1 a1
      obtain ⟨X2, c1, ρ2, σ2, c2, c3, c4⟩ := ih X1 b1 a4
      exact ⟨X2, b2 X2 c1, ρ2, σ2, Nat.le_trans a2 c2, fun i hi => (c3 i (Nat.lt_of_lt_of_le hi a2)).trans (a3 i hi), c4⟩
    · cases h
theorem ab_hx_ok {HN : ab_HH} {pc : Nat} {X : ab_AS} {l9 : List ab_AS} {ρ : Nat → Int} {σ : ab_SG} (h : ab_hx T C sh HN pc X = some l9) (hG : ab_Gm cy ad wr cr D cl sh T C nL n0 ρ0 σ0 A H0 X ρ σ H locs ls st) : ab_Nx cy ad wr cr D cl sh T C nL n0 ρ0 σ0 A H0 X.2.2.1.length ρ l9 H locs ls st := by
  unfold ab_hx at h
  split at h
  · exact ab_hs_ok _ _ h hG
  · cases h; exact ⟨X, List.mem_singleton.mpr rfl, ρ, σ, Nat.le_refl _, fun _ _ => rfl, hG⟩
end
end
section
theorem ab_sm_ext {ρ ρ' : Nat → Int} {n : Nat} (h : ∀ i, i < n → ρ' i = ρ i) : ∀ (l : List Nat), (∀ s ∈ l, s < n) → ab_sm ρ' l = ab_sm ρ l := by
  intro l
  induction l with
  | nil => intro _; rfl
  | cons s l ih =>
    intro hl
    show ρ' s + ab_sm ρ' l = ρ s + ab_sm ρ l
    rw [h s (hl s List.mem_cons_self), ih (fun t ht => hl t (List.mem_cons_of_mem _ ht))]
theorem ab_nv_ext {ρ ρ' : Nat → Int} {n : Nat} {e : ab_ME} (h : ∀ i, i < n → ρ' i = ρ i) (he : ab_sy3 n e) : ab_nv ρ' e = ab_nv ρ e := by
  unfold ab_nv ab_mev
  rw [ab_sm_ext h e.2.1 he.1, ab_sm_ext h e.2.2 he.2]
def ab_s33 (n : Nat) (a : ab_M3) : Prop := ab_sy3 n a.1 ∧ ab_sy3 n a.2.1 ∧ ab_sy3 n a.2.2
theorem ab_n3_ext {ρ ρ' : Nat → Int} {n : Nat} {a : ab_M3} (h : ∀ i, i < n → ρ' i = ρ i) (he : ab_s33 n a) : ab_n3 ρ' a = ab_n3 ρ a := by
  unfold ab_n3
  rw [ab_nv_ext h he.1, ab_nv_ext h he.2.1, ab_nv_ext h he.2.2]
theorem ab_sy3_mono {n n' : Nat} {e : ab_ME} (h : ab_sy3 n e) (hn : n ≤ n') : ab_sy3 n' e := ⟨fun s hs => Nat.lt_of_lt_of_le (h.1 s hs) hn, fun s hs => Nat.lt_of_lt_of_le (h.2 s hs) hn⟩
theorem ab_s33_mono {n n' : Nat} {a : ab_M3} (h : ab_s33 n a) (hn : n ≤ n') : ab_s33 n' a := ⟨ab_sy3_mono h.1 hn, ab_sy3_mono h.2.1 hn, ab_sy3_mono h.2.2 hn⟩
section
variable {p : Program} {l : Launch} {e : Env} {s : State} {m : MethodId} {args : Array Value} {below : List Frame} {meth : Method} {c : Code} {Q : State → Prop} {cc : ByteArray} {R : Room} {sc cells slots : Nat}
variable {ad wr cr : Nat → Nat} {cy : Nat → ClassId} {nL n0 lev : Nat} {T : ab_RG} {C : ab_CT} {σ0 : ab_SG} {ρ0 : Nat → Int} {own : String} {D : va_G} {cl : List vw_C} {sh : List ab_SP} {A : Nat → Prop} {H0 : Heap} {Ts TT : List Jvm.Cond} {NW : ab_NW} {MT : List ab_MR} {PM : ab_PC2} {KS : ab_KS} {KI KJ : List (Nat × Int)} {PF : ab_PT} {kd : ab_KD} {PS : ab_PS} {rk : Nat} {os : List ab_OU} {sp HD : List Nat} {dt : ab_DT} {HN : ab_HH} {EX NS : List ab_ND}
theorem ab_hit0_ok {X : ab_AS} {nd : ab_ND} {B1 : ab_BD} {θ : ab_TH} {ρ : Nat → Int} {σ : ab_SG} {H : Heap} {locs : List Loc} {ls : Array Slot} {st : List Value} (h : ab_hit0 T n0 X nd = some (B1, θ)) (hG : ab_Gm cy ad wr cr D cl sh T C nL n0 ρ0 σ0 A H0 X ρ σ H locs ls st) :
    ∃ ρ1 : Nat → Int, X.2.2.1.length ≤ B1.length ∧ (∀ i, i < X.2.2.1.length → ρ1 i = ρ i) ∧ (∀ q ∈ θ, q.1 < B1.length) ∧ ab_okB B1 ρ1 ∧ ab_okF B1.length X.2.2.2.1 ρ1 ∧ ab_Gm cy ad wr cr D cl sh T C nL n0 ρ0 σ0 A H0 nd.2.1 (ab_thv θ ρ1) σ H locs ls st := by
  obtain ⟨hK, hr0, hn0, hL, hS, hP, hSS⟩ := hG
  unfold ab_hit0 at h
  split at h
  · rename_i B8 D1 hmat
    obtain ⟨h1, h2⟩ := ab_cs h
    rw [Bool.and_eq_true] at h1
    cases h2
    obtain ⟨ρ1, m1, m2, m3⟩ := ab_mat_ok _ hK hmat
    obtain ⟨v1, v2⟩ := ab_vf_th m1.1 h1.1
    obtain ⟨vK, vL, vS⟩ := ab_vf_ok (ad := ad) (wr := wr) (cr := cr) (nL := nL) (ls := ls) h1.1 m1 (ab_okL_ext hL m2 m3) (ab_okS_ext hS m2 m3)
    obtain ⟨w1, w2⟩ := ab_rid_ok (ρ := ρ1) n0 0 _ h1.2
    refine ⟨ρ1, m2, m3, v1, m1.1, m1.2.1, vK, fun j hj => ?_, by rw [← v2]; exact w1, vL, vS, hP, hSS⟩
    rw [w2 j hj, Nat.zero_add, m3 j (Nat.lt_of_lt_of_le hj hn0), hr0 j hj]
  · cases h
theorem ab_run_ok {mu : ab_M3} {mv : Nat × Nat × Nat} {nS : Nat} (hE : ab_Ev p l s m args meth c cc nL lev R cy ad wr cr D cl sh T C own A H0 Ts TT NW MT KI KJ PF kd PS PM KS sc n0 ρ0 cells slots dt σ0)
    (hRT : ∀ (pc : Nat) (X : ab_AS) (ρ : Nat → Int) (σ : ab_SG) (H : Heap) (locs : List Loc) (ls : Array Slot) (st : List Value) (i : Instr) (len : Nat), decode cc pc = .ok (i, len) → ab_rt T n0 os rk i len X = true → ab_Gm cy ad wr cr D cl sh T C nL n0 ρ0 σ0 A H0 X ρ σ H locs ls st → W p l e R s m args below meth c H locs cells slots Q (F0 m pc ls st))
    (hEX : ∀ nd ∈ EX, ∀ (ρ : Nat → Int) (σ : ab_SG) (H : Heap) (locs : List Loc) (ls : Array Slot) (st : List Value), ab_Gm cy ad wr cr D cl sh T C nL n0 ρ0 σ0 A H0 nd.2.1 ρ σ H locs ls st → W p l e R s m args below meth c H locs cells slots Q (F0 m nd.1 ls st))
    (hN : ∀ nd ∈ NS, ∀ (ρ : Nat → Int) (σ : ab_SG) (H : Heap) (locs : List Loc) (ls : Array Slot) (st : List Value), ab_lt3 (ab_n3 ρ nd.2.2) mv → ab_Gm cy ad wr cr D cl sh T C nL n0 ρ0 σ0 A H0 nd.2.1 ρ σ H locs ls st → W p l e R s m args below meth c H locs cells slots Q (F0 m nd.1 ls st))
    (hmu : ab_s33 nS mu) : ∀ (f pc : Nat) (X : ab_AS), ab_run cl T C sh MT KI KJ PF kd PS PM KS lev sc dt nL n0 os rk sp HD HN EX NS mu f pc X = true → ∀ (ρ : Nat → Int) (σ : ab_SG) (H : Heap) (locs : List Loc) (ls : Array Slot) (st : List Value), nS ≤ X.2.2.1.length → ab_n3 ρ mu = mv → ab_Gm cy ad wr cr D cl sh T C nL n0 ρ0 σ0 A H0 X ρ σ H locs ls st → W p l e R s m args below meth c H locs cells slots Q (F0 m pc ls st) := by
  intro f
  induction f with
  | zero => intro pc X h; cases h
  | succ f ih =>
    intro pc X h ρ σ H locs ls st hnS hmv hG
    unfold ab_run at h
    cases hHD : HD.any (fun h => h.beq pc) with
    | false =>
      rw [hHD] at h
      replace h : (match ab_st cl T C sh MT KI KJ PF kd PS PM KS lev sc dt nL n0 os rk sp pc X with
        | some l => l.all (fun q => ab_run cl T C sh MT KI KJ PF kd PS PM KS lev sc dt nL n0 os rk sp HD HN EX NS mu f q.1 q.2)
        | none => false) = true := h
      split at h
      · rename_i l9 hl9
        refine ab_st_ok hE hl9 hG (fun i len hd hr => hRT pc X ρ σ H locs ls st i len hd hr hG) (fun q hq => ?_)
        intro ρ2 σ2 H' locs' ls' st' a1 a2 a3
        have hq2 := List.all_eq_true.mp h q hq
        refine ih q.1 q.2 hq2 ρ2 σ2 H' locs' ls' st' (Nat.le_trans hnS a1) ?_ a3
        rw [← hmv]
        exact ab_n3_ext (fun i hi => a2 i (Nat.lt_of_lt_of_le hi hnS)) hmu
      · cases h
    | true =>
    rw [hHD] at h
    rw [cond_true, Bool.or_eq_true, Bool.or_eq_true] at h
    rcases h with (h | h) | h
    · obtain ⟨nd, hnd, h⟩ := List.any_eq_true.mp h
      rw [Bool.and_eq_true] at h
      have hpc := ab_beq h.1
      have h := h.2
      unfold ab_hitE at h
      split at h
      · rename_i q9 hq9
        obtain ⟨ρ1, m2, m3, v1, b1, b2, g⟩ := ab_hit0_ok (B1 := q9.1) (θ := q9.2) hq9 hG
        rw [← hpc]
        exact hEX nd hnd _ σ H locs ls st g
      · cases h
    · obtain ⟨nd, hnd, h⟩ := List.any_eq_true.mp h
      rw [Bool.and_eq_true] at h
      have hpc := ab_beq h.1
      have h := h.2
      unfold ab_hit at h
      split at h
      · rename_i B1 θ9 hq9
        rw [Bool.and_eq_true, Bool.and_eq_true, Bool.and_eq_true] at h
        obtain ⟨⟨⟨h3, h4⟩, h5⟩, h6⟩ := h
        obtain ⟨ρ1, m2, m3, v1, k1, k2, g⟩ := ab_hit0_ok hq9 hG
        have b1 := ab_msb_ok (ρ := ρ1) v1 h3
        have b2 := ab_msb_ok (ρ := ρ1) v1 h4
        have b3 := ab_msb_ok (ρ := ρ1) v1 h5
        have hmu1 : ab_s33 B1.length mu := ab_s33_mono hmu (Nat.le_trans hnS m2)
        have hf := ab_fall_ok (ρ := ρ1) (a := (_, _, _)) (b := mu) k1 k2 ⟨b1.2, b2.2, b3.2⟩ hmu1 h6
        have e1 : ab_n3 ρ1 mu = mv := by
          rw [← hmv]
          exact ab_n3_ext (fun i hi => m3 i (Nat.lt_of_lt_of_le hi hnS)) hmu
        rw [e1] at hf
        rw [← hpc]
        refine hN nd hnd _ σ H locs ls st ?_ g
        have e2 : ab_n3 (ab_thv θ9 ρ1) nd.2.2 = ab_n3 ρ1 (ab_msb θ9 nd.2.2.1, ab_msb θ9 nd.2.2.2.1, ab_msb θ9 nd.2.2.2.2) := by
          unfold ab_n3 ab_nv
          rw [b1.1, b2.1, b3.1]
        rw [e2]
        exact hf
      · cases h
    · split at h
      · rename_i xs9 hxs
        obtain ⟨X', hX', ρ', σ', hlen, hag, hG'⟩ := ab_hx_ok hxs hG
        have h := List.all_eq_true.mp h X' hX'
        split at h
        · rename_i l9 hl9
          refine ab_st_ok hE hl9 hG' (fun i len hd hr => hRT pc X' ρ' σ' H locs ls st i len hd hr hG') (fun q hq => ?_)
          intro ρ2 σ2 H' locs' ls' st' a1 a2 a3
          have hq2 := List.all_eq_true.mp h q hq
          refine ih q.1 q.2 hq2 ρ2 σ2 H' locs' ls' st' (Nat.le_trans hnS (Nat.le_trans hlen a1)) ?_ a3
          rw [← hmv]
          exact ab_n3_ext (fun i hi => (a2 i (Nat.lt_of_lt_of_le (Nat.lt_of_lt_of_le hi hnS) hlen)).trans (hag i (Nat.lt_of_lt_of_le hi hnS))) hmu
        · cases h
      · cases h
/-- one node, the others met -/
theorem ab_cn_ok {fuel : Nat} {mv : Nat × Nat × Nat} (hE : ab_Ev p l s m args meth c cc nL lev R cy ad wr cr D cl sh T C own A H0 Ts TT NW MT KI KJ PF kd PS PM KS sc n0 ρ0 cells slots dt σ0)
    (hRT : ∀ (pc : Nat) (X : ab_AS) (ρ : Nat → Int) (σ : ab_SG) (H : Heap) (locs : List Loc) (ls : Array Slot) (st : List Value) (i : Instr) (len : Nat), decode cc pc = .ok (i, len) → ab_rt T n0 os rk i len X = true → ab_Gm cy ad wr cr D cl sh T C nL n0 ρ0 σ0 A H0 X ρ σ H locs ls st → W p l e R s m args below meth c H locs cells slots Q (F0 m pc ls st))
    (hEX : ∀ nd ∈ EX, ∀ (ρ : Nat → Int) (σ : ab_SG) (H : Heap) (locs : List Loc) (ls : Array Slot) (st : List Value), ab_Gm cy ad wr cr D cl sh T C nL n0 ρ0 σ0 A H0 nd.2.1 ρ σ H locs ls st → W p l e R s m args below meth c H locs cells slots Q (F0 m nd.1 ls st))
    (hN : ∀ nd ∈ NS, ∀ (ρ : Nat → Int) (σ : ab_SG) (H : Heap) (locs : List Loc) (ls : Array Slot) (st : List Value), ab_lt3 (ab_n3 ρ nd.2.2) mv → ab_Gm cy ad wr cr D cl sh T C nL n0 ρ0 σ0 A H0 nd.2.1 ρ σ H locs ls st → W p l e R s m args below meth c H locs cells slots Q (F0 m nd.1 ls st))
    {nd : ab_ND} (h : ab_cn cl T C sh MT KI KJ PF kd PS PM KS lev sc dt nL n0 os rk sp HD HN EX NS fuel nd = true) : ∀ (ρ : Nat → Int) (σ : ab_SG) (H : Heap) (locs : List Loc) (ls : Array Slot) (st : List Value), ab_n3 ρ nd.2.2 = mv → ab_Gm cy ad wr cr D cl sh T C nL n0 ρ0 σ0 A H0 nd.2.1 ρ σ H locs ls st → W p l e R s m args below meth c H locs cells slots Q (F0 m nd.1 ls st) := by
  intro ρ σ H locs ls st hx hG
  unfold ab_cn at h
  rw [Bool.and_eq_true, Bool.and_eq_true, Bool.and_eq_true] at h
  obtain ⟨⟨⟨h1, h2⟩, h3⟩, h⟩ := h
  have hmu : ab_s33 nd.2.1.2.2.1.length nd.2.2 := ⟨ab_mok_ok h1, ab_mok_ok h2, ab_mok_ok h3⟩
  split at h
  · rename_i xs9 hxs
    obtain ⟨X', hX', ρ', σ', hlen, hag, hG'⟩ := ab_hx_ok hxs hG
    have h := List.all_eq_true.mp h X' hX'
    split at h
    · rename_i l9 hl9
      refine ab_st_ok hE hl9 hG' (fun i len hd hr => hRT nd.1 X' ρ' σ' H locs ls st i len hd hr hG') (fun q hq => ?_)
      intro ρ2 σ2 H' locs' ls' st' a1 a2 a3
      have hq2 := List.all_eq_true.mp h q hq
      have hag2 : ∀ i, i < nd.2.1.2.2.1.length → ρ2 i = ρ i := fun i hi => (a2 i (Nat.lt_of_lt_of_le hi hlen)).trans (hag i hi)
      exact ab_run_ok hE hRT hEX hN hmu fuel q.1 q.2 hq2 ρ2 σ2 H' locs' ls' st' (Nat.le_trans hlen a1) ((ab_n3_ext hag2 hmu).trans hx) a3
    · cases h
  · cases h
theorem ab_nodes_ok {fuel : Nat} (hE : ab_Ev p l s m args meth c cc nL lev R cy ad wr cr D cl sh T C own A H0 Ts TT NW MT KI KJ PF kd PS PM KS sc n0 ρ0 cells slots dt σ0)
    (hRT : ∀ (pc : Nat) (X : ab_AS) (ρ : Nat → Int) (σ : ab_SG) (H : Heap) (locs : List Loc) (ls : Array Slot) (st : List Value) (i : Instr) (len : Nat), decode cc pc = .ok (i, len) → ab_rt T n0 os rk i len X = true → ab_Gm cy ad wr cr D cl sh T C nL n0 ρ0 σ0 A H0 X ρ σ H locs ls st → W p l e R s m args below meth c H locs cells slots Q (F0 m pc ls st))
    (hEX : ∀ nd ∈ EX, ∀ (ρ : Nat → Int) (σ : ab_SG) (H : Heap) (locs : List Loc) (ls : Array Slot) (st : List Value), ab_Gm cy ad wr cr D cl sh T C nL n0 ρ0 σ0 A H0 nd.2.1 ρ σ H locs ls st → W p l e R s m args below meth c H locs cells slots Q (F0 m nd.1 ls st))
    (hC : ∀ nd ∈ NS, ab_cn cl T C sh MT KI KJ PF kd PS PM KS lev sc dt nL n0 os rk sp HD HN EX NS fuel nd = true) : ∀ nd ∈ NS, ∀ (ρ : Nat → Int) (σ : ab_SG) (H : Heap) (locs : List Loc) (ls : Array Slot) (st : List Value), ab_Gm cy ad wr cr D cl sh T C nL n0 ρ0 σ0 A H0 nd.2.1 ρ σ H locs ls st → W p l e R s m args below meth c H locs cells slots Q (F0 m nd.1 ls st) := by
  have key : ∀ x : Nat × Nat × Nat, ∀ nd ∈ NS, ∀ (ρ : Nat → Int) (σ : ab_SG) (H : Heap) (locs : List Loc) (ls : Array Slot) (st : List Value), ab_n3 ρ nd.2.2 = x → ab_Gm cy ad wr cr D cl sh T C nL n0 ρ0 σ0 A H0 nd.2.1 ρ σ H locs ls st → W p l e R s m args below meth c H locs cells slots Q (F0 m nd.1 ls st) := by
    refine ab_lt3_ind (fun x ih => ?_)
    intro nd hnd ρ σ H locs ls st hx hG
    exact ab_cn_ok hE hRT hEX (fun nd2 hnd2 ρ2 σ2 H2 locs2 ls2 st2 hlt hG2 => ih _ hlt nd2 hnd2 ρ2 σ2 H2 locs2 ls2 st2 rfl hG2) (hC nd hnd) ρ σ H locs ls st hx hG
  exact fun nd hnd ρ σ H locs ls st hG => key _ nd hnd ρ σ H locs ls st rfl hG
end
/-- the locals at a method's entry -/
def ab_en0 : Nat → List ab_AV → ab_LS
  | _, [] => []
  | i, a :: as => (i, a) :: ab_en0 (cond (a.1.beq 1) (i + 2) (i + 1)) as
theorem ab_en0_map {ad wr cr : Nat → Nat} {ρ : Nat → Int} : ∀ (as : List ab_AV) (i : Nat), lv_args i (as.map (ab_V ad wr cr ρ)) = (ab_en0 i as).map (fun q => (q.1, ab_V ad wr cr ρ q.2)) := by
  intro as
  induction as with
  | nil => intro i; rfl
  | cons a as ih =>
    intro i
    have e : (if (ab_V ad wr cr ρ a).category = 2 then i + 2 else i + 1) = cond (a.1.beq 1) (i + 2) (i + 1) := by
      cases hc : a.1.beq 1 with
      | false => rw [ab_V_cat1 hc]; rfl
      | true =>
        obtain ⟨t, s, c⟩ := a
        have := ab_beq hc
        subst this
        rfl
    show (i, ab_V ad wr cr ρ a) :: lv_args (if (ab_V ad wr cr ρ a).category = 2 then i + 2 else i + 1) (as.map (ab_V ad wr cr ρ)) = _
    rw [e, ih]
    rfl
theorem ab_en0_sy {n : Nat} : ∀ (as : List ab_AV) (i : Nat), (∀ a ∈ as, ab_sy n a) → ∀ q ∈ ab_en0 i as, ab_sy n q.2 := by
  intro as
  induction as with
  | nil => intro i _ q hq; cases hq
  | cons a as ih =>
    intro i h q hq
    rcases List.mem_cons.mp hq with rfl | hq
    · exact h a List.mem_cons_self
    · exact ih _ (fun b hb => h b (List.mem_cons_of_mem _ hb)) q hq
theorem ab_sl_len : ∀ (vs : List Value), (lg_sl vs).length = (vs.map (fun v => v.category)).sum ∨ ∃ v ∈ vs, v.category ≠ 1 ∧ v.category ≠ 2 := by
  intro vs
  induction vs with
  | nil => exact Or.inl rfl
  | cons v vs ih =>
    rcases ih with ih | ⟨w, h1, h2⟩
    · by_cases h : v.category = 2
      · refine Or.inl ?_
        unfold lg_sl at ih ⊢
        rw [List.flatMap_cons, List.length_append, ih, if_pos h, List.map_cons, List.sum_cons, h]
        rfl
      · by_cases h1 : v.category = 1
        · refine Or.inl ?_
          unfold lg_sl at ih ⊢
          rw [List.flatMap_cons, List.length_append, ih, if_neg h, List.map_cons, List.sum_cons, h1]
          rfl
        · exact Or.inr ⟨v, List.mem_cons_self, h1, h⟩
    · exact Or.inr ⟨w, List.mem_cons_of_mem _ h1, h2⟩
theorem ab_V_c12 {ad wr cr : Nat → Nat} {ρ : Nat → Int} (a : ab_AV) : (ab_V ad wr cr ρ a).category = 1 ∨ (ab_V ad wr cr ρ a).category = 2 := by
  cases hc : a.1.beq 1 with
  | false => exact Or.inl (ab_V_cat1 hc)
  | true =>
    obtain ⟨t, s, c⟩ := a
    have := ab_beq hc
    subst this
    exact Or.inr rfl
theorem ab_fit_len {ad wr cr : Nat → Nat} {ρ : Nat → Int} {as : List ab_AV} {n : Nat} (h : (ab_cat as).ble n = true) : (lg_sl (as.map (ab_V ad wr cr ρ))).length ≤ n := by
  have h1 := Nat.le_of_ble_eq_true h
  unfold ab_cat at h1
  rw [ab_cat_ok (ad := ad) (wr := wr) (cr := cr) (ρ := ρ) as 0] at h1
  rcases ab_sl_len (as.map (ab_V ad wr cr ρ)) with g | ⟨v, g1, g2⟩
  · omega
  · obtain ⟨a, -, rfl⟩ := List.mem_map.mp g1
    rcases ab_V_c12 (ad := ad) (wr := wr) (cr := cr) (ρ := ρ) a with g3 | g3
    · exact absurd g3 g2.1
    · exact absurd g3 g2.2
theorem ab_WD_D {cy : Nat → ClassId} {ad wr : Nat → Nat} {sh : List ab_SP} {A : Nat → Prop} (hinj : ∀ i j, i < sh.length → j < sh.length → ad i = ad j → i = j) (hA : ∀ k, k < sh.length → A (ad k)) (σ : ab_SG) : va_D A (ab_WD cy ad wr sh σ) := by
  refine ⟨fun i j p q hi hj hpq => ?_, fun k q hk => ?_⟩
  · obtain ⟨s1, g1, rfl⟩ := ab_WD_at hi
    obtain ⟨s2, g2, rfl⟩ := ab_WD_at hj
    exact hinj i j (List.getElem?_eq_some_iff.mp g1).1 (List.getElem?_eq_some_iff.mp g2).1 hpq
  · obtain ⟨s1, g1, rfl⟩ := ab_WD_at hk
    exact hA k (List.getElem?_eq_some_iff.mp g1).1
theorem ab_fok_mono {cl : List vw_C} {Ts Ts' : List Jvm.Cond} {own : String} {q : Nat × Nat × Nat × Nat} (h : ab_fok cl Ts own q) (hs : ∀ w ∈ Ts, w ∈ Ts') : ab_fok cl Ts' own q := by
  obtain ⟨C, T, N, h1, h2, h3, h4, h5⟩ := h
  exact ⟨C, T, N, h1, h2, fun w hw => hs w (h3 w hw), hs _ h4, h5⟩
theorem ab_mlk_mono {MT : List ab_MR} {Ts Ts' : List Jvm.Cond} {NW : ab_NW} {own : String} {q : Nat × Nat × Nat} (h : ab_mlk MT Ts NW own q) (hs : ∀ w ∈ Ts, w ∈ Ts') : ab_mlk MT Ts' NW own q := by
  intro mr hmr
  obtain ⟨h1, h2, h3, h4, h5, h6, h7⟩ := h mr hmr
  refine ⟨hs _ h1, hs _ h2, h3, h4, fun g => ⟨hs _ (h5 g).1, hs _ (h5 g).2⟩, fun g => hs _ (h6 g), ?_⟩
  rcases h7 with ⟨g1, g2⟩ | g
  · exact Or.inl ⟨g1, hs _ g2⟩
  · exact Or.inr g
theorem ab_psok_mono {Ts Ts' : List Jvm.Cond} {kd : ab_KD} {own : String} {q : Nat × Nat} (h : ab_psok Ts kd own q) (hs : ∀ w ∈ Ts, w ∈ Ts') : ab_psok Ts' kd own q := by
  have mm : ∀ {y : MethodName} {code : ByteArray} {n : Nat} {r : FieldType}, ab_mw Ts own q.1 y code n r → ab_mw Ts' own q.1 y code n r := fun g => ⟨hs _ g.1, hs _ g.2.1, hs _ g.2.2.1, hs _ g.2.2.2⟩
  rcases h with ⟨h1, h2⟩ | ⟨h1, x, h2, h3⟩ | ⟨h1, h2⟩ | ⟨h1, h2⟩ | ⟨h1, h2⟩ | h1
  · exact Or.inl ⟨h1, hs _ h2⟩
  · refine Or.inr (Or.inl ⟨h1, x, h2, ?_⟩)
    rcases h3 with h3 | h3
    · exact Or.inl (hs _ h3)
    · exact Or.inr h3
  · exact Or.inr (Or.inr (Or.inl ⟨h1, mm h2⟩))
  · exact Or.inr (Or.inr (Or.inr (Or.inl ⟨h1, mm h2⟩)))
  · exact Or.inr (Or.inr (Or.inr (Or.inr (Or.inl ⟨h1, mm h2⟩))))
  · exact Or.inr (Or.inr (Or.inr (Or.inr (Or.inr h1))))
/-- a method's body out of its nodes, from the entry on -/
theorem ab_entry {p : Program} {l : Launch} {e : Env} {s : State} {m : MethodId} {below : List Frame} {meth : Method} {c : Code} {Q : State → Prop} {cc : ByteArray} {R : Room} {sc cells slots : Nat} {ad wr cr : Nat → Nat} {cy : Nat → ClassId} {nL lev : Nat} {T : ab_RG} {C : ab_CT} {σ : ab_SG} {ρ : Nat → Int} {own : String} {D : va_G} {cl : List vw_C} {sh : List ab_SP} {A : Nat → Prop} {Ts TT : List Jvm.Cond} {NW : ab_NW} {MT : List ab_MR} {PM : ab_PC2} {KS : ab_KS} {KI KJ : List (Nat × Int)} {PF : ab_PT} {kd : ab_KD} {PS : ab_PS} {rk : Nat} {os : List ab_OU} {sp HD : List Nat} {dt : ab_DT} {HN : ab_HH} {EX NS : List ab_ND} {fuel : Nat} {mu : ab_M3} {as : List ab_AV} {B0 : ab_BD} {F0' : ab_FT} {D0 : ab_DL}
    (hE : ab_Ev p l s m (as.map (ab_V ad wr cr ρ)).toArray meth c cc nL lev R cy ad wr cr D cl sh T C own A s.heap Ts TT NW MT KI KJ PF kd PS PM KS sc B0.length ρ cells slots dt σ)
    (hfit : (ab_cat as).ble nL = true) (hK : ab_K T C σ B0 F0' D0 [] ρ σ) (hsy : ∀ a ∈ as, ab_sy B0.length a) (hP : va_P D cl (ab_WD cy ad wr sh σ) s.heap)
    (hent : ((0, (ab_en0 0 as, [], B0, F0', D0, []), mu) : ab_ND) ∈ NS)
    (hRT : ∀ (pc : Nat) (X : ab_AS) (ρ2 : Nat → Int) (σ2 : ab_SG) (H : Heap) (locs : List Loc) (ls : Array Slot) (st : List Value) (i : Instr) (len : Nat), decode cc pc = .ok (i, len) → ab_rt T B0.length os rk i len X = true → ab_Gm cy ad wr cr D cl sh T C nL B0.length ρ σ A s.heap X ρ2 σ2 H locs ls st → W p l e R s m (as.map (ab_V ad wr cr ρ)).toArray below meth c H locs cells slots Q (F0 m pc ls st))
    (hEX : ∀ nd ∈ EX, ∀ (ρ2 : Nat → Int) (σ2 : ab_SG) (H : Heap) (locs : List Loc) (ls : Array Slot) (st : List Value), ab_Gm cy ad wr cr D cl sh T C nL B0.length ρ σ A s.heap nd.2.1 ρ2 σ2 H locs ls st → W p l e R s m (as.map (ab_V ad wr cr ρ)).toArray below meth c H locs cells slots Q (F0 m nd.1 ls st))
    (hC : ∀ nd ∈ NS, ab_cn cl T C sh MT KI KJ PF kd PS PM KS lev sc dt nL B0.length os rk sp HD HN EX NS fuel nd = true) :
    W p l e R s m (as.map (ab_V ad wr cr ρ)).toArray below meth c s.heap [] cells slots Q (entryFrame m (as.map (ab_V ad wr cr ρ)).toArray nL) := by
  have hl := lv_entry (as.map (ab_V ad wr cr ρ)) (n := nL) (ab_fit_len hfit)
  rw [lg_entry_eq]
  generalize (lg_sl (as.map (ab_V ad wr cr ρ)) ++ List.replicate (nL - (lg_sl (as.map (ab_V ad wr cr ρ))).length) Slot.unset).toArray = ls at hl ⊢
  rw [ab_en0_map] at hl
  exact ab_nodes_ok (σ0 := σ) (ρ0 := ρ) hE hRT hEX hC _ hent ρ σ s.heap [] ls [] ⟨hK, fun _ _ => rfl, Nat.le_refl _, ⟨hl, ab_en0_sy _ _ hsy⟩, ⟨rfl, fun a ha => by cases ha⟩, hP, va_S.rf⟩
/-- a contract out of its nodes -/
theorem ab_met {l : Launch} {cy : Nat → ClassId} {ad wr cr : Nat → Nat} {D : va_G} {cl : List vw_C} {sh : List ab_SP} {T : ab_RG} {C : ab_CT} {NW : ab_NW} {TT : List Jvm.Cond} {MT : List ab_MR} {KI KJ : List (Nat × Int)} {PF : ab_PT} {kd : ab_KD} {PS : ab_PS} {PM : ab_PC2} {KS : ab_KS} {lev rk : Nat} {sp HD : List Nat} {dt : ab_DT} {HN : ab_HH} {NS : List ab_ND} {fuel : Nat} {own : String} {mu : ab_M3}
    (mr : ab_MR) (ct : ab_CN)
    (hinj : ∀ i j, i < sh.length → j < sh.length → ad i = ad j → i = j) (hTT : ∀ w ∈ TT, goodWord w = true) (hcode : ∀ mr ∈ MT, goodWord (Jvm.Cond.code mr.1 mr.2.1 mr.2.2.1 mr.2.2.2.1) = true)
    (hKI : ∀ q ∈ KI, Jvm.Cond.constant own q.1 (Int32.ofInt q.2) ∈ TT) (hKJ : ∀ q ∈ KJ, Jvm.Cond.constantLong own q.1 (Int64.ofInt q.2) ∈ TT) (hPF : ∀ q ∈ PF, ab_fok cl TT own q) (hPS : ∀ q ∈ PS, ab_psok TT kd own q) (hPM : ∀ q ∈ PM, ab_mlk MT TT NW own q)
    (hy : plainName mr.1.cls = true) (hown : mr.1.cls = own) (hrk : ab_rkok rk mr.2.2.2.1)
    (hKS : ∀ q ∈ KS, ab_hold l cy ad wr cr D cl sh T C NW kd TT MT q)
    (hfit : (ab_cat ct.1).ble mr.2.2.1 = true)
    (hent : ((0, (ab_en0 0 ct.1, [], ct.2.1, ct.2.2.1, ct.2.2.2.1, []), mu) : ab_ND) ∈ NS)
    (hC : ∀ nd ∈ NS, ab_cn cl T C sh MT KI KJ PF kd PS PM KS lev 0 dt mr.2.2.1 ct.2.1.length ct.2.2.2.2 rk sp HD HN [] NS fuel nd = true) (hdt : ab_dtok mr.2.1 dt = true) :
    ∀ (ρ : Nat → Int) (σ : ab_SG) (sz : Nat), ab_K T C σ ct.2.1 ct.2.2.1 ct.2.2.2.1 [] ρ σ → (∀ a ∈ ct.1, ab_sy ct.2.1.length a) →
      Met l mr.1 (Jvm.Cond.code mr.1 mr.2.1 mr.2.2.1 mr.2.2.2.1 :: TT) (ab_room lev) (ab_PC cy ad wr cr D cl sh NW kd σ (ct.1.map (ab_V ad wr cr ρ)) sz) (ab_QC cy ad wr cr D cl sh T C ct.2.1.length ρ σ ct.2.2.2.2 (ab_A ad sh.length sz)) 0 0 (ab_A ad sh.length sz) := by
  intro ρ σ sz hK hsy
  refine Met.ofW (cc := mr.2.1) (maxL := mr.2.2.1) (ret := mr.2.2.2.1) hy rfl ?_
  intro p e s m args below meth c s₁ B hml hv
  obtain ⟨rfl, hsz, hP, hKK, hN, hCB⟩ := hv
  have hts := atoms_spec (ws := Jvm.Cond.code mr.1 mr.2.1 mr.2.2.1 mr.2.2.2.1 :: TT) B.pre
  have hown2 : s.vm.findClass own = some m.cls := by rw [← hown]; exact findClass_of_methodNamed B.named
  subst hsz
  have hA : ∀ k, k < sh.length → ab_A ad sh.length s.heap.size (ad k) := fun k hk => Or.inl ⟨k, hk, rfl⟩
  have hsub : ∀ w ∈ TT, w ∈ (Jvm.Cond.code mr.1 mr.2.1 mr.2.2.1 mr.2.2.2.1 :: TT) := fun w hw => List.mem_cons_of_mem _ hw
  have hE : ab_Ev p l s m (ct.1.map (ab_V ad wr cr ρ)).toArray meth c mr.2.1 mr.2.2.1 lev (headSpec (Jvm.Cond.code mr.1 mr.2.1 mr.2.2.1 mr.2.2.2.1 :: TT) (ab_room lev)).room cy ad wr cr D cl sh T C own (ab_A ad sh.length s.heap.size) s.heap (Jvm.Cond.code mr.1 mr.2.1 mr.2.2.1 mr.2.2.2.1 :: TT) TT NW MT KI KJ PF kd PS PM KS 0 ct.2.1.length ρ 0 0 dt σ :=
    ⟨B.exec, B.bytes, hml, hown2, hts, hKK, hN, fun w hw => ⟨hsub w hw, hTT w hw⟩, hcode, hA, fun q hq => Or.inr hq, fun q hq => ab_mlk_mono (hPM q hq) hsub, hKS, ⟨Nat.le_refl _, Nat.le_refl _⟩, fun q hq => hts _ (hsub _ (hKI q hq)), fun q hq => hts _ (hsub _ (hKJ q hq)), fun q hq => ab_fok_mono (hPF q hq) hsub, ab_WD_D hinj hA, hCB, rfl, fun q hq => ab_psok_mono (hPS q hq) hsub, ⟨Nat.zero_le _, Nat.zero_le _⟩, (fun q => by cases q), hdt⟩
  exact ab_entry hE hfit hK hsy hP hent (fun pc X ρ2 σ2 H locs ls2 st i len hd hr hG => ab_rt_ok B.exec B.bytes B.returns hrk B.notSynchronized hr hd hG) (fun nd hnd => by cases hnd) hC
end
