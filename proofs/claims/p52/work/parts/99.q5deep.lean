/-! the law, turn by turn, both sides held together -/
theorem nq_someD {α : Type} {o : Option α} {d : α} (h : o.isSome = true) : o = some (o.getD d) := by
  cases o with
  | none => cases h
  | some a => rfl
theorem lw_nil {cy : Nat → ClassId} {ad wr cr : Nat → Nat} {D : va_G} {nL n0 : Nat} {ρ0 : Nat → Int} {σ0 : ab_SG} {A : Nat → Prop} {H0 : Heap} {X : ab_AS} {ρ : Nat → Int} {σ : ab_SG} {H : Heap} {locs : List Loc} {ls : Array Slot} {st : List Value} (hG : ab_Gm cy ad wr cr D vwCl nn_sh nn_T nn_C nL n0 ρ0 σ0 A H0 X ρ σ H locs ls st) (h : X.2.2.2.2.2 = []) : σ = σ0 := by
  funext a b
  exact hG.1.2.2.2.2.2.2.2 a b (fun q hq => by rw [h] at hq; exact absurd hq List.not_mem_nil)
/-- another frame of mind: what is forgotten, what is named anew -/
theorem lw_re {cy : Nat → ClassId} {ad wr cr : Nat → Nat} {D : va_G} {nL n0 n1 : Nat} {ρ0 ρ9 : Nat → Int} {σ0 : ab_SG} {A : Nat → Prop} {H0 : Heap} {X X9 : ab_AS} {ρ : Nat → Int} {σ : ab_SG} {H : Heap} {locs : List Loc} {ls : Array Slot} {st : List Value} (hG : ab_Gm cy ad wr cr D vwCl nn_sh nn_T nn_C nL n0 ρ0 σ0 A H0 X ρ σ H locs ls st) (hM : X9.2.2.2.2.2 = []) (hB : ab_okB X9.2.2.1 ρ9) (hF : ab_okF X9.2.2.1.length X9.2.2.2.1 ρ9) (h0 : ρ9 0 = 0) (hl : 0 < X9.2.2.1.length) (hD : ab_okD X9.2.2.1.length X9.2.2.2.2.1 ρ9 σ) (hn : n1 ≤ X9.2.2.1.length) (hL : ab_okL ad wr cr X9.2.2.1.length nL ρ9 X9.1 ls) (hS : ab_okS ad wr cr X9.2.2.1.length ρ9 X9.2.1 st) :
    ab_Gm cy ad wr cr D vwCl nn_sh nn_T nn_C nL n1 ρ9 σ A H0 X9 ρ9 σ H locs ls st := by
  obtain ⟨⟨-, -, -, -, -, k6, k7, -⟩, -, -, -, -, g6, g7⟩ := hG
  refine ⟨⟨hB, hF, h0, hl, hD, k6, k7, ?_⟩, fun _ _ => rfl, hn, hL, hS, g6, g7⟩
  rw [hM]
  exact fun _ _ _ => rfl
def lw_v (vs : List Int) (i : Nat) : Int := vs.getD i 0
def lw_bs : ab_BD → List Int → Prop
  | [], _ => True
  | _ :: _, [] => False
  | q :: B, v :: vs => (q.1 ≤ v ∧ v ≤ q.2) ∧ lw_bs B vs
theorem lw_bn {vs : List Int} : lw_bs [] vs := trivial
theorem lw_bc {l h v : Int} {B : ab_BD} {vs : List Int} (h1 : l ≤ v) (h2 : v ≤ h) (h3 : lw_bs B vs) : lw_bs ((l, h) :: B) (v :: vs) := ⟨⟨h1, h2⟩, h3⟩
theorem lw_B : ∀ (B : ab_BD) (vs : List Int), lw_bs B vs → ab_okB B (lw_v vs)
  | [], _, _ => fun i hi => absurd hi (Nat.not_lt_zero i)
  | _ :: _, [], h => h.elim
  | q :: B, v :: vs, h => fun i hi => by
    cases i with
    | zero => exact h.1
    | succ i => exact lw_B B vs h.2 i (Nat.lt_of_succ_lt_succ hi)
theorem lw_d {n : Nat} {Dl : ab_DL} {ρ : Nat → Int} {σ : ab_SG} (h : ab_okD n Dl ρ σ) {k j s : Nat} {c : Int} (hd : ((k, j), (s, c)) ∈ Dl) (hj : j.ble 1999999 = true) : σ k j = ρ s + c := by
  have g : σ k (ab_kv ρ j) = ρ s + c := (h _ hd).2.2
  rw [ab_kv_pl hj] at g
  exact g
theorem lw_di {n k j s : Nat} {c : Int} {ρ : Nat → Int} {σ : ab_SG} (h1 : s < n) (hj : j.ble 1999999 = true) (h : σ k j = ρ s + c) : s < n ∧ ab_kn n j ∧ σ k (ab_kv ρ j) = ρ s + c := ⟨h1, Or.inl hj, by rw [ab_kv_pl hj]; exact h⟩
theorem lw_dk {n k j s : Nat} {c : Int} {ρ0 ρ : Nat → Int} {σ : ab_SG} (h1 : s < n) (h2 : ab_kn 3 j) (hn : 3 ≤ n) (e : ∀ i : Nat, i < 3 → ρ i = ρ0 i) (h : σ k (ab_kv ρ0 j) = ρ s + c) : s < n ∧ ab_kn n j ∧ σ k (ab_kv ρ j) = ρ s + c := ⟨h1, ab_kn_mono h2 hn, by rw [ab_kv_ext h2 e]; exact h⟩
theorem lw_L {ad wr cr : Nat → Nat} {n n9 : Nat} {ρ ρ9 : Nat → Int} {X : ab_LS} {ls : Array Slot} (h : ab_okL ad wr cr n 8 ρ X ls) (hX : X = lw_Lc) (e : ρ9 2 = ρ 2) (hn : 2 < n9) : ab_okL ad wr cr n9 8 ρ9 lw_Lc ls := by
  subst hX
  have e3 : ∀ q ∈ lw_Lc, (q.1, ab_V ad wr cr ρ9 q.2) = (q.1, ab_V ad wr cr ρ q.2) := by
    show ∀ q ∈ ([(0, (5, 999, 0)), (1, (2, 0, 0)), (2, (2, 93, 0)), (3, (2, 122, 0)), (4, (0, 2, 0))] : ab_LS), _
    exact List.forall_mem_cons.mpr ⟨rfl, List.forall_mem_cons.mpr ⟨rfl, List.forall_mem_cons.mpr ⟨rfl, List.forall_mem_cons.mpr ⟨rfl, List.forall_mem_cons.mpr ⟨(by
      show ((4 : Nat), Value.int (Int32.ofInt (ρ9 2 + 0))) = (4, Value.int (Int32.ofInt (ρ 2 + 0)))
      rw [e]), fun _ h => absurd h List.not_mem_nil⟩⟩⟩⟩⟩
  have e4 : ∀ q ∈ lw_Lc, ab_sy n9 q.2 := by
    show ∀ q ∈ ([(0, (5, 999, 0)), (1, (2, 0, 0)), (2, (2, 93, 0)), (3, (2, 122, 0)), (4, (0, 2, 0))] : ab_LS), ab_sy n9 q.2
    exact List.forall_mem_cons.mpr ⟨trivial, List.forall_mem_cons.mpr ⟨trivial, List.forall_mem_cons.mpr ⟨trivial, List.forall_mem_cons.mpr ⟨trivial, List.forall_mem_cons.mpr ⟨hn, fun _ h => absurd h List.not_mem_nil⟩⟩⟩⟩⟩
  refine ⟨?_, e4⟩
  have h1 := h.1
  rw [← List.map_congr_left e3] at h1
  exact h1
theorem lw_top {ad wr cr : Nat → Nat} {n : Nat} {ρ : Nat → Int} {S : List ab_AV} {st : List Value} (h : ab_okS ad wr cr n ρ S st) (h1 : S.length = 1) (h2 : S.all (fun a => a.1.beq 0) = true) : ∃ y : Int, st = [.int (Int32.ofInt y)] := by
  obtain ⟨e, -⟩ := h
  match S, h1, h2, e with
  | [a], _, h2, e =>
    obtain ⟨t, s, c⟩ := a
    rw [List.all_cons, Bool.and_eq_true] at h2
    have ht : t = 0 := Nat.eq_of_beq_eq_true h2.1
    subst ht
    exact ⟨ρ s + c, e⟩
theorem lw_in (y : Int) : (-2147483648 : Int) ≤ fw_c y ∧ fw_c y ≤ 2147483647 := fw_c_in y

theorem lw_Ev {p : Program} {e : Env} {s : State} {m : MethodId} {below : List Frame} {meth : Method} {c : Code} {l : Launch} {b L : Nat} {xs : Nat → Int32} {cy : Nat → ClassId} {ad wr cr : Nat → Nat} {D : va_G} (C0 : lw_At p s m meth c b L xs) (hinj : nn_inj ad) (hcr : cr 999 = b) (hAd : ∀ k, k < nn_sh.length → s.heap.size ≤ ad k) (hKK : va_K D vwCl (ab_tys cy) s) (hN : ab_okN nn_NW s) (hF : fw_CB cy ad wr cr nn_kd fw_kv fw_wc (fun q : Nat => s.heap.size ≤ q) s) {n0 : Nat} (hn : 1 < n0) {ρ : Nat → Int} {σ : ab_SG} (h4 : ρ 1 = (L : Int)) (h5 : ∀ j : Nat, j < L → σ 140 j = (xs j).toInt) {cells slots : Nat} (g1 : cells ≤ 601024) (g2 : slots ≤ 7293034) :
    ab_Ev p l s m #[Value.ref b] meth c code 8 82 room_1 cy ad wr cr D vwCl nn_sh nn_T nn_C "NameNotesLaw" (fun q : Nat => s.heap.size ≤ q) s.heap lw_tbl nn_TT nn_NW nn_MT (nn_KI0.map (fun x => x.1)) (nn_KJ0.map (fun x => x.1)) (nn_PF0.map (fun x => x.1)) nn_kd (nn_PS0.map (fun x => x.1)) (nn_PM0.map (fun x => x.1)) lw_K 1 n0 ρ cells slots nq_dt_law σ := by
  obtain ⟨hx, hb, hr, hml, hown, hts, hX, hbl, hlocks, hgv⟩ := C0
  have hown2 : s.vm.findClass "NameNotesLaw" = some m.cls := hown
  have hTT : ∀ w ∈ nn_TT, w ∈ lw_tbl := fun w hw => (List.mem_filter.mp hw).1
  exact ⟨hx, hb, hml, hown2, hts, hKK, hN, fun w hw => ⟨hTT w hw, nn_TT_good w hw⟩, nn_MT_code, hAd, fun q hq => hq, fun q hq => ab_mlk_mono (nn_PM0_ok q hq) hTT, lw_K_ok l cy ad wr cr D hinj, ⟨by decide, by decide⟩, fun q hq => hts _ (hTT _ (nn_KI0_ok q hq)), fun q hq => hts _ (hTT _ (nn_KJ0_ok q hq)), fun q hq => ab_fok_mono (nn_PF0_ok q hq) hTT, ab_WD_D hinj hAd, hF.1, rfl, fun q hq => ab_psok_mono (nn_PS0_ok q hq) hTT, ⟨g1, g2⟩, fun _ => ⟨L, xs, by rw [hcr]; exact hX, by rw [hcr]; exact hbl, by rw [hcr]; exact Nat.not_le.mpr hbl, h4, hn, h5⟩, nq_dt_law_ok⟩
theorem lw_go {p : Program} {e : Env} {s : State} {m : MethodId} {below : List Frame} {meth : Method} {c : Code} {l : Launch} {b L : Nat} {xs : Nat → Int32} {cy : Nat → ClassId} {ad wr cr : Nat → Nat} {D : va_G} (C0 : lw_At p s m meth c b L xs) (hinj : nn_inj ad) (hcr : cr 999 = b) (hAd : ∀ k, k < nn_sh.length → s.heap.size ≤ ad k) (hKK : va_K D vwCl (ab_tys cy) s) (hN : ab_okN nn_NW s) (hF : fw_CB cy ad wr cr nn_kd fw_kv fw_wc (fun q : Nat => s.heap.size ≤ q) s) {n0 : Nat} (hn : 1 < n0) {ρ : Nat → Int} {σ : ab_SG} (h4 : ρ 1 = (L : Int)) (h5 : ∀ j : Nat, j < L → σ 140 j = (xs j).toInt) {cells slots : Nat} (g1 : cells ≤ 601024) (g2 : slots ≤ 7293034) {EX NS : List ab_ND} (hck : NS.all (lw_cn n0 EX NS) = true) (hEX : ∀ nd ∈ EX, ∀ (ρ2 : Nat → Int) (σ2 : ab_SG) (H : Heap) (locs : List Loc) (ls : Array Slot) (st : List Value), ab_Gm cy ad wr cr D vwCl nn_sh nn_T nn_C 8 n0 ρ σ (fun q : Nat => s.heap.size ≤ q) s.heap nd.2.1 ρ2 σ2 H locs ls st → W p l e room_1 s m #[Value.ref b] below meth c H locs cells slots (lw_Z below #[Value.ref b] s) (F0 m nd.1 ls st)) {nd : ab_ND} (hnd : nd ∈ NS) {ρ2 : Nat → Int} {σ2 : ab_SG} {H : Heap} {locs : List Loc} {ls : Array Slot} {st : List Value} (hG : ab_Gm cy ad wr cr D vwCl nn_sh nn_T nn_C 8 n0 ρ σ (fun q : Nat => s.heap.size ≤ q) s.heap nd.2.1 ρ2 σ2 H locs ls st) : W p l e room_1 s m #[Value.ref b] below meth c H locs cells slots (lw_Z below #[Value.ref b] s) (F0 m nd.1 ls st) := by
  refine ab_nodes_ok (lev := 82) (sp := []) (HD := lw_HD) (HN := lw_HN) (EX := EX) (NS := NS) (fuel := 66) (lw_Ev (e := e) (below := below) C0 hinj hcr hAd hKK hN hF hn h4 h5 g1 g2) ?_ hEX (List.all_eq_true.mp hck) nd hnd ρ2 σ2 H locs ls st hG
  intro pc X ρ2 σ2 H locs ls st i len _ hr9 _
  unfold ab_rt at hr9
  rw [Bool.and_eq_true] at hr9
  cases hr9.2
set_option maxHeartbeats 8000000 in
theorem lw_d_feed {p : Program} {e : Env} {s : State} {m : MethodId} {below : List Frame} {meth : Method} {c : Code} {l : Launch} {b L : Nat} {xs : Nat → Int32} {cy : Nat → ClassId} {ad wr cr : Nat → Nat} {D : va_G} (C0 : lw_At p s m meth c b L xs) (hinj : nn_inj ad) (hcr : cr 999 = b) (hAd : ∀ k, k < nn_sh.length → s.heap.size ≤ ad k) (hKK : va_K D vwCl (ab_tys cy) s) (hN : ab_okN nn_NW s) (hF : fw_CB cy ad wr cr nn_kd fw_kv fw_wc (fun q : Nat => s.heap.size ≤ q) s) {cells slots : Nat} (g1 : cells ≤ 601024) (g2 : slots ≤ 7293034) {ρ : Nat → Int} {σ : ab_SG} (h4 : ρ 1 = (L : Int)) (h5 : ∀ j : Nat, j < L → σ 140 j = (xs j).toInt) (hR : RQ σ) (hH : ∀ (ρb : Nat → Int) (σb : ab_SG), ρb 1 = ρ 1 → ρb 2 = ρ 2 → (∀ j : Nat, j < L → σb 140 j = (xs j).toInt) → RQ σb → (∀ j : Nat, j < 4 → σb 95 j = ρb (6 + j)) → ∀ (ρ2 : Nat → Int) (σ2 : ab_SG) (H : Heap) (locs : List Loc) (ls : Array Slot) (st : List Value), ab_Gm cy ad wr cr D vwCl nn_sh nn_T nn_C 8 10 ρb σb (fun q : Nat => s.heap.size ≤ q) s.heap lw_X.2.1 ρ2 σ2 H locs ls st → W p l e room_1 s m #[Value.ref b] below meth c H locs cells slots (lw_Z below #[Value.ref b] s) (F0 m 23 ls st)) : ∀ (ρ2 : Nat → Int) (σ2 : ab_SG) (H : Heap) (locs : List Loc) (ls : Array Slot) (st : List Value), ab_Gm cy ad wr cr D vwCl nn_sh nn_T nn_C 8 10 ρ σ (fun q : Nat => s.heap.size ≤ q) s.heap lw_X319.2.1 ρ2 σ2 H locs ls st → W p l e room_1 s m #[Value.ref b] below meth c H locs cells slots (lw_Z below #[Value.ref b] s) (F0 m 319 ls st) := by
  intro ρ2 σ2 H locs ls st hG
  have C1 := C0
  obtain ⟨hx, hb, hr, hml, hown, hts, hX, hbl, hlocks, hgv⟩ := C0
  have hown2 : s.vm.findClass "NameNotesLaw" = some m.cls := hown
  have hTT : ∀ w ∈ nn_TT, w ∈ lw_tbl := fun w hw => (List.mem_filter.mp hw).1
  rw [lw_nil hG rfl] at hG
  have hok : ab_okR nn_T σ := hG.1.2.2.2.2.2.1
  have hc := cN_of hok
  have b1 : (7 : Int) ≤ ρ2 1 ∧ ρ2 1 ≤ 3584 := hG.1.1 1 (by decide)
  have b2 : (0 : Int) ≤ ρ2 2 ∧ ρ2 2 ≤ 3577 := hG.1.1 2 (by decide)
  have b4 : (0 : Int) ≤ ρ2 4 ∧ ρ2 4 ≤ 3577 := hG.1.1 4 (by decide)
  have f1 : ρ2 2 - ρ2 1 ≤ -7 := (hG.1.2.1 (2, 1, -7) (by decide +kernel)).2.2
  have f2 : ρ2 4 - ρ2 2 ≤ 0 := (hG.1.2.1 (4, 2, 0) (by decide +kernel)).2.2
  have r1 : ρ2 1 = ρ 1 := hG.2.1 1 (by decide)
  have r2 : ρ2 2 = ρ 2 := hG.2.1 2 (by decide)
  have dst : σ 93 23 = ρ2 4 := by
    have h := lw_d hG.1.2.2.2.2.1 (k := 93) (j := 23) (s := 4) (c := 0) (by decide +kernel) rfl
    rw [Int.add_zero] at h
    exact h
  have c12 : (-2147483648 : Int) ≤ ρ2 12 ∧ ρ2 12 ≤ 2147483647 := hG.1.1 12 (by decide)
  have c13 : (-2147483648 : Int) ≤ ρ2 13 ∧ ρ2 13 ≤ 2147483647 := hG.1.1 13 (by decide)
  have c14 : (-2147483648 : Int) ≤ ρ2 14 ∧ ρ2 14 ≤ 2147483647 := hG.1.1 14 (by decide)
  have c15 : (-2147483648 : Int) ≤ ρ2 15 ∧ ρ2 15 ≤ 2147483647 := hG.1.1 15 (by decide)
  have c16 : (-2147483648 : Int) ≤ ρ2 16 ∧ ρ2 16 ≤ 2147483647 := hG.1.1 16 (by decide)
  have d141 : σ 140 (ab_kv ρ2 2002001) = ρ2 12 + 0 := (hG.1.2.2.2.2.1 ((140, 2002001), (12, 0)) (by decide +kernel)).2.2
  have d142 : σ 140 (ab_kv ρ2 2002002) = ρ2 13 + 0 := (hG.1.2.2.2.2.1 ((140, 2002002), (13, 0)) (by decide +kernel)).2.2
  have d143 : σ 140 (ab_kv ρ2 2002003) = ρ2 14 + 0 := (hG.1.2.2.2.2.1 ((140, 2002003), (14, 0)) (by decide +kernel)).2.2
  have d144 : σ 140 (ab_kv ρ2 2002004) = ρ2 15 + 0 := (hG.1.2.2.2.2.1 ((140, 2002004), (15, 0)) (by decide +kernel)).2.2
  have d145 : σ 140 (ab_kv ρ2 2002005) = ρ2 16 + 0 := (hG.1.2.2.2.2.1 ((140, 2002005), (16, 0)) (by decide +kernel)).2.2
  have ar0 : fw_c (ρ2 12 + 0) = (ρ2 12 + 0) := fw_c_id (by omega) (by omega)
  have ar1 : fw_c (ρ2 13 + 0) = (ρ2 13 + 0) := fw_c_id (by omega) (by omega)
  have ar2 : fw_c (ρ2 14 + 0) = (ρ2 14 + 0) := fw_c_id (by omega) (by omega)
  have ar3 : fw_c (ρ2 15 + 0) = (ρ2 15 + 0) := fw_c_id (by omega) (by omega)
  have ar4 : fw_c (ρ2 16 + 0) = (ρ2 16 + 0) := fw_c_id (by omega) (by omega)
  refine db_cl (own := "NameNotesLaw") (cells := cells) (slots := slots) (nL := 8) (Ts := lw_tbl) (q := (0, 1, cd_139)) (mr := (⟨"NameNotes", "feed", "(IIIII)I"⟩, prog_1_method_2_code, 6, (Option.some Jvm.ClassFile.FieldType.int), 5, true, 0)) (lv := 1) (lev := 1) (as := [(2, 0, 0), (0, 12, 0), (0, 13, 0), (0, 14, 0), (0, 15, 0), (0, 16, 0)]) (rest := []) ⟨g1, g2⟩ hx hb hml hown2 hts hKK hN hF rfl hTT hAd (fun q hq => hq) rfl rfl (ab_mlk_mono (nn_PM0_ok (46, 0, 0) (by decide +kernel)) hTT) (hTT _ (nn_at_ok (i := 2184) (by decide +kernel))) (ct_139 l cy ad wr cr D hinj) (fm_feed hinj) (by decide) (by decide) ⟨by decide, by decide⟩ rfl rfl (by decide) (by decide) lw_R_feed_ok (show decode code 319 = .ok (.invokevirtual 46, 3) by decide +kernel) hG (K := fun _ σ' => k_feed (ρ2 12 + 0) (ρ2 13 + 0) (ρ2 14 + 0) (ρ2 15 + 0) (ρ2 16 + 0) σ σ') (sk_feed hR.1.1) ?_
  intro x hx9 ρ3 σ3 σf rv H1 locs1 st1 vr e1 hG3 hK hP hst
  have hv : vW σ3 σf := vW_of hG3.1.2.2.2.2.2.1 hG3.2.2.2.2.2.1 hP
  obtain ⟨w1, w2, w3, w4, w5, w6, w7⟩ := of_decide_eq_true (List.all_eq_true.mp lw_q_feed x hx9)
  obtain ⟨y1, hy1⟩ := lw_top hG3.2.2.2.2.1 w2 w3
  have e140 : ∀ j : Nat, σ3 140 j = σ 140 j := fun j => mk_row hG3.1.2.2.2.2.2.2.2 w6 j
  have e23 : σ3 93 23 = ρ2 4 := (mk_at hG3.1.2.2.2.2.2.2.2 w7).trans dst
  have d131 : σ3 130 1 = 0 + 0 := by
    have h := lw_d hG3.1.2.2.2.2.1 w4 rfl
    rw [hG3.1.2.2.1] at h
    exact h
  have d132 : σ3 130 2 = 0 + 0 := by
    have h := lw_d hG3.1.2.2.2.2.1 w5 rfl
    rw [hG3.1.2.2.1] at h
    exact h
  rw [← e140] at d141
  rw [← e140] at d142
  rw [← e140] at d143
  rw [← e140] at d144
  rw [← e140] at d145
  have hkv3 : ∀ i : Nat, i < 3 → lw_v [0, ρ2 1, ρ2 2, ρ2 12, ρ2 13, ρ2 14, ρ2 15, ρ2 16, fw_c y1, σ3 93 23] i = ρ2 i := fun i hi => by
    rcases (show i = 0 ∨ i = 1 ∨ i = 2 by omega) with rfl | rfl | rfl
    · exact hG.1.2.2.1.symm
    · rfl
    · rfl
  have hm : ab_Gm cy ad wr cr D vwCl nn_sh nn_T nn_C 8 10 (lw_v [0, ρ2 1, ρ2 2, ρ2 12, ρ2 13, ρ2 14, ρ2 15, ρ2 16, fw_c y1, σ3 93 23]) σ3 (fun q : Nat => s.heap.size ≤ q) s.heap lw_M_feed.2.1 (lw_v [0, ρ2 1, ρ2 2, ρ2 12, ρ2 13, ρ2 14, ρ2 15, ρ2 16, fw_c y1, σ3 93 23]) σ3 H1 locs1 ls st1 := by
    refine lw_re hG3 rfl (lw_B _ _ (lw_bc (Int.le_refl 0) (Int.le_refl 0) (lw_bc (by omega) (by omega) (lw_bc (by omega) (by omega) (lw_bc (by omega) (by omega) (lw_bc (by omega) (by omega) (lw_bc (by omega) (by omega) (lw_bc (by omega) (by omega) (lw_bc (by omega) (by omega) (lw_bc (lw_in y1).1 (lw_in y1).2 (lw_bc (by omega) (by omega) (lw_bn)))))))))))) (by
      show ∀ f ∈ ([(2, 1, (-7))] : ab_FT), _
      exact List.forall_mem_cons.mpr ⟨⟨by decide, by decide, (by show ρ2 2 - ρ2 1 ≤ -7; omega)⟩, fun _ h => absurd h List.not_mem_nil⟩) rfl (by decide) (by
      show ∀ d ∈ ([((130, 1), (0, 0)), ((130, 2), (0, 0)), ((93, 23), (9, 0)), ((140, 2002001), (3, 0)), ((140, 2002002), (4, 0)), ((140, 2002003), (5, 0)), ((140, 2002004), (6, 0)), ((140, 2002005), (7, 0))] : ab_DL), _
      exact List.forall_mem_cons.mpr ⟨lw_di (by decide) rfl d131, List.forall_mem_cons.mpr ⟨lw_di (by decide) rfl d132, List.forall_mem_cons.mpr ⟨lw_di (by decide) rfl (Int.add_zero _).symm, List.forall_mem_cons.mpr ⟨lw_dk (ρ0 := ρ2) (by decide) (Or.inr (by decide)) (by decide) hkv3 d141, List.forall_mem_cons.mpr ⟨lw_dk (ρ0 := ρ2) (by decide) (Or.inr (by decide)) (by decide) hkv3 d142, List.forall_mem_cons.mpr ⟨lw_dk (ρ0 := ρ2) (by decide) (Or.inr (by decide)) (by decide) hkv3 d143, List.forall_mem_cons.mpr ⟨lw_dk (ρ0 := ρ2) (by decide) (Or.inr (by decide)) (by decide) hkv3 d144, List.forall_mem_cons.mpr ⟨lw_dk (ρ0 := ρ2) (by decide) (Or.inr (by decide)) (by decide) hkv3 d145, fun _ h => absurd h List.not_mem_nil⟩⟩⟩⟩⟩⟩⟩⟩) (by decide) (lw_L hG3.2.2.2.1 w1 (show ρ2 2 = ρ3 2 from (e1 2 (by decide)).symm) (by decide)) ⟨?_, ?_⟩
    · rw [hy1]
      show [Value.int (Int32.ofInt y1)] = [Value.int (Int32.ofInt (fw_c y1 + 0))]
      rw [Int.add_zero, fw_c_of]
    · show ∀ a ∈ ([(0, 8, 0)] : List ab_AV), ab_sy 10 a
      exact List.forall_mem_cons.mpr ⟨(show 8 < 10 by decide), fun _ h => absurd h List.not_mem_nil⟩
  refine lw_go C1 hinj hcr hAd hKK hN hF (ρ := lw_v [0, ρ2 1, ρ2 2, ρ2 12, ρ2 13, ρ2 14, ρ2 15, ρ2 16, fw_c y1, σ3 93 23]) (σ := σ3) (by decide) (show ρ2 1 = (L : Int) from r1.trans h4) (fun j hj => (e140 j).trans (h5 j hj)) g1 g2 lw_cm_feed (fun nd hnd => ?_) List.mem_cons_self hm
  rw [List.mem_singleton.mp hnd]
  intro ρ4 σ4 H locs ls st hG4
  rw [lw_nil hG4 rfl] at hG4
  have a0 : ρ4 3 = ρ2 12 := hG4.2.1 3 (by decide)
  have a1 : ρ4 4 = ρ2 13 := hG4.2.1 4 (by decide)
  have a2 : ρ4 5 = ρ2 14 := hG4.2.1 5 (by decide)
  have a3 : ρ4 6 = ρ2 15 := hG4.2.1 6 (by decide)
  have a4 : ρ4 7 = ρ2 16 := hG4.2.1 7 (by decide)
  refine db_cl (own := "NameNotesLaw") (cells := cells) (slots := slots) (nL := 8) (Ts := lw_tbl) (q := (205, 1, md_13)) (mr := (⟨"NameNotesModel", "feed", "(IIIII)I"⟩, prog_14_method_5_code, 6, (Option.some Jvm.ClassFile.FieldType.int), 5, true, 0)) (lv := 1) (lev := 1) (as := [(2, 93, 0), (0, 3, 0), (0, 4, 0), (0, 5, 0), (0, 6, 0), (0, 7, 0)]) (rest := []) ⟨g1, g2⟩ hx hb hml hown2 hts hKK hN hF rfl hTT hAd (fun q hq => hq) rfl rfl (ab_mlk_mono (nn_PM0_ok (50, 0, 205) (by decide +kernel)) hTT) (hTT _ (nn_at_ok (i := 7203) (by decide +kernel))) (mt_13 l cy ad wr cr D hinj) (fm_m_feed hinj) (by decide) (by decide) ⟨by decide, by decide⟩ rfl rfl (by decide) (by decide) lw_T_feed_ok (show decode code 354 = .ok (.invokevirtual 50, 3) by decide +kernel) hG4 (K := fun _ σ' => km_feed (ρ2 12 + 0) (ρ2 13 + 0) (ρ2 14 + 0) (ρ2 15 + 0) (ρ2 16 + 0) σ3 σ') (by
    show sp_m_feed [(2, 93, 0), (0, 0, ρ4 3 + 0), (0, 0, ρ4 4 + 0), (0, 0, ρ4 5 + 0), (0, 0, ρ4 6 + 0), (0, 0, ρ4 7 + 0)] σ3 _
    rw [a0, a1, a2, a3, a4]
    exact sm_feed (cn_N hc) hR.1 hK (vw_W hv)) ?_
  intro x2 hx2 ρ5 σ5 σf2 rv2 H2 locs2 st2 vr2 e2 hG5 hK2 hP2 hst2
  have hv2 : vW σ5 σf2 := vW_of hG5.1.2.2.2.2.2.1 hG5.2.2.2.2.2.1 hP2
  have hok5 : ab_okR nn_T σ5 := hG5.1.2.2.2.2.2.1
  have hR5 : RQ σ5 := RQ_feed hc hR hK hv hK2 hv2
  obtain ⟨v1, v2, v3, v4, v5, v6, v7⟩ := of_decide_eq_true (List.all_eq_true.mp lw_p_feed x2 hx2)
  have u140 : ∀ j : Nat, σ5 140 j = σ3 140 j := fun j => mk_row hG5.1.2.2.2.2.2.2.2 v6 j
  have u23 : 0 ≤ σ5 93 23 ∧ σ5 93 23 ≤ σ3 93 23 + 1 := by
    rw [mk_at hG5.1.2.2.2.2.2.2.2 v7]
    omega
  obtain ⟨y2, hy2⟩ := lw_top hG5.2.2.2.2.1 v2 v3
  have u131 : σ5 130 1 = 0 + 0 := by
    have h := lw_d hG5.1.2.2.2.2.1 v4 rfl
    rw [hG5.1.2.2.1] at h
    exact h
  have u132 : σ5 130 2 = 0 + 0 := by
    have h := lw_d hG5.1.2.2.2.2.1 v5 rfl
    rw [hG5.1.2.2.1] at h
    exact h
  have n22 : (0 : Int) ≤ σ5 93 22 ∧ σ5 93 22 ≤ 1 := by
    rcases hR5.1.2.1.2.2.2 with ⟨z, -⟩ | ⟨z, -⟩ <;> omega
  have ha : ab_Gm cy ad wr cr D vwCl nn_sh nn_T nn_C 8 10 (lw_v [0, ρ2 1, ρ2 2, σ5 1 1, σ5 93 23, σ5 93 22, σ5 95 0, σ5 95 1, σ5 95 2, σ5 95 3, fw_c y2]) σ5 (fun q : Nat => s.heap.size ≤ q) s.heap lw_A_feed.2.1 (lw_v [0, ρ2 1, ρ2 2, σ5 1 1, σ5 93 23, σ5 93 22, σ5 95 0, σ5 95 1, σ5 95 2, σ5 95 3, fw_c y2]) σ5 H2 locs2 ls st2 := by
    refine lw_re hG5 rfl (lw_B _ _ (lw_bc (Int.le_refl 0) (Int.le_refl 0) (lw_bc (by omega) (by omega) (lw_bc (by omega) (by omega) (lw_bc hR5.1.1.2.1 hR5.1.1.2.2.1 (lw_bc u23.1 (by omega) (lw_bc n22.1 n22.2 (lw_bc (ab_rdT_ok (r := (0, 9)) (k := 95) (a := 0) (b := 0) (j := 0) hok5 (by decide +kernel) (Nat.le_refl _) (Nat.le_refl _)).1 (ab_rdT_ok (r := (0, 9)) (k := 95) (a := 0) (b := 0) (j := 0) hok5 (by decide +kernel) (Nat.le_refl _) (Nat.le_refl _)).2 (lw_bc (ab_rdT_ok (r := (0, 6)) (k := 95) (a := 1) (b := 1) (j := 1) hok5 (by decide +kernel) (Nat.le_refl _) (Nat.le_refl _)).1 (ab_rdT_ok (r := (0, 6)) (k := 95) (a := 1) (b := 1) (j := 1) hok5 (by decide +kernel) (Nat.le_refl _) (Nat.le_refl _)).2 (lw_bc (ab_rdT_ok (r := (0, 5)) (k := 95) (a := 2) (b := 2) (j := 2) hok5 (by decide +kernel) (Nat.le_refl _) (Nat.le_refl _)).1 (ab_rdT_ok (r := (0, 5)) (k := 95) (a := 2) (b := 2) (j := 2) hok5 (by decide +kernel) (Nat.le_refl _) (Nat.le_refl _)).2 (lw_bc (ab_rdT_ok (r := (0, 9)) (k := 95) (a := 3) (b := 3) (j := 3) hok5 (by decide +kernel) (Nat.le_refl _) (Nat.le_refl _)).1 (ab_rdT_ok (r := (0, 9)) (k := 95) (a := 3) (b := 3) (j := 3) hok5 (by decide +kernel) (Nat.le_refl _) (Nat.le_refl _)).2 (lw_bc (lw_in y2).1 (lw_in y2).2 (lw_bn))))))))))))) (by
      show ∀ f ∈ ([(2, 1, (-7)), (4, 2, 1)] : ab_FT), _
      exact List.forall_mem_cons.mpr ⟨⟨by decide, by decide, (by show ρ2 2 - ρ2 1 ≤ -7; omega)⟩, List.forall_mem_cons.mpr ⟨⟨by decide, by decide, (by show σ5 93 23 - ρ2 2 ≤ 1; omega)⟩, fun _ h => absurd h List.not_mem_nil⟩⟩) rfl (by decide) (by
      show ∀ d ∈ ([((1, 1), (3, 0)), ((93, 2), (3, 0)), ((93, 23), (4, 0)), ((130, 1), (0, 0)), ((130, 2), (0, 0)), ((93, 22), (5, 0)), ((95, 0), (6, 0)), ((95, 1), (7, 0)), ((95, 2), (8, 0)), ((95, 3), (9, 0))] : ab_DL), _
      exact List.forall_mem_cons.mpr ⟨lw_di (by decide) rfl (Int.add_zero _).symm, List.forall_mem_cons.mpr ⟨lw_di (by decide) rfl (hR5.1.1.1.symm.trans (Int.add_zero _).symm), List.forall_mem_cons.mpr ⟨lw_di (by decide) rfl (Int.add_zero _).symm, List.forall_mem_cons.mpr ⟨lw_di (by decide) rfl u131, List.forall_mem_cons.mpr ⟨lw_di (by decide) rfl u132, List.forall_mem_cons.mpr ⟨lw_di (by decide) rfl (Int.add_zero _).symm, List.forall_mem_cons.mpr ⟨lw_di (by decide) rfl (Int.add_zero _).symm, List.forall_mem_cons.mpr ⟨lw_di (by decide) rfl (Int.add_zero _).symm, List.forall_mem_cons.mpr ⟨lw_di (by decide) rfl (Int.add_zero _).symm, List.forall_mem_cons.mpr ⟨lw_di (by decide) rfl (Int.add_zero _).symm, fun _ h => absurd h List.not_mem_nil⟩⟩⟩⟩⟩⟩⟩⟩⟩⟩) (by decide) (lw_L hG5.2.2.2.1 v1 (show ρ2 2 = ρ5 2 from ((e2 2 (by decide)).trans (hG4.2.1 2 (by decide))).symm) (by decide)) ⟨?_, ?_⟩
    · rw [hy2]
      show [Value.int (Int32.ofInt y2)] = [Value.int (Int32.ofInt (fw_c y2 + 0))]
      rw [Int.add_zero, fw_c_of]
    · show ∀ a ∈ ([(0, 10, 0)] : List ab_AV), ab_sy 11 a
      exact List.forall_mem_cons.mpr ⟨(show 10 < 11 by decide), fun _ h => absurd h List.not_mem_nil⟩
  refine lw_go C1 hinj hcr hAd hKK hN hF (ρ := lw_v [0, ρ2 1, ρ2 2, σ5 1 1, σ5 93 23, σ5 93 22, σ5 95 0, σ5 95 1, σ5 95 2, σ5 95 3, fw_c y2]) (σ := σ5) (by decide) (show ρ2 1 = (L : Int) from r1.trans h4) (fun j hj => (u140 j).trans ((e140 j).trans (h5 j hj))) g1 g2 lw_ca_feed (fun nd hnd => ?_) List.mem_cons_self ha
  rw [List.mem_singleton.mp hnd]
  refine hH (lw_v [0, ρ2 1, ρ2 2, σ5 1 1, σ5 93 23, σ5 93 22, σ5 95 0, σ5 95 1, σ5 95 2, σ5 95 3, fw_c y2]) σ5 r1 r2 (fun j hj => (u140 j).trans ((e140 j).trans (h5 j hj))) hR5 (fun j hj => ?_)
  rcases (show j = 0 ∨ j = 1 ∨ j = 2 ∨ j = 3 by omega) with rfl | rfl | rfl | rfl <;> rfl
set_option maxHeartbeats 8000000 in
theorem lw_d_end {p : Program} {e : Env} {s : State} {m : MethodId} {below : List Frame} {meth : Method} {c : Code} {l : Launch} {b L : Nat} {xs : Nat → Int32} {cy : Nat → ClassId} {ad wr cr : Nat → Nat} {D : va_G} (C0 : lw_At p s m meth c b L xs) (hinj : nn_inj ad) (hcr : cr 999 = b) (hAd : ∀ k, k < nn_sh.length → s.heap.size ≤ ad k) (hKK : va_K D vwCl (ab_tys cy) s) (hN : ab_okN nn_NW s) (hF : fw_CB cy ad wr cr nn_kd fw_kv fw_wc (fun q : Nat => s.heap.size ≤ q) s) {cells slots : Nat} (g1 : cells ≤ 601024) (g2 : slots ≤ 7293034) {ρ : Nat → Int} {σ : ab_SG} (h4 : ρ 1 = (L : Int)) (h5 : ∀ j : Nat, j < L → σ 140 j = (xs j).toInt) (hR : RQ σ) (hH : ∀ (ρb : Nat → Int) (σb : ab_SG), ρb 1 = ρ 1 → ρb 2 = ρ 2 → (∀ j : Nat, j < L → σb 140 j = (xs j).toInt) → RQ σb → (∀ j : Nat, j < 4 → σb 95 j = ρb (6 + j)) → ∀ (ρ2 : Nat → Int) (σ2 : ab_SG) (H : Heap) (locs : List Loc) (ls : Array Slot) (st : List Value), ab_Gm cy ad wr cr D vwCl nn_sh nn_T nn_C 8 10 ρb σb (fun q : Nat => s.heap.size ≤ q) s.heap lw_X.2.1 ρ2 σ2 H locs ls st → W p l e room_1 s m #[Value.ref b] below meth c H locs cells slots (lw_Z below #[Value.ref b] s) (F0 m 23 ls st)) : ∀ (ρ2 : Nat → Int) (σ2 : ab_SG) (H : Heap) (locs : List Loc) (ls : Array Slot) (st : List Value), ab_Gm cy ad wr cr D vwCl nn_sh nn_T nn_C 8 10 ρ σ (fun q : Nat => s.heap.size ≤ q) s.heap lw_X368.2.1 ρ2 σ2 H locs ls st → W p l e room_1 s m #[Value.ref b] below meth c H locs cells slots (lw_Z below #[Value.ref b] s) (F0 m 368 ls st) := by
  intro ρ2 σ2 H locs ls st hG
  have C1 := C0
  obtain ⟨hx, hb, hr, hml, hown, hts, hX, hbl, hlocks, hgv⟩ := C0
  have hown2 : s.vm.findClass "NameNotesLaw" = some m.cls := hown
  have hTT : ∀ w ∈ nn_TT, w ∈ lw_tbl := fun w hw => (List.mem_filter.mp hw).1
  rw [lw_nil hG rfl] at hG
  have hok : ab_okR nn_T σ := hG.1.2.2.2.2.2.1
  have hc := cN_of hok
  have b1 : (7 : Int) ≤ ρ2 1 ∧ ρ2 1 ≤ 3584 := hG.1.1 1 (by decide)
  have b2 : (0 : Int) ≤ ρ2 2 ∧ ρ2 2 ≤ 3577 := hG.1.1 2 (by decide)
  have b4 : (0 : Int) ≤ ρ2 4 ∧ ρ2 4 ≤ 3577 := hG.1.1 4 (by decide)
  have f1 : ρ2 2 - ρ2 1 ≤ -7 := (hG.1.2.1 (2, 1, -7) (by decide +kernel)).2.2
  have f2 : ρ2 4 - ρ2 2 ≤ 0 := (hG.1.2.1 (4, 2, 0) (by decide +kernel)).2.2
  have r1 : ρ2 1 = ρ 1 := hG.2.1 1 (by decide)
  have r2 : ρ2 2 = ρ 2 := hG.2.1 2 (by decide)
  have dst : σ 93 23 = ρ2 4 := by
    have h := lw_d hG.1.2.2.2.2.1 (k := 93) (j := 23) (s := 4) (c := 0) (by decide +kernel) rfl
    rw [Int.add_zero] at h
    exact h
  have c12 : (-2147483648 : Int) ≤ ρ2 12 ∧ ρ2 12 ≤ 2147483647 := hG.1.1 12 (by decide)
  have d141 : σ 140 (ab_kv ρ2 2002001) = ρ2 12 + 0 := (hG.1.2.2.2.2.1 ((140, 2002001), (12, 0)) (by decide +kernel)).2.2
  have ar0 : fw_c (ρ2 12 + 0) = (ρ2 12 + 0) := fw_c_id (by omega) (by omega)
  refine db_cl (own := "NameNotesLaw") (cells := cells) (slots := slots) (nL := 8) (Ts := lw_tbl) (q := (3, 0, cd_140)) (mr := (⟨"NameNotes", "end", "(I)Z"⟩, prog_1_method_3_code, 2, (Option.some Jvm.ClassFile.FieldType.boolean), 1, true, 1)) (lv := 0) (lev := 0) (as := [(2, 0, 0), (0, 12, 0)]) (rest := []) ⟨g1, g2⟩ hx hb hml hown2 hts hKK hN hF rfl hTT hAd (fun q hq => hq) rfl rfl (ab_mlk_mono (nn_PM0_ok (51, 0, 3) (by decide +kernel)) hTT) (hTT _ (nn_at_ok (i := 2196) (by decide +kernel))) (ct_140 l cy ad wr cr D hinj) (fm_end hinj) (by decide) (by decide) ⟨by decide, by decide⟩ rfl rfl (by decide) (by decide) lw_R_end_ok (show decode code 368 = .ok (.invokevirtual 51, 3) by decide +kernel) hG (K := fun _ σ' => k_end (ρ2 12 + 0) σ σ') (sk_end hR.1.1) ?_
  intro x hx9 ρ3 σ3 σf rv H1 locs1 st1 vr e1 hG3 hK hP hst
  have hv : vW σ3 σf := vW_of hG3.1.2.2.2.2.2.1 hG3.2.2.2.2.2.1 hP
  obtain ⟨w1, w2, w3, w4, w5, w6, w7⟩ := of_decide_eq_true (List.all_eq_true.mp lw_q_end x hx9)
  obtain ⟨y1, hy1⟩ := lw_top hG3.2.2.2.2.1 w2 w3
  have e140 : ∀ j : Nat, σ3 140 j = σ 140 j := fun j => mk_row hG3.1.2.2.2.2.2.2.2 w6 j
  have e23 : σ3 93 23 = ρ2 4 := (mk_at hG3.1.2.2.2.2.2.2.2 w7).trans dst
  have d131 : σ3 130 1 = 0 + 0 := by
    have h := lw_d hG3.1.2.2.2.2.1 w4 rfl
    rw [hG3.1.2.2.1] at h
    exact h
  have d132 : σ3 130 2 = 0 + 0 := by
    have h := lw_d hG3.1.2.2.2.2.1 w5 rfl
    rw [hG3.1.2.2.1] at h
    exact h
  rw [← e140] at d141
  have hkv3 : ∀ i : Nat, i < 3 → lw_v [0, ρ2 1, ρ2 2, ρ2 12, fw_c y1, σ3 93 23] i = ρ2 i := fun i hi => by
    rcases (show i = 0 ∨ i = 1 ∨ i = 2 by omega) with rfl | rfl | rfl
    · exact hG.1.2.2.1.symm
    · rfl
    · rfl
  have hm : ab_Gm cy ad wr cr D vwCl nn_sh nn_T nn_C 8 6 (lw_v [0, ρ2 1, ρ2 2, ρ2 12, fw_c y1, σ3 93 23]) σ3 (fun q : Nat => s.heap.size ≤ q) s.heap lw_M_end.2.1 (lw_v [0, ρ2 1, ρ2 2, ρ2 12, fw_c y1, σ3 93 23]) σ3 H1 locs1 ls st1 := by
    refine lw_re hG3 rfl (lw_B _ _ (lw_bc (Int.le_refl 0) (Int.le_refl 0) (lw_bc (by omega) (by omega) (lw_bc (by omega) (by omega) (lw_bc (by omega) (by omega) (lw_bc (lw_in y1).1 (lw_in y1).2 (lw_bc (by omega) (by omega) (lw_bn)))))))) (by
      show ∀ f ∈ ([(2, 1, (-7))] : ab_FT), _
      exact List.forall_mem_cons.mpr ⟨⟨by decide, by decide, (by show ρ2 2 - ρ2 1 ≤ -7; omega)⟩, fun _ h => absurd h List.not_mem_nil⟩) rfl (by decide) (by
      show ∀ d ∈ ([((130, 1), (0, 0)), ((130, 2), (0, 0)), ((93, 23), (5, 0)), ((140, 2002001), (3, 0))] : ab_DL), _
      exact List.forall_mem_cons.mpr ⟨lw_di (by decide) rfl d131, List.forall_mem_cons.mpr ⟨lw_di (by decide) rfl d132, List.forall_mem_cons.mpr ⟨lw_di (by decide) rfl (Int.add_zero _).symm, List.forall_mem_cons.mpr ⟨lw_dk (ρ0 := ρ2) (by decide) (Or.inr (by decide)) (by decide) hkv3 d141, fun _ h => absurd h List.not_mem_nil⟩⟩⟩⟩) (by decide) (lw_L hG3.2.2.2.1 w1 (show ρ2 2 = ρ3 2 from (e1 2 (by decide)).symm) (by decide)) ⟨?_, ?_⟩
    · rw [hy1]
      show [Value.int (Int32.ofInt y1)] = [Value.int (Int32.ofInt (fw_c y1 + 0))]
      rw [Int.add_zero, fw_c_of]
    · show ∀ a ∈ ([(0, 4, 0)] : List ab_AV), ab_sy 6 a
      exact List.forall_mem_cons.mpr ⟨(show 4 < 6 by decide), fun _ h => absurd h List.not_mem_nil⟩
  refine lw_go C1 hinj hcr hAd hKK hN hF (ρ := lw_v [0, ρ2 1, ρ2 2, ρ2 12, fw_c y1, σ3 93 23]) (σ := σ3) (by decide) (show ρ2 1 = (L : Int) from r1.trans h4) (fun j hj => (e140 j).trans (h5 j hj)) g1 g2 lw_cm_end (fun nd hnd => ?_) List.mem_cons_self hm
  rw [List.mem_singleton.mp hnd]
  intro ρ4 σ4 H locs ls st hG4
  rw [lw_nil hG4 rfl] at hG4
  have a0 : ρ4 3 = ρ2 12 := hG4.2.1 3 (by decide)
  refine db_cl (own := "NameNotesLaw") (cells := cells) (slots := slots) (nL := 8) (Ts := lw_tbl) (q := (207, 0, md_14)) (mr := (⟨"NameNotesModel", "end", "(I)Z"⟩, prog_14_method_6_code, 2, (Option.some Jvm.ClassFile.FieldType.boolean), 1, true, 1)) (lv := 0) (lev := 0) (as := [(2, 93, 0), (0, 3, 0)]) (rest := []) ⟨g1, g2⟩ hx hb hml hown2 hts hKK hN hF rfl hTT hAd (fun q hq => hq) rfl rfl (ab_mlk_mono (nn_PM0_ok (55, 0, 207) (by decide +kernel)) hTT) (hTT _ (nn_at_ok (i := 7211) (by decide +kernel))) (mt_14 l cy ad wr cr D hinj) (fm_m_end hinj) (by decide) (by decide) ⟨by decide, by decide⟩ rfl rfl (by decide) (by decide) lw_T_end_ok (show decode code 379 = .ok (.invokevirtual 55, 3) by decide +kernel) hG4 (K := fun _ σ' => km_end (ρ2 12 + 0) σ3 σ') (by
    show sp_m_end [(2, 93, 0), (0, 0, ρ4 3 + 0)] σ3 _
    rw [a0]
    exact sm_end (cn_N hc) hR.1 hK (vw_W hv)) ?_
  intro x2 hx2 ρ5 σ5 σf2 rv2 H2 locs2 st2 vr2 e2 hG5 hK2 hP2 hst2
  have hv2 : vW σ5 σf2 := vW_of hG5.1.2.2.2.2.2.1 hG5.2.2.2.2.2.1 hP2
  have hok5 : ab_okR nn_T σ5 := hG5.1.2.2.2.2.2.1
  have hR5 : RQ σ5 := RQ_end hc hR hK hv hK2 hv2
  obtain ⟨v1, v2, v3, v4, v5, v6, v7⟩ := of_decide_eq_true (List.all_eq_true.mp lw_p_end x2 hx2)
  have u140 : ∀ j : Nat, σ5 140 j = σ3 140 j := fun j => mk_row hG5.1.2.2.2.2.2.2.2 v6 j
  have u23 : 0 ≤ σ5 93 23 ∧ σ5 93 23 ≤ σ3 93 23 + 1 := by
    rw [mk_at hG5.1.2.2.2.2.2.2.2 v7]
    omega
  obtain ⟨y2, hy2⟩ := lw_top hG5.2.2.2.2.1 v2 v3
  have u131 : σ5 130 1 = 0 + 0 := by
    have h := lw_d hG5.1.2.2.2.2.1 v4 rfl
    rw [hG5.1.2.2.1] at h
    exact h
  have u132 : σ5 130 2 = 0 + 0 := by
    have h := lw_d hG5.1.2.2.2.2.1 v5 rfl
    rw [hG5.1.2.2.1] at h
    exact h
  have n22 : (0 : Int) ≤ σ5 93 22 ∧ σ5 93 22 ≤ 1 := by
    rcases hR5.1.2.1.2.2.2 with ⟨z, -⟩ | ⟨z, -⟩ <;> omega
  have ha : ab_Gm cy ad wr cr D vwCl nn_sh nn_T nn_C 8 10 (lw_v [0, ρ2 1, ρ2 2, σ5 1 1, σ5 93 23, σ5 93 22, σ5 95 0, σ5 95 1, σ5 95 2, σ5 95 3, fw_c y2]) σ5 (fun q : Nat => s.heap.size ≤ q) s.heap lw_A_end.2.1 (lw_v [0, ρ2 1, ρ2 2, σ5 1 1, σ5 93 23, σ5 93 22, σ5 95 0, σ5 95 1, σ5 95 2, σ5 95 3, fw_c y2]) σ5 H2 locs2 ls st2 := by
    refine lw_re hG5 rfl (lw_B _ _ (lw_bc (Int.le_refl 0) (Int.le_refl 0) (lw_bc (by omega) (by omega) (lw_bc (by omega) (by omega) (lw_bc hR5.1.1.2.1 hR5.1.1.2.2.1 (lw_bc u23.1 (by omega) (lw_bc n22.1 n22.2 (lw_bc (ab_rdT_ok (r := (0, 9)) (k := 95) (a := 0) (b := 0) (j := 0) hok5 (by decide +kernel) (Nat.le_refl _) (Nat.le_refl _)).1 (ab_rdT_ok (r := (0, 9)) (k := 95) (a := 0) (b := 0) (j := 0) hok5 (by decide +kernel) (Nat.le_refl _) (Nat.le_refl _)).2 (lw_bc (ab_rdT_ok (r := (0, 6)) (k := 95) (a := 1) (b := 1) (j := 1) hok5 (by decide +kernel) (Nat.le_refl _) (Nat.le_refl _)).1 (ab_rdT_ok (r := (0, 6)) (k := 95) (a := 1) (b := 1) (j := 1) hok5 (by decide +kernel) (Nat.le_refl _) (Nat.le_refl _)).2 (lw_bc (ab_rdT_ok (r := (0, 5)) (k := 95) (a := 2) (b := 2) (j := 2) hok5 (by decide +kernel) (Nat.le_refl _) (Nat.le_refl _)).1 (ab_rdT_ok (r := (0, 5)) (k := 95) (a := 2) (b := 2) (j := 2) hok5 (by decide +kernel) (Nat.le_refl _) (Nat.le_refl _)).2 (lw_bc (ab_rdT_ok (r := (0, 9)) (k := 95) (a := 3) (b := 3) (j := 3) hok5 (by decide +kernel) (Nat.le_refl _) (Nat.le_refl _)).1 (ab_rdT_ok (r := (0, 9)) (k := 95) (a := 3) (b := 3) (j := 3) hok5 (by decide +kernel) (Nat.le_refl _) (Nat.le_refl _)).2 (lw_bc (lw_in y2).1 (lw_in y2).2 (lw_bn))))))))))))) (by
      show ∀ f ∈ ([(2, 1, (-7)), (4, 2, 1)] : ab_FT), _
      exact List.forall_mem_cons.mpr ⟨⟨by decide, by decide, (by show ρ2 2 - ρ2 1 ≤ -7; omega)⟩, List.forall_mem_cons.mpr ⟨⟨by decide, by decide, (by show σ5 93 23 - ρ2 2 ≤ 1; omega)⟩, fun _ h => absurd h List.not_mem_nil⟩⟩) rfl (by decide) (by
      show ∀ d ∈ ([((1, 1), (3, 0)), ((93, 2), (3, 0)), ((93, 23), (4, 0)), ((130, 1), (0, 0)), ((130, 2), (0, 0)), ((93, 22), (5, 0)), ((95, 0), (6, 0)), ((95, 1), (7, 0)), ((95, 2), (8, 0)), ((95, 3), (9, 0))] : ab_DL), _
      exact List.forall_mem_cons.mpr ⟨lw_di (by decide) rfl (Int.add_zero _).symm, List.forall_mem_cons.mpr ⟨lw_di (by decide) rfl (hR5.1.1.1.symm.trans (Int.add_zero _).symm), List.forall_mem_cons.mpr ⟨lw_di (by decide) rfl (Int.add_zero _).symm, List.forall_mem_cons.mpr ⟨lw_di (by decide) rfl u131, List.forall_mem_cons.mpr ⟨lw_di (by decide) rfl u132, List.forall_mem_cons.mpr ⟨lw_di (by decide) rfl (Int.add_zero _).symm, List.forall_mem_cons.mpr ⟨lw_di (by decide) rfl (Int.add_zero _).symm, List.forall_mem_cons.mpr ⟨lw_di (by decide) rfl (Int.add_zero _).symm, List.forall_mem_cons.mpr ⟨lw_di (by decide) rfl (Int.add_zero _).symm, List.forall_mem_cons.mpr ⟨lw_di (by decide) rfl (Int.add_zero _).symm, fun _ h => absurd h List.not_mem_nil⟩⟩⟩⟩⟩⟩⟩⟩⟩⟩) (by decide) (lw_L hG5.2.2.2.1 v1 (show ρ2 2 = ρ5 2 from ((e2 2 (by decide)).trans (hG4.2.1 2 (by decide))).symm) (by decide)) ⟨?_, ?_⟩
    · rw [hy2]
      show [Value.int (Int32.ofInt y2)] = [Value.int (Int32.ofInt (fw_c y2 + 0))]
      rw [Int.add_zero, fw_c_of]
    · show ∀ a ∈ ([(0, 10, 0)] : List ab_AV), ab_sy 11 a
      exact List.forall_mem_cons.mpr ⟨(show 10 < 11 by decide), fun _ h => absurd h List.not_mem_nil⟩
  refine lw_go C1 hinj hcr hAd hKK hN hF (ρ := lw_v [0, ρ2 1, ρ2 2, σ5 1 1, σ5 93 23, σ5 93 22, σ5 95 0, σ5 95 1, σ5 95 2, σ5 95 3, fw_c y2]) (σ := σ5) (by decide) (show ρ2 1 = (L : Int) from r1.trans h4) (fun j hj => (u140 j).trans ((e140 j).trans (h5 j hj))) g1 g2 lw_ca_end (fun nd hnd => ?_) List.mem_cons_self ha
  rw [List.mem_singleton.mp hnd]
  refine hH (lw_v [0, ρ2 1, ρ2 2, σ5 1 1, σ5 93 23, σ5 93 22, σ5 95 0, σ5 95 1, σ5 95 2, σ5 95 3, fw_c y2]) σ5 r1 r2 (fun j hj => (u140 j).trans ((e140 j).trans (h5 j hj))) hR5 (fun j hj => ?_)
  rcases (show j = 0 ∨ j = 1 ∨ j = 2 ∨ j = 3 by omega) with rfl | rfl | rfl | rfl <;> rfl
set_option maxHeartbeats 8000000 in
theorem lw_d_studio {p : Program} {e : Env} {s : State} {m : MethodId} {below : List Frame} {meth : Method} {c : Code} {l : Launch} {b L : Nat} {xs : Nat → Int32} {cy : Nat → ClassId} {ad wr cr : Nat → Nat} {D : va_G} (C0 : lw_At p s m meth c b L xs) (hinj : nn_inj ad) (hcr : cr 999 = b) (hAd : ∀ k, k < nn_sh.length → s.heap.size ≤ ad k) (hKK : va_K D vwCl (ab_tys cy) s) (hN : ab_okN nn_NW s) (hF : fw_CB cy ad wr cr nn_kd fw_kv fw_wc (fun q : Nat => s.heap.size ≤ q) s) {cells slots : Nat} (g1 : cells ≤ 601024) (g2 : slots ≤ 7293034) {ρ : Nat → Int} {σ : ab_SG} (h4 : ρ 1 = (L : Int)) (h5 : ∀ j : Nat, j < L → σ 140 j = (xs j).toInt) (hR : RQ σ) (hH : ∀ (ρb : Nat → Int) (σb : ab_SG), ρb 1 = ρ 1 → ρb 2 = ρ 2 → (∀ j : Nat, j < L → σb 140 j = (xs j).toInt) → RQ σb → (∀ j : Nat, j < 4 → σb 95 j = ρb (6 + j)) → ∀ (ρ2 : Nat → Int) (σ2 : ab_SG) (H : Heap) (locs : List Loc) (ls : Array Slot) (st : List Value), ab_Gm cy ad wr cr D vwCl nn_sh nn_T nn_C 8 10 ρb σb (fun q : Nat => s.heap.size ≤ q) s.heap lw_X.2.1 ρ2 σ2 H locs ls st → W p l e room_1 s m #[Value.ref b] below meth c H locs cells slots (lw_Z below #[Value.ref b] s) (F0 m 23 ls st)) : ∀ (ρ2 : Nat → Int) (σ2 : ab_SG) (H : Heap) (locs : List Loc) (ls : Array Slot) (st : List Value), ab_Gm cy ad wr cr D vwCl nn_sh nn_T nn_C 8 10 ρ σ (fun q : Nat => s.heap.size ≤ q) s.heap lw_X387.2.1 ρ2 σ2 H locs ls st → W p l e room_1 s m #[Value.ref b] below meth c H locs cells slots (lw_Z below #[Value.ref b] s) (F0 m 387 ls st) := by
  intro ρ2 σ2 H locs ls st hG
  have C1 := C0
  obtain ⟨hx, hb, hr, hml, hown, hts, hX, hbl, hlocks, hgv⟩ := C0
  have hown2 : s.vm.findClass "NameNotesLaw" = some m.cls := hown
  have hTT : ∀ w ∈ nn_TT, w ∈ lw_tbl := fun w hw => (List.mem_filter.mp hw).1
  rw [lw_nil hG rfl] at hG
  have hok : ab_okR nn_T σ := hG.1.2.2.2.2.2.1
  have hc := cN_of hok
  have b1 : (7 : Int) ≤ ρ2 1 ∧ ρ2 1 ≤ 3584 := hG.1.1 1 (by decide)
  have b2 : (0 : Int) ≤ ρ2 2 ∧ ρ2 2 ≤ 3577 := hG.1.1 2 (by decide)
  have b4 : (0 : Int) ≤ ρ2 4 ∧ ρ2 4 ≤ 3577 := hG.1.1 4 (by decide)
  have f1 : ρ2 2 - ρ2 1 ≤ -7 := (hG.1.2.1 (2, 1, -7) (by decide +kernel)).2.2
  have f2 : ρ2 4 - ρ2 2 ≤ 0 := (hG.1.2.1 (4, 2, 0) (by decide +kernel)).2.2
  have r1 : ρ2 1 = ρ 1 := hG.2.1 1 (by decide)
  have r2 : ρ2 2 = ρ 2 := hG.2.1 2 (by decide)
  have dst : σ 93 23 = ρ2 4 := by
    have h := lw_d hG.1.2.2.2.2.1 (k := 93) (j := 23) (s := 4) (c := 0) (by decide +kernel) rfl
    rw [Int.add_zero] at h
    exact h
  refine db_cl (own := "NameNotesLaw") (cells := cells) (slots := slots) (nL := 8) (Ts := lw_tbl) (q := (4, 7, cd_155)) (mr := (⟨"NameNotes", "studio", "()I"⟩, prog_1_method_4_code, 2, (Option.some Jvm.ClassFile.FieldType.int), 0, true, 0)) (lv := 8) (lev := 8) (as := [(2, 0, 0)]) (rest := []) ⟨g1, g2⟩ hx hb hml hown2 hts hKK hN hF rfl hTT hAd (fun q hq => hq) rfl rfl (ab_mlk_mono (nn_PM0_ok (56, 0, 4) (by decide +kernel)) hTT) (hTT _ (nn_at_ok (i := 2200) (by decide +kernel))) (ct_155 l cy ad wr cr D hinj) (fm_studio hinj) (by decide) (by decide) ⟨by decide, by decide⟩ rfl rfl (by decide) (by decide) lw_R_studio_ok (show decode code 387 = .ok (.invokevirtual 56, 3) by decide +kernel) hG (K := fun _ σ' => ∃ A : ab_SG, k_studio A σ σ') (sk_studio (rl_of hok) hR.1.1) ?_
  intro x hx9 ρ3 σ3 σf rv H1 locs1 st1 vr e1 hG3 hK hP hst
  have hv : vW σ3 σf := vW_of hG3.1.2.2.2.2.2.1 hG3.2.2.2.2.2.1 hP
  obtain ⟨w1, w2, w3, w4, w5, w6, w7⟩ := of_decide_eq_true (List.all_eq_true.mp lw_q_studio x hx9)
  obtain ⟨A1, hA1⟩ := hK
  obtain ⟨y1, hy1⟩ := lw_top hG3.2.2.2.2.1 w2 w3
  have e140 : ∀ j : Nat, σ3 140 j = σ 140 j := fun j => mk_row hG3.1.2.2.2.2.2.2.2 w6 j
  have e23 : σ3 93 23 = ρ2 4 := (mk_at hG3.1.2.2.2.2.2.2.2 w7).trans dst
  have d131 : σ3 130 1 = 0 + 0 := by
    have h := lw_d hG3.1.2.2.2.2.1 w4 rfl
    rw [hG3.1.2.2.1] at h
    exact h
  have d132 : σ3 130 2 = 0 + 0 := by
    have h := lw_d hG3.1.2.2.2.2.1 w5 rfl
    rw [hG3.1.2.2.1] at h
    exact h
  have hkv3 : ∀ i : Nat, i < 3 → lw_v [0, ρ2 1, ρ2 2, fw_c y1, σ3 93 23] i = ρ2 i := fun i hi => by
    rcases (show i = 0 ∨ i = 1 ∨ i = 2 by omega) with rfl | rfl | rfl
    · exact hG.1.2.2.1.symm
    · rfl
    · rfl
  have hm : ab_Gm cy ad wr cr D vwCl nn_sh nn_T nn_C 8 5 (lw_v [0, ρ2 1, ρ2 2, fw_c y1, σ3 93 23]) σ3 (fun q : Nat => s.heap.size ≤ q) s.heap lw_M_studio.2.1 (lw_v [0, ρ2 1, ρ2 2, fw_c y1, σ3 93 23]) σ3 H1 locs1 ls st1 := by
    refine lw_re hG3 rfl (lw_B _ _ (lw_bc (Int.le_refl 0) (Int.le_refl 0) (lw_bc (by omega) (by omega) (lw_bc (by omega) (by omega) (lw_bc (lw_in y1).1 (lw_in y1).2 (lw_bc (by omega) (by omega) (lw_bn))))))) (by
      show ∀ f ∈ ([(2, 1, (-7))] : ab_FT), _
      exact List.forall_mem_cons.mpr ⟨⟨by decide, by decide, (by show ρ2 2 - ρ2 1 ≤ -7; omega)⟩, fun _ h => absurd h List.not_mem_nil⟩) rfl (by decide) (by
      show ∀ d ∈ ([((130, 1), (0, 0)), ((130, 2), (0, 0)), ((93, 23), (4, 0))] : ab_DL), _
      exact List.forall_mem_cons.mpr ⟨lw_di (by decide) rfl d131, List.forall_mem_cons.mpr ⟨lw_di (by decide) rfl d132, List.forall_mem_cons.mpr ⟨lw_di (by decide) rfl (Int.add_zero _).symm, fun _ h => absurd h List.not_mem_nil⟩⟩⟩) (by decide) (lw_L hG3.2.2.2.1 w1 (show ρ2 2 = ρ3 2 from (e1 2 (by decide)).symm) (by decide)) ⟨?_, ?_⟩
    · rw [hy1]
      show [Value.int (Int32.ofInt y1)] = [Value.int (Int32.ofInt (fw_c y1 + 0))]
      rw [Int.add_zero, fw_c_of]
    · show ∀ a ∈ ([(0, 3, 0)] : List ab_AV), ab_sy 5 a
      exact List.forall_mem_cons.mpr ⟨(show 3 < 5 by decide), fun _ h => absurd h List.not_mem_nil⟩
  refine lw_go C1 hinj hcr hAd hKK hN hF (ρ := lw_v [0, ρ2 1, ρ2 2, fw_c y1, σ3 93 23]) (σ := σ3) (by decide) (show ρ2 1 = (L : Int) from r1.trans h4) (fun j hj => (e140 j).trans (h5 j hj)) g1 g2 lw_cm_studio (fun nd hnd => ?_) List.mem_cons_self hm
  rw [List.mem_singleton.mp hnd]
  intro ρ4 σ4 H locs ls st hG4
  rw [lw_nil hG4 rfl] at hG4
  refine db_cl (own := "NameNotesLaw") (cells := cells) (slots := slots) (nL := 8) (Ts := lw_tbl) (q := (208, 6, gd_studio)) (mr := (⟨"NameNotesModel", "studio", "()I"⟩, prog_14_method_39_code, 3, (Option.some Jvm.ClassFile.FieldType.int), 0, true, 0)) (lv := 6) (lev := 6) (as := [(2, 93, 0)]) (rest := []) ⟨g1, g2⟩ hx hb hml hown2 hts hKK hN hF rfl hTT hAd (fun q hq => hq) rfl rfl (ab_mlk_mono (nn_PM0_ok (60, 0, 208) (by decide +kernel)) hTT) (hTT _ (nn_at_ok (i := 7215) (by decide +kernel))) (gt_studio l cy ad wr cr D hinj) (fm_m_studio hinj) (by decide) (by decide) ⟨by decide, by decide⟩ rfl rfl (by decide) (by decide) lw_T_studio_ok (show decode code 392 = .ok (.invokevirtual 60, 3) by decide +kernel) hG4 (K := fun _ σ' => km_studio A1 (tp_t σ) σ3 σ') (by
    show sp_m_studio [(2, 93, 0)] σ3 _
    exact sm_studio (cn_N hc) hR.1 hA1 (vw_W hv)) ?_
  intro x2 hx2 ρ5 σ5 σf2 rv2 H2 locs2 st2 vr2 e2 hG5 hK2 hP2 hst2
  have hv2 : vW σ5 σf2 := vW_of hG5.1.2.2.2.2.2.1 hG5.2.2.2.2.2.1 hP2
  have hok5 : ab_okR nn_T σ5 := hG5.1.2.2.2.2.2.1
  have hR5 : RQ σ5 := RQ_studio hc hR hA1 hv hK2 hv2
  obtain ⟨v1, v2, v3, v4, v5, v6⟩ := of_decide_eq_true (List.all_eq_true.mp lw_p_studio x2 hx2)
  have u140 : ∀ j : Nat, σ5 140 j = σ3 140 j := fun j => mk_row hG5.1.2.2.2.2.2.2.2 v6 j
  have u23 : 0 ≤ σ5 93 23 ∧ σ5 93 23 ≤ σ3 93 23 + 1 := rn_studio (by omega) (by omega) hK2 (vw_W hv2)
  obtain ⟨y2, hy2⟩ := lw_top hG5.2.2.2.2.1 v2 v3
  have u131 : σ5 130 1 = 0 + 0 := by
    have h := lw_d hG5.1.2.2.2.2.1 v4 rfl
    rw [hG5.1.2.2.1] at h
    exact h
  have u132 : σ5 130 2 = 0 + 0 := by
    have h := lw_d hG5.1.2.2.2.2.1 v5 rfl
    rw [hG5.1.2.2.1] at h
    exact h
  have n22 : (0 : Int) ≤ σ5 93 22 ∧ σ5 93 22 ≤ 1 := by
    rcases hR5.1.2.1.2.2.2 with ⟨z, -⟩ | ⟨z, -⟩ <;> omega
  have ha : ab_Gm cy ad wr cr D vwCl nn_sh nn_T nn_C 8 10 (lw_v [0, ρ2 1, ρ2 2, σ5 1 1, σ5 93 23, σ5 93 22, σ5 95 0, σ5 95 1, σ5 95 2, σ5 95 3, fw_c y2]) σ5 (fun q : Nat => s.heap.size ≤ q) s.heap lw_A_studio.2.1 (lw_v [0, ρ2 1, ρ2 2, σ5 1 1, σ5 93 23, σ5 93 22, σ5 95 0, σ5 95 1, σ5 95 2, σ5 95 3, fw_c y2]) σ5 H2 locs2 ls st2 := by
    refine lw_re hG5 rfl (lw_B _ _ (lw_bc (Int.le_refl 0) (Int.le_refl 0) (lw_bc (by omega) (by omega) (lw_bc (by omega) (by omega) (lw_bc hR5.1.1.2.1 hR5.1.1.2.2.1 (lw_bc u23.1 (by omega) (lw_bc n22.1 n22.2 (lw_bc (ab_rdT_ok (r := (0, 9)) (k := 95) (a := 0) (b := 0) (j := 0) hok5 (by decide +kernel) (Nat.le_refl _) (Nat.le_refl _)).1 (ab_rdT_ok (r := (0, 9)) (k := 95) (a := 0) (b := 0) (j := 0) hok5 (by decide +kernel) (Nat.le_refl _) (Nat.le_refl _)).2 (lw_bc (ab_rdT_ok (r := (0, 6)) (k := 95) (a := 1) (b := 1) (j := 1) hok5 (by decide +kernel) (Nat.le_refl _) (Nat.le_refl _)).1 (ab_rdT_ok (r := (0, 6)) (k := 95) (a := 1) (b := 1) (j := 1) hok5 (by decide +kernel) (Nat.le_refl _) (Nat.le_refl _)).2 (lw_bc (ab_rdT_ok (r := (0, 5)) (k := 95) (a := 2) (b := 2) (j := 2) hok5 (by decide +kernel) (Nat.le_refl _) (Nat.le_refl _)).1 (ab_rdT_ok (r := (0, 5)) (k := 95) (a := 2) (b := 2) (j := 2) hok5 (by decide +kernel) (Nat.le_refl _) (Nat.le_refl _)).2 (lw_bc (ab_rdT_ok (r := (0, 9)) (k := 95) (a := 3) (b := 3) (j := 3) hok5 (by decide +kernel) (Nat.le_refl _) (Nat.le_refl _)).1 (ab_rdT_ok (r := (0, 9)) (k := 95) (a := 3) (b := 3) (j := 3) hok5 (by decide +kernel) (Nat.le_refl _) (Nat.le_refl _)).2 (lw_bc (lw_in y2).1 (lw_in y2).2 (lw_bn))))))))))))) (by
      show ∀ f ∈ ([(2, 1, (-7)), (4, 2, 1)] : ab_FT), _
      exact List.forall_mem_cons.mpr ⟨⟨by decide, by decide, (by show ρ2 2 - ρ2 1 ≤ -7; omega)⟩, List.forall_mem_cons.mpr ⟨⟨by decide, by decide, (by show σ5 93 23 - ρ2 2 ≤ 1; omega)⟩, fun _ h => absurd h List.not_mem_nil⟩⟩) rfl (by decide) (by
      show ∀ d ∈ ([((1, 1), (3, 0)), ((93, 2), (3, 0)), ((93, 23), (4, 0)), ((130, 1), (0, 0)), ((130, 2), (0, 0)), ((93, 22), (5, 0)), ((95, 0), (6, 0)), ((95, 1), (7, 0)), ((95, 2), (8, 0)), ((95, 3), (9, 0))] : ab_DL), _
      exact List.forall_mem_cons.mpr ⟨lw_di (by decide) rfl (Int.add_zero _).symm, List.forall_mem_cons.mpr ⟨lw_di (by decide) rfl (hR5.1.1.1.symm.trans (Int.add_zero _).symm), List.forall_mem_cons.mpr ⟨lw_di (by decide) rfl (Int.add_zero _).symm, List.forall_mem_cons.mpr ⟨lw_di (by decide) rfl u131, List.forall_mem_cons.mpr ⟨lw_di (by decide) rfl u132, List.forall_mem_cons.mpr ⟨lw_di (by decide) rfl (Int.add_zero _).symm, List.forall_mem_cons.mpr ⟨lw_di (by decide) rfl (Int.add_zero _).symm, List.forall_mem_cons.mpr ⟨lw_di (by decide) rfl (Int.add_zero _).symm, List.forall_mem_cons.mpr ⟨lw_di (by decide) rfl (Int.add_zero _).symm, List.forall_mem_cons.mpr ⟨lw_di (by decide) rfl (Int.add_zero _).symm, fun _ h => absurd h List.not_mem_nil⟩⟩⟩⟩⟩⟩⟩⟩⟩⟩) (by decide) (lw_L hG5.2.2.2.1 v1 (show ρ2 2 = ρ5 2 from ((e2 2 (by decide)).trans (hG4.2.1 2 (by decide))).symm) (by decide)) ⟨?_, ?_⟩
    · rw [hy2]
      show [Value.int (Int32.ofInt y2)] = [Value.int (Int32.ofInt (fw_c y2 + 0))]
      rw [Int.add_zero, fw_c_of]
    · show ∀ a ∈ ([(0, 10, 0)] : List ab_AV), ab_sy 11 a
      exact List.forall_mem_cons.mpr ⟨(show 10 < 11 by decide), fun _ h => absurd h List.not_mem_nil⟩
  refine lw_go C1 hinj hcr hAd hKK hN hF (ρ := lw_v [0, ρ2 1, ρ2 2, σ5 1 1, σ5 93 23, σ5 93 22, σ5 95 0, σ5 95 1, σ5 95 2, σ5 95 3, fw_c y2]) (σ := σ5) (by decide) (show ρ2 1 = (L : Int) from r1.trans h4) (fun j hj => (u140 j).trans ((e140 j).trans (h5 j hj))) g1 g2 lw_ca_studio (fun nd hnd => ?_) List.mem_cons_self ha
  rw [List.mem_singleton.mp hnd]
  refine hH (lw_v [0, ρ2 1, ρ2 2, σ5 1 1, σ5 93 23, σ5 93 22, σ5 95 0, σ5 95 1, σ5 95 2, σ5 95 3, fw_c y2]) σ5 r1 r2 (fun j hj => (u140 j).trans ((e140 j).trans (h5 j hj))) hR5 (fun j hj => ?_)
  rcases (show j = 0 ∨ j = 1 ∨ j = 2 ∨ j = 3 by omega) with rfl | rfl | rfl | rfl <;> rfl
set_option maxHeartbeats 8000000 in
theorem lw_d_teach {p : Program} {e : Env} {s : State} {m : MethodId} {below : List Frame} {meth : Method} {c : Code} {l : Launch} {b L : Nat} {xs : Nat → Int32} {cy : Nat → ClassId} {ad wr cr : Nat → Nat} {D : va_G} (C0 : lw_At p s m meth c b L xs) (hinj : nn_inj ad) (hcr : cr 999 = b) (hAd : ∀ k, k < nn_sh.length → s.heap.size ≤ ad k) (hKK : va_K D vwCl (ab_tys cy) s) (hN : ab_okN nn_NW s) (hF : fw_CB cy ad wr cr nn_kd fw_kv fw_wc (fun q : Nat => s.heap.size ≤ q) s) {cells slots : Nat} (g1 : cells ≤ 601024) (g2 : slots ≤ 7293034) {ρ : Nat → Int} {σ : ab_SG} (h4 : ρ 1 = (L : Int)) (h5 : ∀ j : Nat, j < L → σ 140 j = (xs j).toInt) (hR : RQ σ) (hH : ∀ (ρb : Nat → Int) (σb : ab_SG), ρb 1 = ρ 1 → ρb 2 = ρ 2 → (∀ j : Nat, j < L → σb 140 j = (xs j).toInt) → RQ σb → (∀ j : Nat, j < 4 → σb 95 j = ρb (6 + j)) → ∀ (ρ2 : Nat → Int) (σ2 : ab_SG) (H : Heap) (locs : List Loc) (ls : Array Slot) (st : List Value), ab_Gm cy ad wr cr D vwCl nn_sh nn_T nn_C 8 10 ρb σb (fun q : Nat => s.heap.size ≤ q) s.heap lw_X.2.1 ρ2 σ2 H locs ls st → W p l e room_1 s m #[Value.ref b] below meth c H locs cells slots (lw_Z below #[Value.ref b] s) (F0 m 23 ls st)) : ∀ (ρ2 : Nat → Int) (σ2 : ab_SG) (H : Heap) (locs : List Loc) (ls : Array Slot) (st : List Value), ab_Gm cy ad wr cr D vwCl nn_sh nn_T nn_C 8 10 ρ σ (fun q : Nat => s.heap.size ≤ q) s.heap lw_X1773.2.1 ρ2 σ2 H locs ls st → W p l e room_1 s m #[Value.ref b] below meth c H locs cells slots (lw_Z below #[Value.ref b] s) (F0 m 1773 ls st) := by
  intro ρ2 σ2 H locs ls st hG
  have C1 := C0
  obtain ⟨hx, hb, hr, hml, hown, hts, hX, hbl, hlocks, hgv⟩ := C0
  have hown2 : s.vm.findClass "NameNotesLaw" = some m.cls := hown
  have hTT : ∀ w ∈ nn_TT, w ∈ lw_tbl := fun w hw => (List.mem_filter.mp hw).1
  rw [lw_nil hG rfl] at hG
  have hok : ab_okR nn_T σ := hG.1.2.2.2.2.2.1
  have hc := cN_of hok
  have b1 : (7 : Int) ≤ ρ2 1 ∧ ρ2 1 ≤ 3584 := hG.1.1 1 (by decide)
  have b2 : (0 : Int) ≤ ρ2 2 ∧ ρ2 2 ≤ 3577 := hG.1.1 2 (by decide)
  have b4 : (0 : Int) ≤ ρ2 4 ∧ ρ2 4 ≤ 3577 := hG.1.1 4 (by decide)
  have f1 : ρ2 2 - ρ2 1 ≤ -7 := (hG.1.2.1 (2, 1, -7) (by decide +kernel)).2.2
  have f2 : ρ2 4 - ρ2 2 ≤ 0 := (hG.1.2.1 (4, 2, 0) (by decide +kernel)).2.2
  have r1 : ρ2 1 = ρ 1 := hG.2.1 1 (by decide)
  have r2 : ρ2 2 = ρ 2 := hG.2.1 2 (by decide)
  have dst : σ 93 23 = ρ2 4 := by
    have h := lw_d hG.1.2.2.2.2.1 (k := 93) (j := 23) (s := 4) (c := 0) (by decide +kernel) rfl
    rw [Int.add_zero] at h
    exact h
  have c12 : (-2147483648 : Int) ≤ ρ2 12 ∧ ρ2 12 ≤ 2147483647 := hG.1.1 12 (by decide)
  have c13 : (-2147483648 : Int) ≤ ρ2 13 ∧ ρ2 13 ≤ 2147483647 := hG.1.1 13 (by decide)
  have c14 : (-2147483648 : Int) ≤ ρ2 14 ∧ ρ2 14 ≤ 2147483647 := hG.1.1 14 (by decide)
  have d141 : σ 140 (ab_kv ρ2 2002001) = ρ2 12 + 0 := (hG.1.2.2.2.2.1 ((140, 2002001), (12, 0)) (by decide +kernel)).2.2
  have d142 : σ 140 (ab_kv ρ2 2002002) = ρ2 13 + 0 := (hG.1.2.2.2.2.1 ((140, 2002002), (13, 0)) (by decide +kernel)).2.2
  have d143 : σ 140 (ab_kv ρ2 2002003) = ρ2 14 + 0 := (hG.1.2.2.2.2.1 ((140, 2002003), (14, 0)) (by decide +kernel)).2.2
  have ar0 : fw_c (ρ2 12 + 0) = (ρ2 12 + 0) := fw_c_id (by omega) (by omega)
  have ar1 : fw_c (ρ2 13 + 0) = (ρ2 13 + 0) := fw_c_id (by omega) (by omega)
  have ar2 : fw_c (ρ2 14 + 0) = (ρ2 14 + 0) := fw_c_id (by omega) (by omega)
  refine db_cl (own := "NameNotesLaw") (cells := cells) (slots := slots) (nL := 8) (Ts := lw_tbl) (q := (130, 3, cd_194)) (mr := (⟨"NameNotes", "teach", "(III)Z"⟩, prog_1_method_32_code, 4, (Option.some Jvm.ClassFile.FieldType.boolean), 3, true, 1)) (lv := 3) (lev := 3) (as := [(2, 0, 0), (0, 12, 0), (0, 13, 0), (0, 14, 0)]) (rest := []) ⟨g1, g2⟩ hx hb hml hown2 hts hKK hN hF rfl hTT hAd (fun q hq => hq) rfl rfl (ab_mlk_mono (nn_PM0_ok (172, 0, 130) (by decide +kernel)) hTT) (hTT _ (nn_at_ok (i := 5029) (by decide +kernel))) (ct_194 l cy ad wr cr D hinj) (fm_teach hinj) (by decide) (by decide) ⟨by decide, by decide⟩ rfl rfl (by decide) (by decide) lw_R_teach_ok (show decode code 1773 = .ok (.invokevirtual 172, 3) by decide +kernel) hG (K := fun rv σ' => ∃ v : Int, rv = some (0, 0, v) ∧ k_teach (ρ2 12 + 0) (ρ2 13 + 0) (ρ2 14 + 0) v σ σ') (sk_teach ar0 ar1 ar2 (rx_cf hR.2)) ?_
  intro x hx9 ρ3 σ3 σf rv H1 locs1 st1 vr e1 hG3 hK hP hst
  have hv : vW σ3 σf := vW_of hG3.1.2.2.2.2.2.1 hG3.2.2.2.2.2.1 hP
  obtain ⟨w1, w2, w3, w4, w5, w6, w7⟩ := of_decide_eq_true (List.all_eq_true.mp lw_q_teach x hx9)
  obtain ⟨va1, -, hK⟩ := hK
  obtain ⟨y1, hy1⟩ := lw_top hG3.2.2.2.2.1 w2 w3
  have e140 : ∀ j : Nat, σ3 140 j = σ 140 j := fun j => mk_row hG3.1.2.2.2.2.2.2.2 w6 j
  have e23 : σ3 93 23 = ρ2 4 := (mk_at hG3.1.2.2.2.2.2.2.2 w7).trans dst
  have d131 : σ3 130 1 = 0 + 0 := by
    have h := lw_d hG3.1.2.2.2.2.1 w4 rfl
    rw [hG3.1.2.2.1] at h
    exact h
  have d132 : σ3 130 2 = 0 + 0 := by
    have h := lw_d hG3.1.2.2.2.2.1 w5 rfl
    rw [hG3.1.2.2.1] at h
    exact h
  rw [← e140] at d141
  rw [← e140] at d142
  rw [← e140] at d143
  have hkv3 : ∀ i : Nat, i < 3 → lw_v [0, ρ2 1, ρ2 2, ρ2 12, ρ2 13, ρ2 14, fw_c y1, σ3 93 23] i = ρ2 i := fun i hi => by
    rcases (show i = 0 ∨ i = 1 ∨ i = 2 by omega) with rfl | rfl | rfl
    · exact hG.1.2.2.1.symm
    · rfl
    · rfl
  have hm : ab_Gm cy ad wr cr D vwCl nn_sh nn_T nn_C 8 8 (lw_v [0, ρ2 1, ρ2 2, ρ2 12, ρ2 13, ρ2 14, fw_c y1, σ3 93 23]) σ3 (fun q : Nat => s.heap.size ≤ q) s.heap lw_M_teach.2.1 (lw_v [0, ρ2 1, ρ2 2, ρ2 12, ρ2 13, ρ2 14, fw_c y1, σ3 93 23]) σ3 H1 locs1 ls st1 := by
    refine lw_re hG3 rfl (lw_B _ _ (lw_bc (Int.le_refl 0) (Int.le_refl 0) (lw_bc (by omega) (by omega) (lw_bc (by omega) (by omega) (lw_bc (by omega) (by omega) (lw_bc (by omega) (by omega) (lw_bc (by omega) (by omega) (lw_bc (lw_in y1).1 (lw_in y1).2 (lw_bc (by omega) (by omega) (lw_bn)))))))))) (by
      show ∀ f ∈ ([(2, 1, (-7))] : ab_FT), _
      exact List.forall_mem_cons.mpr ⟨⟨by decide, by decide, (by show ρ2 2 - ρ2 1 ≤ -7; omega)⟩, fun _ h => absurd h List.not_mem_nil⟩) rfl (by decide) (by
      show ∀ d ∈ ([((130, 1), (0, 0)), ((130, 2), (0, 0)), ((93, 23), (7, 0)), ((140, 2002001), (3, 0)), ((140, 2002002), (4, 0)), ((140, 2002003), (5, 0))] : ab_DL), _
      exact List.forall_mem_cons.mpr ⟨lw_di (by decide) rfl d131, List.forall_mem_cons.mpr ⟨lw_di (by decide) rfl d132, List.forall_mem_cons.mpr ⟨lw_di (by decide) rfl (Int.add_zero _).symm, List.forall_mem_cons.mpr ⟨lw_dk (ρ0 := ρ2) (by decide) (Or.inr (by decide)) (by decide) hkv3 d141, List.forall_mem_cons.mpr ⟨lw_dk (ρ0 := ρ2) (by decide) (Or.inr (by decide)) (by decide) hkv3 d142, List.forall_mem_cons.mpr ⟨lw_dk (ρ0 := ρ2) (by decide) (Or.inr (by decide)) (by decide) hkv3 d143, fun _ h => absurd h List.not_mem_nil⟩⟩⟩⟩⟩⟩) (by decide) (lw_L hG3.2.2.2.1 w1 (show ρ2 2 = ρ3 2 from (e1 2 (by decide)).symm) (by decide)) ⟨?_, ?_⟩
    · rw [hy1]
      show [Value.int (Int32.ofInt y1)] = [Value.int (Int32.ofInt (fw_c y1 + 0))]
      rw [Int.add_zero, fw_c_of]
    · show ∀ a ∈ ([(0, 6, 0)] : List ab_AV), ab_sy 8 a
      exact List.forall_mem_cons.mpr ⟨(show 6 < 8 by decide), fun _ h => absurd h List.not_mem_nil⟩
  refine lw_go C1 hinj hcr hAd hKK hN hF (ρ := lw_v [0, ρ2 1, ρ2 2, ρ2 12, ρ2 13, ρ2 14, fw_c y1, σ3 93 23]) (σ := σ3) (by decide) (show ρ2 1 = (L : Int) from r1.trans h4) (fun j hj => (e140 j).trans (h5 j hj)) g1 g2 lw_cm_teach (fun nd hnd => ?_) List.mem_cons_self hm
  rw [List.mem_singleton.mp hnd]
  intro ρ4 σ4 H locs ls st hG4
  rw [lw_nil hG4 rfl] at hG4
  have a0 : ρ4 3 = ρ2 12 := hG4.2.1 3 (by decide)
  have a1 : ρ4 4 = ρ2 13 := hG4.2.1 4 (by decide)
  have a2 : ρ4 5 = ρ2 14 := hG4.2.1 5 (by decide)
  refine db_cl (own := "NameNotesLaw") (cells := cells) (slots := slots) (nL := 8) (Ts := lw_tbl) (q := (315, 2, md_198)) (mr := (⟨"NameNotesModel", "teach", "(III)Z"⟩, prog_14_method_114_code, 4, (Option.some Jvm.ClassFile.FieldType.boolean), 3, true, 1)) (lv := 2) (lev := 2) (as := [(2, 93, 0), (0, 3, 0), (0, 4, 0), (0, 5, 0)]) (rest := []) ⟨g1, g2⟩ hx hb hml hown2 hts hKK hN hF rfl hTT hAd (fun q hq => hq) rfl rfl (ab_mlk_mono (nn_PM0_ok (176, 0, 315) (by decide +kernel)) hTT) (hTT _ (nn_at_ok (i := 9162) (by decide +kernel))) (mt_198 l cy ad wr cr D hinj) (fm_m_teach hinj) (by decide) (by decide) ⟨by decide, by decide⟩ rfl rfl (by decide) (by decide) lw_T_teach_ok (show decode code 1796 = .ok (.invokevirtual 176, 3) by decide +kernel) hG4 (K := fun rv σ' => ∃ v : Int, rv = some (0, 0, v) ∧ km_teach (ρ2 12 + 0) (ρ2 13 + 0) (ρ2 14 + 0) v σ3 σ') (by
    show sp_m_teach [(2, 93, 0), (0, 0, ρ4 3 + 0), (0, 0, ρ4 4 + 0), (0, 0, ρ4 5 + 0)] σ3 _
    rw [a0, a1, a2]
    exact sm_teach ar0 ar1 ar2 (rx_mf hc hR (kM_teach hK) hv (by decide)).1) ?_
  intro x2 hx2 ρ5 σ5 σf2 rv2 H2 locs2 st2 vr2 e2 hG5 hK2 hP2 hst2
  have hv2 : vW σ5 σf2 := vW_of hG5.1.2.2.2.2.2.1 hG5.2.2.2.2.2.1 hP2
  have hok5 : ab_okR nn_T σ5 := hG5.1.2.2.2.2.2.1
  obtain ⟨va2, -, hK2⟩ := hK2
  have hR5 : RQ σ5 := (RQ_teach ar0 ar1 hc hR hok5 hK hv hK2 hv2).1
  obtain ⟨v1, v2, v3, v4, v5, v6, v7⟩ := of_decide_eq_true (List.all_eq_true.mp lw_p_teach x2 hx2)
  have u140 : ∀ j : Nat, σ5 140 j = σ3 140 j := fun j => mk_row hG5.1.2.2.2.2.2.2.2 v6 j
  have u23 : 0 ≤ σ5 93 23 ∧ σ5 93 23 ≤ σ3 93 23 + 1 := by
    rw [mk_at hG5.1.2.2.2.2.2.2.2 v7]
    omega
  obtain ⟨y2, hy2⟩ := lw_top hG5.2.2.2.2.1 v2 v3
  have u131 : σ5 130 1 = 0 + 0 := by
    have h := lw_d hG5.1.2.2.2.2.1 v4 rfl
    rw [hG5.1.2.2.1] at h
    exact h
  have u132 : σ5 130 2 = 0 + 0 := by
    have h := lw_d hG5.1.2.2.2.2.1 v5 rfl
    rw [hG5.1.2.2.1] at h
    exact h
  have n22 : (0 : Int) ≤ σ5 93 22 ∧ σ5 93 22 ≤ 1 := by
    rcases hR5.1.2.1.2.2.2 with ⟨z, -⟩ | ⟨z, -⟩ <;> omega
  have ha : ab_Gm cy ad wr cr D vwCl nn_sh nn_T nn_C 8 10 (lw_v [0, ρ2 1, ρ2 2, σ5 1 1, σ5 93 23, σ5 93 22, σ5 95 0, σ5 95 1, σ5 95 2, σ5 95 3, fw_c y2]) σ5 (fun q : Nat => s.heap.size ≤ q) s.heap lw_A_teach.2.1 (lw_v [0, ρ2 1, ρ2 2, σ5 1 1, σ5 93 23, σ5 93 22, σ5 95 0, σ5 95 1, σ5 95 2, σ5 95 3, fw_c y2]) σ5 H2 locs2 ls st2 := by
    refine lw_re hG5 rfl (lw_B _ _ (lw_bc (Int.le_refl 0) (Int.le_refl 0) (lw_bc (by omega) (by omega) (lw_bc (by omega) (by omega) (lw_bc hR5.1.1.2.1 hR5.1.1.2.2.1 (lw_bc u23.1 (by omega) (lw_bc n22.1 n22.2 (lw_bc (ab_rdT_ok (r := (0, 9)) (k := 95) (a := 0) (b := 0) (j := 0) hok5 (by decide +kernel) (Nat.le_refl _) (Nat.le_refl _)).1 (ab_rdT_ok (r := (0, 9)) (k := 95) (a := 0) (b := 0) (j := 0) hok5 (by decide +kernel) (Nat.le_refl _) (Nat.le_refl _)).2 (lw_bc (ab_rdT_ok (r := (0, 6)) (k := 95) (a := 1) (b := 1) (j := 1) hok5 (by decide +kernel) (Nat.le_refl _) (Nat.le_refl _)).1 (ab_rdT_ok (r := (0, 6)) (k := 95) (a := 1) (b := 1) (j := 1) hok5 (by decide +kernel) (Nat.le_refl _) (Nat.le_refl _)).2 (lw_bc (ab_rdT_ok (r := (0, 5)) (k := 95) (a := 2) (b := 2) (j := 2) hok5 (by decide +kernel) (Nat.le_refl _) (Nat.le_refl _)).1 (ab_rdT_ok (r := (0, 5)) (k := 95) (a := 2) (b := 2) (j := 2) hok5 (by decide +kernel) (Nat.le_refl _) (Nat.le_refl _)).2 (lw_bc (ab_rdT_ok (r := (0, 9)) (k := 95) (a := 3) (b := 3) (j := 3) hok5 (by decide +kernel) (Nat.le_refl _) (Nat.le_refl _)).1 (ab_rdT_ok (r := (0, 9)) (k := 95) (a := 3) (b := 3) (j := 3) hok5 (by decide +kernel) (Nat.le_refl _) (Nat.le_refl _)).2 (lw_bc (lw_in y2).1 (lw_in y2).2 (lw_bn))))))))))))) (by
      show ∀ f ∈ ([(2, 1, (-7)), (4, 2, 1)] : ab_FT), _
      exact List.forall_mem_cons.mpr ⟨⟨by decide, by decide, (by show ρ2 2 - ρ2 1 ≤ -7; omega)⟩, List.forall_mem_cons.mpr ⟨⟨by decide, by decide, (by show σ5 93 23 - ρ2 2 ≤ 1; omega)⟩, fun _ h => absurd h List.not_mem_nil⟩⟩) rfl (by decide) (by
      show ∀ d ∈ ([((1, 1), (3, 0)), ((93, 2), (3, 0)), ((93, 23), (4, 0)), ((130, 1), (0, 0)), ((130, 2), (0, 0)), ((93, 22), (5, 0)), ((95, 0), (6, 0)), ((95, 1), (7, 0)), ((95, 2), (8, 0)), ((95, 3), (9, 0))] : ab_DL), _
      exact List.forall_mem_cons.mpr ⟨lw_di (by decide) rfl (Int.add_zero _).symm, List.forall_mem_cons.mpr ⟨lw_di (by decide) rfl (hR5.1.1.1.symm.trans (Int.add_zero _).symm), List.forall_mem_cons.mpr ⟨lw_di (by decide) rfl (Int.add_zero _).symm, List.forall_mem_cons.mpr ⟨lw_di (by decide) rfl u131, List.forall_mem_cons.mpr ⟨lw_di (by decide) rfl u132, List.forall_mem_cons.mpr ⟨lw_di (by decide) rfl (Int.add_zero _).symm, List.forall_mem_cons.mpr ⟨lw_di (by decide) rfl (Int.add_zero _).symm, List.forall_mem_cons.mpr ⟨lw_di (by decide) rfl (Int.add_zero _).symm, List.forall_mem_cons.mpr ⟨lw_di (by decide) rfl (Int.add_zero _).symm, List.forall_mem_cons.mpr ⟨lw_di (by decide) rfl (Int.add_zero _).symm, fun _ h => absurd h List.not_mem_nil⟩⟩⟩⟩⟩⟩⟩⟩⟩⟩) (by decide) (lw_L hG5.2.2.2.1 v1 (show ρ2 2 = ρ5 2 from ((e2 2 (by decide)).trans (hG4.2.1 2 (by decide))).symm) (by decide)) ⟨?_, ?_⟩
    · rw [hy2]
      show [Value.int (Int32.ofInt y2)] = [Value.int (Int32.ofInt (fw_c y2 + 0))]
      rw [Int.add_zero, fw_c_of]
    · show ∀ a ∈ ([(0, 10, 0)] : List ab_AV), ab_sy 11 a
      exact List.forall_mem_cons.mpr ⟨(show 10 < 11 by decide), fun _ h => absurd h List.not_mem_nil⟩
  refine lw_go C1 hinj hcr hAd hKK hN hF (ρ := lw_v [0, ρ2 1, ρ2 2, σ5 1 1, σ5 93 23, σ5 93 22, σ5 95 0, σ5 95 1, σ5 95 2, σ5 95 3, fw_c y2]) (σ := σ5) (by decide) (show ρ2 1 = (L : Int) from r1.trans h4) (fun j hj => (u140 j).trans ((e140 j).trans (h5 j hj))) g1 g2 lw_ca_teach (fun nd hnd => ?_) List.mem_cons_self ha
  rw [List.mem_singleton.mp hnd]
  refine hH (lw_v [0, ρ2 1, ρ2 2, σ5 1 1, σ5 93 23, σ5 93 22, σ5 95 0, σ5 95 1, σ5 95 2, σ5 95 3, fw_c y2]) σ5 r1 r2 (fun j hj => (u140 j).trans ((e140 j).trans (h5 j hj))) hR5 (fun j hj => ?_)
  rcases (show j = 0 ∨ j = 1 ∨ j = 2 ∨ j = 3 by omega) with rfl | rfl | rfl | rfl <;> rfl
set_option maxHeartbeats 8000000 in
theorem lw_d_dares {p : Program} {e : Env} {s : State} {m : MethodId} {below : List Frame} {meth : Method} {c : Code} {l : Launch} {b L : Nat} {xs : Nat → Int32} {cy : Nat → ClassId} {ad wr cr : Nat → Nat} {D : va_G} (C0 : lw_At p s m meth c b L xs) (hinj : nn_inj ad) (hcr : cr 999 = b) (hAd : ∀ k, k < nn_sh.length → s.heap.size ≤ ad k) (hKK : va_K D vwCl (ab_tys cy) s) (hN : ab_okN nn_NW s) (hF : fw_CB cy ad wr cr nn_kd fw_kv fw_wc (fun q : Nat => s.heap.size ≤ q) s) {cells slots : Nat} (g1 : cells ≤ 601024) (g2 : slots ≤ 7293034) {ρ : Nat → Int} {σ : ab_SG} (h4 : ρ 1 = (L : Int)) (h5 : ∀ j : Nat, j < L → σ 140 j = (xs j).toInt) (hR : RQ σ) (hH : ∀ (ρb : Nat → Int) (σb : ab_SG), ρb 1 = ρ 1 → ρb 2 = ρ 2 → (∀ j : Nat, j < L → σb 140 j = (xs j).toInt) → RQ σb → (∀ j : Nat, j < 4 → σb 95 j = ρb (6 + j)) → ∀ (ρ2 : Nat → Int) (σ2 : ab_SG) (H : Heap) (locs : List Loc) (ls : Array Slot) (st : List Value), ab_Gm cy ad wr cr D vwCl nn_sh nn_T nn_C 8 10 ρb σb (fun q : Nat => s.heap.size ≤ q) s.heap lw_X.2.1 ρ2 σ2 H locs ls st → W p l e room_1 s m #[Value.ref b] below meth c H locs cells slots (lw_Z below #[Value.ref b] s) (F0 m 23 ls st)) : ∀ (ρ2 : Nat → Int) (σ2 : ab_SG) (H : Heap) (locs : List Loc) (ls : Array Slot) (st : List Value), ab_Gm cy ad wr cr D vwCl nn_sh nn_T nn_C 8 10 ρ σ (fun q : Nat => s.heap.size ≤ q) s.heap lw_X1816.2.1 ρ2 σ2 H locs ls st → W p l e room_1 s m #[Value.ref b] below meth c H locs cells slots (lw_Z below #[Value.ref b] s) (F0 m 1816 ls st) := by
  intro ρ2 σ2 H locs ls st hG
  have C1 := C0
  obtain ⟨hx, hb, hr, hml, hown, hts, hX, hbl, hlocks, hgv⟩ := C0
  have hown2 : s.vm.findClass "NameNotesLaw" = some m.cls := hown
  have hTT : ∀ w ∈ nn_TT, w ∈ lw_tbl := fun w hw => (List.mem_filter.mp hw).1
  rw [lw_nil hG rfl] at hG
  have hok : ab_okR nn_T σ := hG.1.2.2.2.2.2.1
  have hc := cN_of hok
  have b1 : (7 : Int) ≤ ρ2 1 ∧ ρ2 1 ≤ 3584 := hG.1.1 1 (by decide)
  have b2 : (0 : Int) ≤ ρ2 2 ∧ ρ2 2 ≤ 3577 := hG.1.1 2 (by decide)
  have b4 : (0 : Int) ≤ ρ2 4 ∧ ρ2 4 ≤ 3577 := hG.1.1 4 (by decide)
  have f1 : ρ2 2 - ρ2 1 ≤ -7 := (hG.1.2.1 (2, 1, -7) (by decide +kernel)).2.2
  have f2 : ρ2 4 - ρ2 2 ≤ 0 := (hG.1.2.1 (4, 2, 0) (by decide +kernel)).2.2
  have r1 : ρ2 1 = ρ 1 := hG.2.1 1 (by decide)
  have r2 : ρ2 2 = ρ 2 := hG.2.1 2 (by decide)
  have dst : σ 93 23 = ρ2 4 := by
    have h := lw_d hG.1.2.2.2.2.1 (k := 93) (j := 23) (s := 4) (c := 0) (by decide +kernel) rfl
    rw [Int.add_zero] at h
    exact h
  have c12 : (-2147483648 : Int) ≤ ρ2 12 ∧ ρ2 12 ≤ 2147483647 := hG.1.1 12 (by decide)
  have c13 : (-2147483648 : Int) ≤ ρ2 13 ∧ ρ2 13 ≤ 2147483647 := hG.1.1 13 (by decide)
  have d141 : σ 140 (ab_kv ρ2 2002001) = ρ2 12 + 0 := (hG.1.2.2.2.2.1 ((140, 2002001), (12, 0)) (by decide +kernel)).2.2
  have d142 : σ 140 (ab_kv ρ2 2002002) = ρ2 13 + 0 := (hG.1.2.2.2.2.1 ((140, 2002002), (13, 0)) (by decide +kernel)).2.2
  have ar0 : fw_c (ρ2 12 + 0) = (ρ2 12 + 0) := fw_c_id (by omega) (by omega)
  have ar1 : fw_c (ρ2 13 + 0) = (ρ2 13 + 0) := fw_c_id (by omega) (by omega)
  refine db_cl (own := "NameNotesLaw") (cells := cells) (slots := slots) (nL := 8) (Ts := lw_tbl) (q := (132, 3, cd_196)) (mr := (⟨"NameNotes", "dares", "(II)Z"⟩, prog_1_method_33_code, 3, (Option.some Jvm.ClassFile.FieldType.boolean), 2, true, 1)) (lv := 3) (lev := 3) (as := [(2, 0, 0), (0, 12, 0), (0, 13, 0)]) (rest := []) ⟨g1, g2⟩ hx hb hml hown2 hts hKK hN hF rfl hTT hAd (fun q hq => hq) rfl rfl (ab_mlk_mono (nn_PM0_ok (177, 0, 132) (by decide +kernel)) hTT) (hTT _ (nn_at_ok (i := 5041) (by decide +kernel))) (ct_196 l cy ad wr cr D hinj) (fm_dares hinj) (by decide) (by decide) ⟨by decide, by decide⟩ rfl rfl (by decide) (by decide) lw_R_dares_ok (show decode code 1816 = .ok (.invokevirtual 177, 3) by decide +kernel) hG (K := fun rv σ' => ∃ v : Int, rv = some (0, 0, v) ∧ k_dares (ρ2 12 + 0) (ρ2 13 + 0) v σ σ') (sk_dares ar0 ar1 (rx_cf hR.2)) ?_
  intro x hx9 ρ3 σ3 σf rv H1 locs1 st1 vr e1 hG3 hK hP hst
  have hv : vW σ3 σf := vW_of hG3.1.2.2.2.2.2.1 hG3.2.2.2.2.2.1 hP
  obtain ⟨w1, w2, w3, w4, w5, w6, w7⟩ := of_decide_eq_true (List.all_eq_true.mp lw_q_dares x hx9)
  obtain ⟨va1, -, hK⟩ := hK
  obtain ⟨y1, hy1⟩ := lw_top hG3.2.2.2.2.1 w2 w3
  have e140 : ∀ j : Nat, σ3 140 j = σ 140 j := fun j => mk_row hG3.1.2.2.2.2.2.2.2 w6 j
  have e23 : σ3 93 23 = ρ2 4 := (mk_at hG3.1.2.2.2.2.2.2.2 w7).trans dst
  have d131 : σ3 130 1 = 0 + 0 := by
    have h := lw_d hG3.1.2.2.2.2.1 w4 rfl
    rw [hG3.1.2.2.1] at h
    exact h
  have d132 : σ3 130 2 = 0 + 0 := by
    have h := lw_d hG3.1.2.2.2.2.1 w5 rfl
    rw [hG3.1.2.2.1] at h
    exact h
  rw [← e140] at d141
  rw [← e140] at d142
  have hkv3 : ∀ i : Nat, i < 3 → lw_v [0, ρ2 1, ρ2 2, ρ2 12, ρ2 13, fw_c y1, σ3 93 23] i = ρ2 i := fun i hi => by
    rcases (show i = 0 ∨ i = 1 ∨ i = 2 by omega) with rfl | rfl | rfl
    · exact hG.1.2.2.1.symm
    · rfl
    · rfl
  have hm : ab_Gm cy ad wr cr D vwCl nn_sh nn_T nn_C 8 7 (lw_v [0, ρ2 1, ρ2 2, ρ2 12, ρ2 13, fw_c y1, σ3 93 23]) σ3 (fun q : Nat => s.heap.size ≤ q) s.heap lw_M_dares.2.1 (lw_v [0, ρ2 1, ρ2 2, ρ2 12, ρ2 13, fw_c y1, σ3 93 23]) σ3 H1 locs1 ls st1 := by
    refine lw_re hG3 rfl (lw_B _ _ (lw_bc (Int.le_refl 0) (Int.le_refl 0) (lw_bc (by omega) (by omega) (lw_bc (by omega) (by omega) (lw_bc (by omega) (by omega) (lw_bc (by omega) (by omega) (lw_bc (lw_in y1).1 (lw_in y1).2 (lw_bc (by omega) (by omega) (lw_bn))))))))) (by
      show ∀ f ∈ ([(2, 1, (-7))] : ab_FT), _
      exact List.forall_mem_cons.mpr ⟨⟨by decide, by decide, (by show ρ2 2 - ρ2 1 ≤ -7; omega)⟩, fun _ h => absurd h List.not_mem_nil⟩) rfl (by decide) (by
      show ∀ d ∈ ([((130, 1), (0, 0)), ((130, 2), (0, 0)), ((93, 23), (6, 0)), ((140, 2002001), (3, 0)), ((140, 2002002), (4, 0))] : ab_DL), _
      exact List.forall_mem_cons.mpr ⟨lw_di (by decide) rfl d131, List.forall_mem_cons.mpr ⟨lw_di (by decide) rfl d132, List.forall_mem_cons.mpr ⟨lw_di (by decide) rfl (Int.add_zero _).symm, List.forall_mem_cons.mpr ⟨lw_dk (ρ0 := ρ2) (by decide) (Or.inr (by decide)) (by decide) hkv3 d141, List.forall_mem_cons.mpr ⟨lw_dk (ρ0 := ρ2) (by decide) (Or.inr (by decide)) (by decide) hkv3 d142, fun _ h => absurd h List.not_mem_nil⟩⟩⟩⟩⟩) (by decide) (lw_L hG3.2.2.2.1 w1 (show ρ2 2 = ρ3 2 from (e1 2 (by decide)).symm) (by decide)) ⟨?_, ?_⟩
    · rw [hy1]
      show [Value.int (Int32.ofInt y1)] = [Value.int (Int32.ofInt (fw_c y1 + 0))]
      rw [Int.add_zero, fw_c_of]
    · show ∀ a ∈ ([(0, 5, 0)] : List ab_AV), ab_sy 7 a
      exact List.forall_mem_cons.mpr ⟨(show 5 < 7 by decide), fun _ h => absurd h List.not_mem_nil⟩
  refine lw_go C1 hinj hcr hAd hKK hN hF (ρ := lw_v [0, ρ2 1, ρ2 2, ρ2 12, ρ2 13, fw_c y1, σ3 93 23]) (σ := σ3) (by decide) (show ρ2 1 = (L : Int) from r1.trans h4) (fun j hj => (e140 j).trans (h5 j hj)) g1 g2 lw_cm_dares (fun nd hnd => ?_) List.mem_cons_self hm
  rw [List.mem_singleton.mp hnd]
  intro ρ4 σ4 H locs ls st hG4
  rw [lw_nil hG4 rfl] at hG4
  have a0 : ρ4 3 = ρ2 12 := hG4.2.1 3 (by decide)
  have a1 : ρ4 4 = ρ2 13 := hG4.2.1 4 (by decide)
  refine db_cl (own := "NameNotesLaw") (cells := cells) (slots := slots) (nL := 8) (Ts := lw_tbl) (q := (317, 1, md_199)) (mr := (⟨"NameNotesModel", "dares", "(II)Z"⟩, prog_14_method_115_code, 3, (Option.some Jvm.ClassFile.FieldType.boolean), 2, true, 1)) (lv := 1) (lev := 1) (as := [(2, 93, 0), (0, 3, 0), (0, 4, 0)]) (rest := []) ⟨g1, g2⟩ hx hb hml hown2 hts hKK hN hF rfl hTT hAd (fun q hq => hq) rfl rfl (ab_mlk_mono (nn_PM0_ok (181, 0, 317) (by decide +kernel)) hTT) (hTT _ (nn_at_ok (i := 9170) (by decide +kernel))) (mt_199 l cy ad wr cr D hinj) (fm_m_dares hinj) (by decide) (by decide) ⟨by decide, by decide⟩ rfl rfl (by decide) (by decide) lw_T_dares_ok (show decode code 1833 = .ok (.invokevirtual 181, 3) by decide +kernel) hG4 (K := fun rv σ' => ∃ v : Int, rv = some (0, 0, v) ∧ km_dares (ρ2 12 + 0) (ρ2 13 + 0) v σ3 σ') (by
    show sp_m_dares [(2, 93, 0), (0, 0, ρ4 3 + 0), (0, 0, ρ4 4 + 0)] σ3 _
    rw [a0, a1]
    exact sm_dares ar0 ar1 (rx_mf hc hR (kM_dares hK) hv (by decide)).1) ?_
  intro x2 hx2 ρ5 σ5 σf2 rv2 H2 locs2 st2 vr2 e2 hG5 hK2 hP2 hst2
  have hv2 : vW σ5 σf2 := vW_of hG5.1.2.2.2.2.2.1 hG5.2.2.2.2.2.1 hP2
  have hok5 : ab_okR nn_T σ5 := hG5.1.2.2.2.2.2.1
  obtain ⟨va2, -, hK2⟩ := hK2
  have hR5 : RQ σ5 := (RQ_dares ar0 hc hR hok5 hK hv hK2 hv2).1
  obtain ⟨v1, v2, v3, v4, v5, v6, v7⟩ := of_decide_eq_true (List.all_eq_true.mp lw_p_dares x2 hx2)
  have u140 : ∀ j : Nat, σ5 140 j = σ3 140 j := fun j => mk_row hG5.1.2.2.2.2.2.2.2 v6 j
  have u23 : 0 ≤ σ5 93 23 ∧ σ5 93 23 ≤ σ3 93 23 + 1 := by
    rw [mk_at hG5.1.2.2.2.2.2.2.2 v7]
    omega
  obtain ⟨y2, hy2⟩ := lw_top hG5.2.2.2.2.1 v2 v3
  have u131 : σ5 130 1 = 0 + 0 := by
    have h := lw_d hG5.1.2.2.2.2.1 v4 rfl
    rw [hG5.1.2.2.1] at h
    exact h
  have u132 : σ5 130 2 = 0 + 0 := by
    have h := lw_d hG5.1.2.2.2.2.1 v5 rfl
    rw [hG5.1.2.2.1] at h
    exact h
  have n22 : (0 : Int) ≤ σ5 93 22 ∧ σ5 93 22 ≤ 1 := by
    rcases hR5.1.2.1.2.2.2 with ⟨z, -⟩ | ⟨z, -⟩ <;> omega
  have ha : ab_Gm cy ad wr cr D vwCl nn_sh nn_T nn_C 8 10 (lw_v [0, ρ2 1, ρ2 2, σ5 1 1, σ5 93 23, σ5 93 22, σ5 95 0, σ5 95 1, σ5 95 2, σ5 95 3, fw_c y2]) σ5 (fun q : Nat => s.heap.size ≤ q) s.heap lw_A_dares.2.1 (lw_v [0, ρ2 1, ρ2 2, σ5 1 1, σ5 93 23, σ5 93 22, σ5 95 0, σ5 95 1, σ5 95 2, σ5 95 3, fw_c y2]) σ5 H2 locs2 ls st2 := by
    refine lw_re hG5 rfl (lw_B _ _ (lw_bc (Int.le_refl 0) (Int.le_refl 0) (lw_bc (by omega) (by omega) (lw_bc (by omega) (by omega) (lw_bc hR5.1.1.2.1 hR5.1.1.2.2.1 (lw_bc u23.1 (by omega) (lw_bc n22.1 n22.2 (lw_bc (ab_rdT_ok (r := (0, 9)) (k := 95) (a := 0) (b := 0) (j := 0) hok5 (by decide +kernel) (Nat.le_refl _) (Nat.le_refl _)).1 (ab_rdT_ok (r := (0, 9)) (k := 95) (a := 0) (b := 0) (j := 0) hok5 (by decide +kernel) (Nat.le_refl _) (Nat.le_refl _)).2 (lw_bc (ab_rdT_ok (r := (0, 6)) (k := 95) (a := 1) (b := 1) (j := 1) hok5 (by decide +kernel) (Nat.le_refl _) (Nat.le_refl _)).1 (ab_rdT_ok (r := (0, 6)) (k := 95) (a := 1) (b := 1) (j := 1) hok5 (by decide +kernel) (Nat.le_refl _) (Nat.le_refl _)).2 (lw_bc (ab_rdT_ok (r := (0, 5)) (k := 95) (a := 2) (b := 2) (j := 2) hok5 (by decide +kernel) (Nat.le_refl _) (Nat.le_refl _)).1 (ab_rdT_ok (r := (0, 5)) (k := 95) (a := 2) (b := 2) (j := 2) hok5 (by decide +kernel) (Nat.le_refl _) (Nat.le_refl _)).2 (lw_bc (ab_rdT_ok (r := (0, 9)) (k := 95) (a := 3) (b := 3) (j := 3) hok5 (by decide +kernel) (Nat.le_refl _) (Nat.le_refl _)).1 (ab_rdT_ok (r := (0, 9)) (k := 95) (a := 3) (b := 3) (j := 3) hok5 (by decide +kernel) (Nat.le_refl _) (Nat.le_refl _)).2 (lw_bc (lw_in y2).1 (lw_in y2).2 (lw_bn))))))))))))) (by
      show ∀ f ∈ ([(2, 1, (-7)), (4, 2, 1)] : ab_FT), _
      exact List.forall_mem_cons.mpr ⟨⟨by decide, by decide, (by show ρ2 2 - ρ2 1 ≤ -7; omega)⟩, List.forall_mem_cons.mpr ⟨⟨by decide, by decide, (by show σ5 93 23 - ρ2 2 ≤ 1; omega)⟩, fun _ h => absurd h List.not_mem_nil⟩⟩) rfl (by decide) (by
      show ∀ d ∈ ([((1, 1), (3, 0)), ((93, 2), (3, 0)), ((93, 23), (4, 0)), ((130, 1), (0, 0)), ((130, 2), (0, 0)), ((93, 22), (5, 0)), ((95, 0), (6, 0)), ((95, 1), (7, 0)), ((95, 2), (8, 0)), ((95, 3), (9, 0))] : ab_DL), _
      exact List.forall_mem_cons.mpr ⟨lw_di (by decide) rfl (Int.add_zero _).symm, List.forall_mem_cons.mpr ⟨lw_di (by decide) rfl (hR5.1.1.1.symm.trans (Int.add_zero _).symm), List.forall_mem_cons.mpr ⟨lw_di (by decide) rfl (Int.add_zero _).symm, List.forall_mem_cons.mpr ⟨lw_di (by decide) rfl u131, List.forall_mem_cons.mpr ⟨lw_di (by decide) rfl u132, List.forall_mem_cons.mpr ⟨lw_di (by decide) rfl (Int.add_zero _).symm, List.forall_mem_cons.mpr ⟨lw_di (by decide) rfl (Int.add_zero _).symm, List.forall_mem_cons.mpr ⟨lw_di (by decide) rfl (Int.add_zero _).symm, List.forall_mem_cons.mpr ⟨lw_di (by decide) rfl (Int.add_zero _).symm, List.forall_mem_cons.mpr ⟨lw_di (by decide) rfl (Int.add_zero _).symm, fun _ h => absurd h List.not_mem_nil⟩⟩⟩⟩⟩⟩⟩⟩⟩⟩) (by decide) (lw_L hG5.2.2.2.1 v1 (show ρ2 2 = ρ5 2 from ((e2 2 (by decide)).trans (hG4.2.1 2 (by decide))).symm) (by decide)) ⟨?_, ?_⟩
    · rw [hy2]
      show [Value.int (Int32.ofInt y2)] = [Value.int (Int32.ofInt (fw_c y2 + 0))]
      rw [Int.add_zero, fw_c_of]
    · show ∀ a ∈ ([(0, 10, 0)] : List ab_AV), ab_sy 11 a
      exact List.forall_mem_cons.mpr ⟨(show 10 < 11 by decide), fun _ h => absurd h List.not_mem_nil⟩
  refine lw_go C1 hinj hcr hAd hKK hN hF (ρ := lw_v [0, ρ2 1, ρ2 2, σ5 1 1, σ5 93 23, σ5 93 22, σ5 95 0, σ5 95 1, σ5 95 2, σ5 95 3, fw_c y2]) (σ := σ5) (by decide) (show ρ2 1 = (L : Int) from r1.trans h4) (fun j hj => (u140 j).trans ((e140 j).trans (h5 j hj))) g1 g2 lw_ca_dares (fun nd hnd => ?_) List.mem_cons_self ha
  rw [List.mem_singleton.mp hnd]
  refine hH (lw_v [0, ρ2 1, ρ2 2, σ5 1 1, σ5 93 23, σ5 93 22, σ5 95 0, σ5 95 1, σ5 95 2, σ5 95 3, fw_c y2]) σ5 r1 r2 (fun j hj => (u140 j).trans ((e140 j).trans (h5 j hj))) hR5 (fun j hj => ?_)
  rcases (show j = 0 ∨ j = 1 ∨ j = 2 ∨ j = 3 by omega) with rfl | rfl | rfl | rfl <;> rfl
set_option maxHeartbeats 8000000 in
theorem lw_d_undo {p : Program} {e : Env} {s : State} {m : MethodId} {below : List Frame} {meth : Method} {c : Code} {l : Launch} {b L : Nat} {xs : Nat → Int32} {cy : Nat → ClassId} {ad wr cr : Nat → Nat} {D : va_G} (C0 : lw_At p s m meth c b L xs) (hinj : nn_inj ad) (hcr : cr 999 = b) (hAd : ∀ k, k < nn_sh.length → s.heap.size ≤ ad k) (hKK : va_K D vwCl (ab_tys cy) s) (hN : ab_okN nn_NW s) (hF : fw_CB cy ad wr cr nn_kd fw_kv fw_wc (fun q : Nat => s.heap.size ≤ q) s) {cells slots : Nat} (g1 : cells ≤ 601024) (g2 : slots ≤ 7293034) {ρ : Nat → Int} {σ : ab_SG} (h4 : ρ 1 = (L : Int)) (h5 : ∀ j : Nat, j < L → σ 140 j = (xs j).toInt) (hR : RQ σ) (hH : ∀ (ρb : Nat → Int) (σb : ab_SG), ρb 1 = ρ 1 → ρb 2 = ρ 2 → (∀ j : Nat, j < L → σb 140 j = (xs j).toInt) → RQ σb → (∀ j : Nat, j < 4 → σb 95 j = ρb (6 + j)) → ∀ (ρ2 : Nat → Int) (σ2 : ab_SG) (H : Heap) (locs : List Loc) (ls : Array Slot) (st : List Value), ab_Gm cy ad wr cr D vwCl nn_sh nn_T nn_C 8 10 ρb σb (fun q : Nat => s.heap.size ≤ q) s.heap lw_X.2.1 ρ2 σ2 H locs ls st → W p l e room_1 s m #[Value.ref b] below meth c H locs cells slots (lw_Z below #[Value.ref b] s) (F0 m 23 ls st)) : ∀ (ρ2 : Nat → Int) (σ2 : ab_SG) (H : Heap) (locs : List Loc) (ls : Array Slot) (st : List Value), ab_Gm cy ad wr cr D vwCl nn_sh nn_T nn_C 8 10 ρ σ (fun q : Nat => s.heap.size ≤ q) s.heap lw_X1841.2.1 ρ2 σ2 H locs ls st → W p l e room_1 s m #[Value.ref b] below meth c H locs cells slots (lw_Z below #[Value.ref b] s) (F0 m 1841 ls st) := by
  intro ρ2 σ2 H locs ls st hG
  have C1 := C0
  obtain ⟨hx, hb, hr, hml, hown, hts, hX, hbl, hlocks, hgv⟩ := C0
  have hown2 : s.vm.findClass "NameNotesLaw" = some m.cls := hown
  have hTT : ∀ w ∈ nn_TT, w ∈ lw_tbl := fun w hw => (List.mem_filter.mp hw).1
  rw [lw_nil hG rfl] at hG
  have hok : ab_okR nn_T σ := hG.1.2.2.2.2.2.1
  have hc := cN_of hok
  have b1 : (7 : Int) ≤ ρ2 1 ∧ ρ2 1 ≤ 3584 := hG.1.1 1 (by decide)
  have b2 : (0 : Int) ≤ ρ2 2 ∧ ρ2 2 ≤ 3577 := hG.1.1 2 (by decide)
  have b4 : (0 : Int) ≤ ρ2 4 ∧ ρ2 4 ≤ 3577 := hG.1.1 4 (by decide)
  have f1 : ρ2 2 - ρ2 1 ≤ -7 := (hG.1.2.1 (2, 1, -7) (by decide +kernel)).2.2
  have f2 : ρ2 4 - ρ2 2 ≤ 0 := (hG.1.2.1 (4, 2, 0) (by decide +kernel)).2.2
  have r1 : ρ2 1 = ρ 1 := hG.2.1 1 (by decide)
  have r2 : ρ2 2 = ρ 2 := hG.2.1 2 (by decide)
  have dst : σ 93 23 = ρ2 4 := by
    have h := lw_d hG.1.2.2.2.2.1 (k := 93) (j := 23) (s := 4) (c := 0) (by decide +kernel) rfl
    rw [Int.add_zero] at h
    exact h
  refine db_cl (own := "NameNotesLaw") (cells := cells) (slots := slots) (nL := 8) (Ts := lw_tbl) (q := (133, 3, cd_199)) (mr := (⟨"NameNotes", "undo", "()I"⟩, prog_1_method_34_code, 1, (Option.some Jvm.ClassFile.FieldType.int), 0, true, 0)) (lv := 3) (lev := 3) (as := [(2, 0, 0)]) (rest := []) ⟨g1, g2⟩ hx hb hml hown2 hts hKK hN hF rfl hTT hAd (fun q hq => hq) rfl rfl (ab_mlk_mono (nn_PM0_ok (182, 0, 133) (by decide +kernel)) hTT) (hTT _ (nn_at_ok (i := 5046) (by decide +kernel))) (ct_199 l cy ad wr cr D hinj) (fm_undo hinj) (by decide) (by decide) ⟨by decide, by decide⟩ rfl rfl (by decide) (by decide) lw_R_undo_ok (show decode code 1841 = .ok (.invokevirtual 182, 3) by decide +kernel) hG (K := fun rv σ' => ∃ v : Int, rv = some (0, 0, v) ∧ k_undo v σ σ') (sk_undo hR.2) ?_
  intro x hx9 ρ3 σ3 σf rv H1 locs1 st1 vr e1 hG3 hK hP hst
  have hv : vW σ3 σf := vW_of hG3.1.2.2.2.2.2.1 hG3.2.2.2.2.2.1 hP
  obtain ⟨w1, w2, w3, w4, w5, w6, w7⟩ := of_decide_eq_true (List.all_eq_true.mp lw_q_undo x hx9)
  obtain ⟨va1, -, hK⟩ := hK
  obtain ⟨y1, hy1⟩ := lw_top hG3.2.2.2.2.1 w2 w3
  have e140 : ∀ j : Nat, σ3 140 j = σ 140 j := fun j => mk_row hG3.1.2.2.2.2.2.2.2 w6 j
  have e23 : σ3 93 23 = ρ2 4 := (mk_at hG3.1.2.2.2.2.2.2.2 w7).trans dst
  have d131 : σ3 130 1 = 0 + 0 := by
    have h := lw_d hG3.1.2.2.2.2.1 w4 rfl
    rw [hG3.1.2.2.1] at h
    exact h
  have d132 : σ3 130 2 = 0 + 0 := by
    have h := lw_d hG3.1.2.2.2.2.1 w5 rfl
    rw [hG3.1.2.2.1] at h
    exact h
  have hkv3 : ∀ i : Nat, i < 3 → lw_v [0, ρ2 1, ρ2 2, fw_c y1, σ3 93 23] i = ρ2 i := fun i hi => by
    rcases (show i = 0 ∨ i = 1 ∨ i = 2 by omega) with rfl | rfl | rfl
    · exact hG.1.2.2.1.symm
    · rfl
    · rfl
  have hm : ab_Gm cy ad wr cr D vwCl nn_sh nn_T nn_C 8 5 (lw_v [0, ρ2 1, ρ2 2, fw_c y1, σ3 93 23]) σ3 (fun q : Nat => s.heap.size ≤ q) s.heap lw_M_undo.2.1 (lw_v [0, ρ2 1, ρ2 2, fw_c y1, σ3 93 23]) σ3 H1 locs1 ls st1 := by
    refine lw_re hG3 rfl (lw_B _ _ (lw_bc (Int.le_refl 0) (Int.le_refl 0) (lw_bc (by omega) (by omega) (lw_bc (by omega) (by omega) (lw_bc (lw_in y1).1 (lw_in y1).2 (lw_bc (by omega) (by omega) (lw_bn))))))) (by
      show ∀ f ∈ ([(2, 1, (-7))] : ab_FT), _
      exact List.forall_mem_cons.mpr ⟨⟨by decide, by decide, (by show ρ2 2 - ρ2 1 ≤ -7; omega)⟩, fun _ h => absurd h List.not_mem_nil⟩) rfl (by decide) (by
      show ∀ d ∈ ([((130, 1), (0, 0)), ((130, 2), (0, 0)), ((93, 23), (4, 0))] : ab_DL), _
      exact List.forall_mem_cons.mpr ⟨lw_di (by decide) rfl d131, List.forall_mem_cons.mpr ⟨lw_di (by decide) rfl d132, List.forall_mem_cons.mpr ⟨lw_di (by decide) rfl (Int.add_zero _).symm, fun _ h => absurd h List.not_mem_nil⟩⟩⟩) (by decide) (lw_L hG3.2.2.2.1 w1 (show ρ2 2 = ρ3 2 from (e1 2 (by decide)).symm) (by decide)) ⟨?_, ?_⟩
    · rw [hy1]
      show [Value.int (Int32.ofInt y1)] = [Value.int (Int32.ofInt (fw_c y1 + 0))]
      rw [Int.add_zero, fw_c_of]
    · show ∀ a ∈ ([(0, 3, 0)] : List ab_AV), ab_sy 5 a
      exact List.forall_mem_cons.mpr ⟨(show 3 < 5 by decide), fun _ h => absurd h List.not_mem_nil⟩
  refine lw_go C1 hinj hcr hAd hKK hN hF (ρ := lw_v [0, ρ2 1, ρ2 2, fw_c y1, σ3 93 23]) (σ := σ3) (by decide) (show ρ2 1 = (L : Int) from r1.trans h4) (fun j hj => (e140 j).trans (h5 j hj)) g1 g2 lw_cm_undo (fun nd hnd => ?_) List.mem_cons_self hm
  rw [List.mem_singleton.mp hnd]
  intro ρ4 σ4 H locs ls st hG4
  rw [lw_nil hG4 rfl] at hG4
  refine db_cl (own := "NameNotesLaw") (cells := cells) (slots := slots) (nL := 8) (Ts := lw_tbl) (q := (314, 0, md_197)) (mr := (⟨"NameNotesModel", "undo", "()I"⟩, prog_14_method_113_code, 2, (Option.some Jvm.ClassFile.FieldType.int), 0, true, 0)) (lv := 0) (lev := 0) (as := [(2, 93, 0)]) (rest := []) ⟨g1, g2⟩ hx hb hml hown2 hts hKK hN hF rfl hTT hAd (fun q hq => hq) rfl rfl (ab_mlk_mono (nn_PM0_ok (185, 0, 314) (by decide +kernel)) hTT) (hTT _ (nn_at_ok (i := 9158) (by decide +kernel))) (mt_197 l cy ad wr cr D hinj) (fm_m_undo hinj) (by decide) (by decide) ⟨by decide, by decide⟩ rfl rfl (by decide) (by decide) lw_T_undo_ok (show decode code 1846 = .ok (.invokevirtual 185, 3) by decide +kernel) hG4 (K := fun rv σ' => ∃ v : Int, rv = some (0, 0, v) ∧ km_undo v σ3 σ') (by
    show sp_m_undo [(2, 93, 0)] σ3 _
    exact sm_undo (rx_mf hc hR (kM_undo hK) hv (by decide)).1.2.2) ?_
  intro x2 hx2 ρ5 σ5 σf2 rv2 H2 locs2 st2 vr2 e2 hG5 hK2 hP2 hst2
  have hv2 : vW σ5 σf2 := vW_of hG5.1.2.2.2.2.2.1 hG5.2.2.2.2.2.1 hP2
  have hok5 : ab_okR nn_T σ5 := hG5.1.2.2.2.2.2.1
  obtain ⟨va2, -, hK2⟩ := hK2
  have hR5 : RQ σ5 := (RQ_undo hc hR hok5 hK hv hK2 hv2).1
  obtain ⟨v1, v2, v3, v4, v5, v6, v7⟩ := of_decide_eq_true (List.all_eq_true.mp lw_p_undo x2 hx2)
  have u140 : ∀ j : Nat, σ5 140 j = σ3 140 j := fun j => mk_row hG5.1.2.2.2.2.2.2.2 v6 j
  have u23 : 0 ≤ σ5 93 23 ∧ σ5 93 23 ≤ σ3 93 23 + 1 := by
    rw [mk_at hG5.1.2.2.2.2.2.2.2 v7]
    omega
  obtain ⟨y2, hy2⟩ := lw_top hG5.2.2.2.2.1 v2 v3
  have u131 : σ5 130 1 = 0 + 0 := by
    have h := lw_d hG5.1.2.2.2.2.1 v4 rfl
    rw [hG5.1.2.2.1] at h
    exact h
  have u132 : σ5 130 2 = 0 + 0 := by
    have h := lw_d hG5.1.2.2.2.2.1 v5 rfl
    rw [hG5.1.2.2.1] at h
    exact h
  have n22 : (0 : Int) ≤ σ5 93 22 ∧ σ5 93 22 ≤ 1 := by
    rcases hR5.1.2.1.2.2.2 with ⟨z, -⟩ | ⟨z, -⟩ <;> omega
  have ha : ab_Gm cy ad wr cr D vwCl nn_sh nn_T nn_C 8 10 (lw_v [0, ρ2 1, ρ2 2, σ5 1 1, σ5 93 23, σ5 93 22, σ5 95 0, σ5 95 1, σ5 95 2, σ5 95 3, fw_c y2]) σ5 (fun q : Nat => s.heap.size ≤ q) s.heap lw_A_undo.2.1 (lw_v [0, ρ2 1, ρ2 2, σ5 1 1, σ5 93 23, σ5 93 22, σ5 95 0, σ5 95 1, σ5 95 2, σ5 95 3, fw_c y2]) σ5 H2 locs2 ls st2 := by
    refine lw_re hG5 rfl (lw_B _ _ (lw_bc (Int.le_refl 0) (Int.le_refl 0) (lw_bc (by omega) (by omega) (lw_bc (by omega) (by omega) (lw_bc hR5.1.1.2.1 hR5.1.1.2.2.1 (lw_bc u23.1 (by omega) (lw_bc n22.1 n22.2 (lw_bc (ab_rdT_ok (r := (0, 9)) (k := 95) (a := 0) (b := 0) (j := 0) hok5 (by decide +kernel) (Nat.le_refl _) (Nat.le_refl _)).1 (ab_rdT_ok (r := (0, 9)) (k := 95) (a := 0) (b := 0) (j := 0) hok5 (by decide +kernel) (Nat.le_refl _) (Nat.le_refl _)).2 (lw_bc (ab_rdT_ok (r := (0, 6)) (k := 95) (a := 1) (b := 1) (j := 1) hok5 (by decide +kernel) (Nat.le_refl _) (Nat.le_refl _)).1 (ab_rdT_ok (r := (0, 6)) (k := 95) (a := 1) (b := 1) (j := 1) hok5 (by decide +kernel) (Nat.le_refl _) (Nat.le_refl _)).2 (lw_bc (ab_rdT_ok (r := (0, 5)) (k := 95) (a := 2) (b := 2) (j := 2) hok5 (by decide +kernel) (Nat.le_refl _) (Nat.le_refl _)).1 (ab_rdT_ok (r := (0, 5)) (k := 95) (a := 2) (b := 2) (j := 2) hok5 (by decide +kernel) (Nat.le_refl _) (Nat.le_refl _)).2 (lw_bc (ab_rdT_ok (r := (0, 9)) (k := 95) (a := 3) (b := 3) (j := 3) hok5 (by decide +kernel) (Nat.le_refl _) (Nat.le_refl _)).1 (ab_rdT_ok (r := (0, 9)) (k := 95) (a := 3) (b := 3) (j := 3) hok5 (by decide +kernel) (Nat.le_refl _) (Nat.le_refl _)).2 (lw_bc (lw_in y2).1 (lw_in y2).2 (lw_bn))))))))))))) (by
      show ∀ f ∈ ([(2, 1, (-7)), (4, 2, 1)] : ab_FT), _
      exact List.forall_mem_cons.mpr ⟨⟨by decide, by decide, (by show ρ2 2 - ρ2 1 ≤ -7; omega)⟩, List.forall_mem_cons.mpr ⟨⟨by decide, by decide, (by show σ5 93 23 - ρ2 2 ≤ 1; omega)⟩, fun _ h => absurd h List.not_mem_nil⟩⟩) rfl (by decide) (by
      show ∀ d ∈ ([((1, 1), (3, 0)), ((93, 2), (3, 0)), ((93, 23), (4, 0)), ((130, 1), (0, 0)), ((130, 2), (0, 0)), ((93, 22), (5, 0)), ((95, 0), (6, 0)), ((95, 1), (7, 0)), ((95, 2), (8, 0)), ((95, 3), (9, 0))] : ab_DL), _
      exact List.forall_mem_cons.mpr ⟨lw_di (by decide) rfl (Int.add_zero _).symm, List.forall_mem_cons.mpr ⟨lw_di (by decide) rfl (hR5.1.1.1.symm.trans (Int.add_zero _).symm), List.forall_mem_cons.mpr ⟨lw_di (by decide) rfl (Int.add_zero _).symm, List.forall_mem_cons.mpr ⟨lw_di (by decide) rfl u131, List.forall_mem_cons.mpr ⟨lw_di (by decide) rfl u132, List.forall_mem_cons.mpr ⟨lw_di (by decide) rfl (Int.add_zero _).symm, List.forall_mem_cons.mpr ⟨lw_di (by decide) rfl (Int.add_zero _).symm, List.forall_mem_cons.mpr ⟨lw_di (by decide) rfl (Int.add_zero _).symm, List.forall_mem_cons.mpr ⟨lw_di (by decide) rfl (Int.add_zero _).symm, List.forall_mem_cons.mpr ⟨lw_di (by decide) rfl (Int.add_zero _).symm, fun _ h => absurd h List.not_mem_nil⟩⟩⟩⟩⟩⟩⟩⟩⟩⟩) (by decide) (lw_L hG5.2.2.2.1 v1 (show ρ2 2 = ρ5 2 from ((e2 2 (by decide)).trans (hG4.2.1 2 (by decide))).symm) (by decide)) ⟨?_, ?_⟩
    · rw [hy2]
      show [Value.int (Int32.ofInt y2)] = [Value.int (Int32.ofInt (fw_c y2 + 0))]
      rw [Int.add_zero, fw_c_of]
    · show ∀ a ∈ ([(0, 10, 0)] : List ab_AV), ab_sy 11 a
      exact List.forall_mem_cons.mpr ⟨(show 10 < 11 by decide), fun _ h => absurd h List.not_mem_nil⟩
  refine lw_go C1 hinj hcr hAd hKK hN hF (ρ := lw_v [0, ρ2 1, ρ2 2, σ5 1 1, σ5 93 23, σ5 93 22, σ5 95 0, σ5 95 1, σ5 95 2, σ5 95 3, fw_c y2]) (σ := σ5) (by decide) (show ρ2 1 = (L : Int) from r1.trans h4) (fun j hj => (u140 j).trans ((e140 j).trans (h5 j hj))) g1 g2 lw_ca_undo (fun nd hnd => ?_) List.mem_cons_self ha
  rw [List.mem_singleton.mp hnd]
  refine hH (lw_v [0, ρ2 1, ρ2 2, σ5 1 1, σ5 93 23, σ5 93 22, σ5 95 0, σ5 95 1, σ5 95 2, σ5 95 3, fw_c y2]) σ5 r1 r2 (fun j hj => (u140 j).trans ((e140 j).trans (h5 j hj))) hR5 (fun j hj => ?_)
  rcases (show j = 0 ∨ j = 1 ∨ j = 2 ∨ j = 3 by omega) with rfl | rfl | rfl | rfl <;> rfl
set_option maxHeartbeats 8000000 in
theorem lw_d_copies {p : Program} {e : Env} {s : State} {m : MethodId} {below : List Frame} {meth : Method} {c : Code} {l : Launch} {b L : Nat} {xs : Nat → Int32} {cy : Nat → ClassId} {ad wr cr : Nat → Nat} {D : va_G} (C0 : lw_At p s m meth c b L xs) (hinj : nn_inj ad) (hcr : cr 999 = b) (hAd : ∀ k, k < nn_sh.length → s.heap.size ≤ ad k) (hKK : va_K D vwCl (ab_tys cy) s) (hN : ab_okN nn_NW s) (hF : fw_CB cy ad wr cr nn_kd fw_kv fw_wc (fun q : Nat => s.heap.size ≤ q) s) {cells slots : Nat} (g1 : cells ≤ 601024) (g2 : slots ≤ 7293034) {ρ : Nat → Int} {σ : ab_SG} (h4 : ρ 1 = (L : Int)) (h5 : ∀ j : Nat, j < L → σ 140 j = (xs j).toInt) (hR : RQ σ) (hH : ∀ (ρb : Nat → Int) (σb : ab_SG), ρb 1 = ρ 1 → ρb 2 = ρ 2 → (∀ j : Nat, j < L → σb 140 j = (xs j).toInt) → RQ σb → (∀ j : Nat, j < 4 → σb 95 j = ρb (6 + j)) → ∀ (ρ2 : Nat → Int) (σ2 : ab_SG) (H : Heap) (locs : List Loc) (ls : Array Slot) (st : List Value), ab_Gm cy ad wr cr D vwCl nn_sh nn_T nn_C 8 10 ρb σb (fun q : Nat => s.heap.size ≤ q) s.heap lw_X.2.1 ρ2 σ2 H locs ls st → W p l e room_1 s m #[Value.ref b] below meth c H locs cells slots (lw_Z below #[Value.ref b] s) (F0 m 23 ls st)) : ∀ (ρ2 : Nat → Int) (σ2 : ab_SG) (H : Heap) (locs : List Loc) (ls : Array Slot) (st : List Value), ab_Gm cy ad wr cr D vwCl nn_sh nn_T nn_C 8 10 ρ σ (fun q : Nat => s.heap.size ≤ q) s.heap lw_X2128.2.1 ρ2 σ2 H locs ls st → W p l e room_1 s m #[Value.ref b] below meth c H locs cells slots (lw_Z below #[Value.ref b] s) (F0 m 2128 ls st) := by
  intro ρ2 σ2 H locs ls st hG
  have C1 := C0
  obtain ⟨hx, hb, hr, hml, hown, hts, hX, hbl, hlocks, hgv⟩ := C0
  have hown2 : s.vm.findClass "NameNotesLaw" = some m.cls := hown
  have hTT : ∀ w ∈ nn_TT, w ∈ lw_tbl := fun w hw => (List.mem_filter.mp hw).1
  rw [lw_nil hG rfl] at hG
  have hok : ab_okR nn_T σ := hG.1.2.2.2.2.2.1
  have hc := cN_of hok
  have b1 : (7 : Int) ≤ ρ2 1 ∧ ρ2 1 ≤ 3584 := hG.1.1 1 (by decide)
  have b2 : (0 : Int) ≤ ρ2 2 ∧ ρ2 2 ≤ 3577 := hG.1.1 2 (by decide)
  have b4 : (0 : Int) ≤ ρ2 4 ∧ ρ2 4 ≤ 3577 := hG.1.1 4 (by decide)
  have f1 : ρ2 2 - ρ2 1 ≤ -7 := (hG.1.2.1 (2, 1, -7) (by decide +kernel)).2.2
  have f2 : ρ2 4 - ρ2 2 ≤ 0 := (hG.1.2.1 (4, 2, 0) (by decide +kernel)).2.2
  have r1 : ρ2 1 = ρ 1 := hG.2.1 1 (by decide)
  have r2 : ρ2 2 = ρ 2 := hG.2.1 2 (by decide)
  have dst : σ 93 23 = ρ2 4 := by
    have h := lw_d hG.1.2.2.2.2.1 (k := 93) (j := 23) (s := 4) (c := 0) (by decide +kernel) rfl
    rw [Int.add_zero] at h
    exact h
  have c12 : (-2147483648 : Int) ≤ ρ2 12 ∧ ρ2 12 ≤ 2147483647 := hG.1.1 12 (by decide)
  have c13 : (-2147483648 : Int) ≤ ρ2 13 ∧ ρ2 13 ≤ 2147483647 := hG.1.1 13 (by decide)
  have d141 : σ 140 (ab_kv ρ2 2002001) = ρ2 12 + 0 := (hG.1.2.2.2.2.1 ((140, 2002001), (12, 0)) (by decide +kernel)).2.2
  have d142 : σ 140 (ab_kv ρ2 2002002) = ρ2 13 + 0 := (hG.1.2.2.2.2.1 ((140, 2002002), (13, 0)) (by decide +kernel)).2.2
  have ar0 : fw_c (ρ2 12 + 0) = (ρ2 12 + 0) := fw_c_id (by omega) (by omega)
  have ar1 : fw_c (ρ2 13 + 0) = (ρ2 13 + 0) := fw_c_id (by omega) (by omega)
  refine db_cl (own := "NameNotesLaw") (cells := cells) (slots := slots) (nL := 8) (Ts := lw_tbl) (q := (140, 3, cd_209)) (mr := (⟨"NameNotes", "copies", "(II)I"⟩, prog_1_method_39_code, 5, (Option.some Jvm.ClassFile.FieldType.int), 2, true, 0)) (lv := 3) (lev := 3) (as := [(2, 0, 0), (0, 12, 0), (0, 13, 0)]) (rest := []) ⟨g1, g2⟩ hx hb hml hown2 hts hKK hN hF rfl hTT hAd (fun q hq => hq) rfl rfl (ab_mlk_mono (nn_PM0_ok (200, 0, 140) (by decide +kernel)) hTT) (hTT _ (nn_at_ok (i := 5075) (by decide +kernel))) (ct_209 l cy ad wr cr D hinj) (fm_copies hinj) (by decide) (by decide) ⟨by decide, by decide⟩ rfl rfl (by decide) (by decide) lw_R_copies_ok (show decode code 2128 = .ok (.invokevirtual 200, 3) by decide +kernel) hG (K := fun rv σ' => ∃ v : Int, rv = some (0, 0, v) ∧ k_copies (ρ2 12 + 0) (ρ2 13 + 0) v σ σ') (sk_copies ar0 ar1 (rx_cf hR.2)) ?_
  intro x hx9 ρ3 σ3 σf rv H1 locs1 st1 vr e1 hG3 hK hP hst
  have hv : vW σ3 σf := vW_of hG3.1.2.2.2.2.2.1 hG3.2.2.2.2.2.1 hP
  obtain ⟨w1, w2, w3, w4, w5, w6, w7⟩ := of_decide_eq_true (List.all_eq_true.mp lw_q_copies x hx9)
  obtain ⟨va1, -, hK⟩ := hK
  obtain ⟨y1, hy1⟩ := lw_top hG3.2.2.2.2.1 w2 w3
  have e140 : ∀ j : Nat, σ3 140 j = σ 140 j := fun j => mk_row hG3.1.2.2.2.2.2.2.2 w6 j
  have e23 : σ3 93 23 = ρ2 4 := (mk_at hG3.1.2.2.2.2.2.2.2 w7).trans dst
  have d131 : σ3 130 1 = 0 + 0 := by
    have h := lw_d hG3.1.2.2.2.2.1 w4 rfl
    rw [hG3.1.2.2.1] at h
    exact h
  have d132 : σ3 130 2 = 0 + 0 := by
    have h := lw_d hG3.1.2.2.2.2.1 w5 rfl
    rw [hG3.1.2.2.1] at h
    exact h
  rw [← e140] at d141
  rw [← e140] at d142
  have hkv3 : ∀ i : Nat, i < 3 → lw_v [0, ρ2 1, ρ2 2, ρ2 12, ρ2 13, fw_c y1, σ3 93 23] i = ρ2 i := fun i hi => by
    rcases (show i = 0 ∨ i = 1 ∨ i = 2 by omega) with rfl | rfl | rfl
    · exact hG.1.2.2.1.symm
    · rfl
    · rfl
  have hm : ab_Gm cy ad wr cr D vwCl nn_sh nn_T nn_C 8 7 (lw_v [0, ρ2 1, ρ2 2, ρ2 12, ρ2 13, fw_c y1, σ3 93 23]) σ3 (fun q : Nat => s.heap.size ≤ q) s.heap lw_M_copies.2.1 (lw_v [0, ρ2 1, ρ2 2, ρ2 12, ρ2 13, fw_c y1, σ3 93 23]) σ3 H1 locs1 ls st1 := by
    refine lw_re hG3 rfl (lw_B _ _ (lw_bc (Int.le_refl 0) (Int.le_refl 0) (lw_bc (by omega) (by omega) (lw_bc (by omega) (by omega) (lw_bc (by omega) (by omega) (lw_bc (by omega) (by omega) (lw_bc (lw_in y1).1 (lw_in y1).2 (lw_bc (by omega) (by omega) (lw_bn))))))))) (by
      show ∀ f ∈ ([(2, 1, (-7))] : ab_FT), _
      exact List.forall_mem_cons.mpr ⟨⟨by decide, by decide, (by show ρ2 2 - ρ2 1 ≤ -7; omega)⟩, fun _ h => absurd h List.not_mem_nil⟩) rfl (by decide) (by
      show ∀ d ∈ ([((130, 1), (0, 0)), ((130, 2), (0, 0)), ((93, 23), (6, 0)), ((140, 2002001), (3, 0)), ((140, 2002002), (4, 0))] : ab_DL), _
      exact List.forall_mem_cons.mpr ⟨lw_di (by decide) rfl d131, List.forall_mem_cons.mpr ⟨lw_di (by decide) rfl d132, List.forall_mem_cons.mpr ⟨lw_di (by decide) rfl (Int.add_zero _).symm, List.forall_mem_cons.mpr ⟨lw_dk (ρ0 := ρ2) (by decide) (Or.inr (by decide)) (by decide) hkv3 d141, List.forall_mem_cons.mpr ⟨lw_dk (ρ0 := ρ2) (by decide) (Or.inr (by decide)) (by decide) hkv3 d142, fun _ h => absurd h List.not_mem_nil⟩⟩⟩⟩⟩) (by decide) (lw_L hG3.2.2.2.1 w1 (show ρ2 2 = ρ3 2 from (e1 2 (by decide)).symm) (by decide)) ⟨?_, ?_⟩
    · rw [hy1]
      show [Value.int (Int32.ofInt y1)] = [Value.int (Int32.ofInt (fw_c y1 + 0))]
      rw [Int.add_zero, fw_c_of]
    · show ∀ a ∈ ([(0, 5, 0)] : List ab_AV), ab_sy 7 a
      exact List.forall_mem_cons.mpr ⟨(show 5 < 7 by decide), fun _ h => absurd h List.not_mem_nil⟩
  refine lw_go C1 hinj hcr hAd hKK hN hF (ρ := lw_v [0, ρ2 1, ρ2 2, ρ2 12, ρ2 13, fw_c y1, σ3 93 23]) (σ := σ3) (by decide) (show ρ2 1 = (L : Int) from r1.trans h4) (fun j hj => (e140 j).trans (h5 j hj)) g1 g2 lw_cm_copies (fun nd hnd => ?_) List.mem_cons_self hm
  rw [List.mem_singleton.mp hnd]
  intro ρ4 σ4 H locs ls st hG4
  rw [lw_nil hG4 rfl] at hG4
  have a0 : ρ4 3 = ρ2 12 := hG4.2.1 3 (by decide)
  have a1 : ρ4 4 = ρ2 13 := hG4.2.1 4 (by decide)
  refine db_cl (own := "NameNotesLaw") (cells := cells) (slots := slots) (nL := 8) (Ts := lw_tbl) (q := (318, 1, md_200)) (mr := (⟨"NameNotesModel", "copies", "(II)I"⟩, prog_14_method_116_code, 5, (Option.some Jvm.ClassFile.FieldType.int), 2, true, 0)) (lv := 1) (lev := 1) (as := [(2, 93, 0), (0, 3, 0), (0, 4, 0)]) (rest := []) ⟨g1, g2⟩ hx hb hml hown2 hts hKK hN hF rfl hTT hAd (fun q hq => hq) rfl rfl (ab_mlk_mono (nn_PM0_ok (203, 0, 318) (by decide +kernel)) hTT) (hTT _ (nn_at_ok (i := 9174) (by decide +kernel))) (mt_200 l cy ad wr cr D hinj) (fm_m_copies hinj) (by decide) (by decide) ⟨by decide, by decide⟩ rfl rfl (by decide) (by decide) lw_T_copies_ok (show decode code 2145 = .ok (.invokevirtual 203, 3) by decide +kernel) hG4 (K := fun rv σ' => ∃ v : Int, rv = some (0, 0, v) ∧ km_copies (ρ2 12 + 0) (ρ2 13 + 0) v σ3 σ') (by
    show sp_m_copies [(2, 93, 0), (0, 0, ρ4 3 + 0), (0, 0, ρ4 4 + 0)] σ3 _
    rw [a0, a1]
    exact sm_copies ar0 ar1 (rx_mf hc hR (kM_copies hK) hv (by decide)).1) ?_
  intro x2 hx2 ρ5 σ5 σf2 rv2 H2 locs2 st2 vr2 e2 hG5 hK2 hP2 hst2
  have hv2 : vW σ5 σf2 := vW_of hG5.1.2.2.2.2.2.1 hG5.2.2.2.2.2.1 hP2
  have hok5 : ab_okR nn_T σ5 := hG5.1.2.2.2.2.2.1
  obtain ⟨va2, -, hK2⟩ := hK2
  have hR5 : RQ σ5 := (RQ_copies ar0 ar1 hc hR hok5 hK hv hK2 hv2).1
  obtain ⟨v1, v2, v3, v4, v5, v6, v7⟩ := of_decide_eq_true (List.all_eq_true.mp lw_p_copies x2 hx2)
  have u140 : ∀ j : Nat, σ5 140 j = σ3 140 j := fun j => mk_row hG5.1.2.2.2.2.2.2.2 v6 j
  have u23 : 0 ≤ σ5 93 23 ∧ σ5 93 23 ≤ σ3 93 23 + 1 := by
    rw [mk_at hG5.1.2.2.2.2.2.2.2 v7]
    omega
  obtain ⟨y2, hy2⟩ := lw_top hG5.2.2.2.2.1 v2 v3
  have u131 : σ5 130 1 = 0 + 0 := by
    have h := lw_d hG5.1.2.2.2.2.1 v4 rfl
    rw [hG5.1.2.2.1] at h
    exact h
  have u132 : σ5 130 2 = 0 + 0 := by
    have h := lw_d hG5.1.2.2.2.2.1 v5 rfl
    rw [hG5.1.2.2.1] at h
    exact h
  have n22 : (0 : Int) ≤ σ5 93 22 ∧ σ5 93 22 ≤ 1 := by
    rcases hR5.1.2.1.2.2.2 with ⟨z, -⟩ | ⟨z, -⟩ <;> omega
  have ha : ab_Gm cy ad wr cr D vwCl nn_sh nn_T nn_C 8 10 (lw_v [0, ρ2 1, ρ2 2, σ5 1 1, σ5 93 23, σ5 93 22, σ5 95 0, σ5 95 1, σ5 95 2, σ5 95 3, fw_c y2]) σ5 (fun q : Nat => s.heap.size ≤ q) s.heap lw_A_copies.2.1 (lw_v [0, ρ2 1, ρ2 2, σ5 1 1, σ5 93 23, σ5 93 22, σ5 95 0, σ5 95 1, σ5 95 2, σ5 95 3, fw_c y2]) σ5 H2 locs2 ls st2 := by
    refine lw_re hG5 rfl (lw_B _ _ (lw_bc (Int.le_refl 0) (Int.le_refl 0) (lw_bc (by omega) (by omega) (lw_bc (by omega) (by omega) (lw_bc hR5.1.1.2.1 hR5.1.1.2.2.1 (lw_bc u23.1 (by omega) (lw_bc n22.1 n22.2 (lw_bc (ab_rdT_ok (r := (0, 9)) (k := 95) (a := 0) (b := 0) (j := 0) hok5 (by decide +kernel) (Nat.le_refl _) (Nat.le_refl _)).1 (ab_rdT_ok (r := (0, 9)) (k := 95) (a := 0) (b := 0) (j := 0) hok5 (by decide +kernel) (Nat.le_refl _) (Nat.le_refl _)).2 (lw_bc (ab_rdT_ok (r := (0, 6)) (k := 95) (a := 1) (b := 1) (j := 1) hok5 (by decide +kernel) (Nat.le_refl _) (Nat.le_refl _)).1 (ab_rdT_ok (r := (0, 6)) (k := 95) (a := 1) (b := 1) (j := 1) hok5 (by decide +kernel) (Nat.le_refl _) (Nat.le_refl _)).2 (lw_bc (ab_rdT_ok (r := (0, 5)) (k := 95) (a := 2) (b := 2) (j := 2) hok5 (by decide +kernel) (Nat.le_refl _) (Nat.le_refl _)).1 (ab_rdT_ok (r := (0, 5)) (k := 95) (a := 2) (b := 2) (j := 2) hok5 (by decide +kernel) (Nat.le_refl _) (Nat.le_refl _)).2 (lw_bc (ab_rdT_ok (r := (0, 9)) (k := 95) (a := 3) (b := 3) (j := 3) hok5 (by decide +kernel) (Nat.le_refl _) (Nat.le_refl _)).1 (ab_rdT_ok (r := (0, 9)) (k := 95) (a := 3) (b := 3) (j := 3) hok5 (by decide +kernel) (Nat.le_refl _) (Nat.le_refl _)).2 (lw_bc (lw_in y2).1 (lw_in y2).2 (lw_bn))))))))))))) (by
      show ∀ f ∈ ([(2, 1, (-7)), (4, 2, 1)] : ab_FT), _
      exact List.forall_mem_cons.mpr ⟨⟨by decide, by decide, (by show ρ2 2 - ρ2 1 ≤ -7; omega)⟩, List.forall_mem_cons.mpr ⟨⟨by decide, by decide, (by show σ5 93 23 - ρ2 2 ≤ 1; omega)⟩, fun _ h => absurd h List.not_mem_nil⟩⟩) rfl (by decide) (by
      show ∀ d ∈ ([((1, 1), (3, 0)), ((93, 2), (3, 0)), ((93, 23), (4, 0)), ((130, 1), (0, 0)), ((130, 2), (0, 0)), ((93, 22), (5, 0)), ((95, 0), (6, 0)), ((95, 1), (7, 0)), ((95, 2), (8, 0)), ((95, 3), (9, 0))] : ab_DL), _
      exact List.forall_mem_cons.mpr ⟨lw_di (by decide) rfl (Int.add_zero _).symm, List.forall_mem_cons.mpr ⟨lw_di (by decide) rfl (hR5.1.1.1.symm.trans (Int.add_zero _).symm), List.forall_mem_cons.mpr ⟨lw_di (by decide) rfl (Int.add_zero _).symm, List.forall_mem_cons.mpr ⟨lw_di (by decide) rfl u131, List.forall_mem_cons.mpr ⟨lw_di (by decide) rfl u132, List.forall_mem_cons.mpr ⟨lw_di (by decide) rfl (Int.add_zero _).symm, List.forall_mem_cons.mpr ⟨lw_di (by decide) rfl (Int.add_zero _).symm, List.forall_mem_cons.mpr ⟨lw_di (by decide) rfl (Int.add_zero _).symm, List.forall_mem_cons.mpr ⟨lw_di (by decide) rfl (Int.add_zero _).symm, List.forall_mem_cons.mpr ⟨lw_di (by decide) rfl (Int.add_zero _).symm, fun _ h => absurd h List.not_mem_nil⟩⟩⟩⟩⟩⟩⟩⟩⟩⟩) (by decide) (lw_L hG5.2.2.2.1 v1 (show ρ2 2 = ρ5 2 from ((e2 2 (by decide)).trans (hG4.2.1 2 (by decide))).symm) (by decide)) ⟨?_, ?_⟩
    · rw [hy2]
      show [Value.int (Int32.ofInt y2)] = [Value.int (Int32.ofInt (fw_c y2 + 0))]
      rw [Int.add_zero, fw_c_of]
    · show ∀ a ∈ ([(0, 10, 0)] : List ab_AV), ab_sy 11 a
      exact List.forall_mem_cons.mpr ⟨(show 10 < 11 by decide), fun _ h => absurd h List.not_mem_nil⟩
  refine lw_go C1 hinj hcr hAd hKK hN hF (ρ := lw_v [0, ρ2 1, ρ2 2, σ5 1 1, σ5 93 23, σ5 93 22, σ5 95 0, σ5 95 1, σ5 95 2, σ5 95 3, fw_c y2]) (σ := σ5) (by decide) (show ρ2 1 = (L : Int) from r1.trans h4) (fun j hj => (u140 j).trans ((e140 j).trans (h5 j hj))) g1 g2 lw_ca_copies (fun nd hnd => ?_) List.mem_cons_self ha
  rw [List.mem_singleton.mp hnd]
  refine hH (lw_v [0, ρ2 1, ρ2 2, σ5 1 1, σ5 93 23, σ5 93 22, σ5 95 0, σ5 95 1, σ5 95 2, σ5 95 3, fw_c y2]) σ5 r1 r2 (fun j hj => (u140 j).trans ((e140 j).trans (h5 j hj))) hR5 (fun j hj => ?_)
  rcases (show j = 0 ∨ j = 1 ∨ j = 2 ∨ j = 3 by omega) with rfl | rfl | rfl | rfl <;> rfl
set_option maxHeartbeats 8000000 in
theorem lw_d_nights {p : Program} {e : Env} {s : State} {m : MethodId} {below : List Frame} {meth : Method} {c : Code} {l : Launch} {b L : Nat} {xs : Nat → Int32} {cy : Nat → ClassId} {ad wr cr : Nat → Nat} {D : va_G} (C0 : lw_At p s m meth c b L xs) (hinj : nn_inj ad) (hcr : cr 999 = b) (hAd : ∀ k, k < nn_sh.length → s.heap.size ≤ ad k) (hKK : va_K D vwCl (ab_tys cy) s) (hN : ab_okN nn_NW s) (hF : fw_CB cy ad wr cr nn_kd fw_kv fw_wc (fun q : Nat => s.heap.size ≤ q) s) {cells slots : Nat} (g1 : cells ≤ 601024) (g2 : slots ≤ 7293034) {ρ : Nat → Int} {σ : ab_SG} (h4 : ρ 1 = (L : Int)) (h5 : ∀ j : Nat, j < L → σ 140 j = (xs j).toInt) (hR : RQ σ) (hH : ∀ (ρb : Nat → Int) (σb : ab_SG), ρb 1 = ρ 1 → ρb 2 = ρ 2 → (∀ j : Nat, j < L → σb 140 j = (xs j).toInt) → RQ σb → (∀ j : Nat, j < 4 → σb 95 j = ρb (6 + j)) → ∀ (ρ2 : Nat → Int) (σ2 : ab_SG) (H : Heap) (locs : List Loc) (ls : Array Slot) (st : List Value), ab_Gm cy ad wr cr D vwCl nn_sh nn_T nn_C 8 10 ρb σb (fun q : Nat => s.heap.size ≤ q) s.heap lw_X.2.1 ρ2 σ2 H locs ls st → W p l e room_1 s m #[Value.ref b] below meth c H locs cells slots (lw_Z below #[Value.ref b] s) (F0 m 23 ls st)) : ∀ (ρ2 : Nat → Int) (σ2 : ab_SG) (H : Heap) (locs : List Loc) (ls : Array Slot) (st : List Value), ab_Gm cy ad wr cr D vwCl nn_sh nn_T nn_C 8 10 ρ σ (fun q : Nat => s.heap.size ≤ q) s.heap lw_X2564.2.1 ρ2 σ2 H locs ls st → W p l e room_1 s m #[Value.ref b] below meth c H locs cells slots (lw_Z below #[Value.ref b] s) (F0 m 2564 ls st) := by
  intro ρ2 σ2 H locs ls st hG
  have C1 := C0
  obtain ⟨hx, hb, hr, hml, hown, hts, hX, hbl, hlocks, hgv⟩ := C0
  have hown2 : s.vm.findClass "NameNotesLaw" = some m.cls := hown
  have hTT : ∀ w ∈ nn_TT, w ∈ lw_tbl := fun w hw => (List.mem_filter.mp hw).1
  rw [lw_nil hG rfl] at hG
  have hok : ab_okR nn_T σ := hG.1.2.2.2.2.2.1
  have hc := cN_of hok
  obtain ⟨A, hiA, hnA, hcA, hsA⟩ := hR.2.1
  have b1 : (7 : Int) ≤ ρ2 1 ∧ ρ2 1 ≤ 3584 := hG.1.1 1 (by decide)
  have b2 : (0 : Int) ≤ ρ2 2 ∧ ρ2 2 ≤ 3577 := hG.1.1 2 (by decide)
  have b4 : (0 : Int) ≤ ρ2 4 ∧ ρ2 4 ≤ 3577 := hG.1.1 4 (by decide)
  have f1 : ρ2 2 - ρ2 1 ≤ -7 := (hG.1.2.1 (2, 1, -7) (by decide +kernel)).2.2
  have f2 : ρ2 4 - ρ2 2 ≤ 0 := (hG.1.2.1 (4, 2, 0) (by decide +kernel)).2.2
  have r1 : ρ2 1 = ρ 1 := hG.2.1 1 (by decide)
  have r2 : ρ2 2 = ρ 2 := hG.2.1 2 (by decide)
  have dst : σ 93 23 = ρ2 4 := by
    have h := lw_d hG.1.2.2.2.2.1 (k := 93) (j := 23) (s := 4) (c := 0) (by decide +kernel) rfl
    rw [Int.add_zero] at h
    exact h
  have c12 : (-2147483648 : Int) ≤ ρ2 12 ∧ ρ2 12 ≤ 2147483647 := hG.1.1 12 (by decide)
  have c13 : (-2147483648 : Int) ≤ ρ2 13 ∧ ρ2 13 ≤ 2147483647 := hG.1.1 13 (by decide)
  have c14 : (-2147483648 : Int) ≤ ρ2 14 ∧ ρ2 14 ≤ 2147483647 := hG.1.1 14 (by decide)
  have c15 : (-2147483648 : Int) ≤ ρ2 15 ∧ ρ2 15 ≤ 2147483647 := hG.1.1 15 (by decide)
  have d141 : σ 140 (ab_kv ρ2 2002001) = ρ2 12 + 0 := (hG.1.2.2.2.2.1 ((140, 2002001), (12, 0)) (by decide +kernel)).2.2
  have d142 : σ 140 (ab_kv ρ2 2002002) = ρ2 13 + 0 := (hG.1.2.2.2.2.1 ((140, 2002002), (13, 0)) (by decide +kernel)).2.2
  have d143 : σ 140 (ab_kv ρ2 2002003) = ρ2 14 + 0 := (hG.1.2.2.2.2.1 ((140, 2002003), (14, 0)) (by decide +kernel)).2.2
  have d144 : σ 140 (ab_kv ρ2 2002004) = ρ2 15 + 0 := (hG.1.2.2.2.2.1 ((140, 2002004), (15, 0)) (by decide +kernel)).2.2
  have ar0 : fw_c (ρ2 12 + 0) = (ρ2 12 + 0) := fw_c_id (by omega) (by omega)
  have ar1 : fw_c (ρ2 13 + 0) = (ρ2 13 + 0) := fw_c_id (by omega) (by omega)
  have ar2 : fw_c (ρ2 14 + 0) = (ρ2 14 + 0) := fw_c_id (by omega) (by omega)
  have ar3 : fw_c (ρ2 15 + 0) = (ρ2 15 + 0) := fw_c_id (by omega) (by omega)
  refine db_cl (own := "NameNotesLaw") (cells := cells) (slots := slots) (nL := 8) (Ts := lw_tbl) (q := (169, 6, cd_244)) (mr := (⟨"NameNotes", "nights", "(IIII)I"⟩, prog_1_method_52_code, 7, (Option.some Jvm.ClassFile.FieldType.int), 4, true, 0)) (lv := 6) (lev := 6) (as := [(2, 0, 0), (0, 12, 0), (0, 13, 0), (0, 14, 0), (0, 15, 0)]) (rest := []) ⟨g1, g2⟩ hx hb hml hown2 hts hKK hN hF rfl hTT hAd (fun q hq => hq) rfl rfl (ab_mlk_mono (nn_PM0_ok (252, 0, 169) (by decide +kernel)) hTT) (hTT _ (nn_at_ok (i := 5213) (by decide +kernel))) (ct_244 l cy ad wr cr D hinj) (fm_nights hinj) (by decide) (by decide) ⟨by decide, by decide⟩ rfl rfl (by decide) (by decide) lw_R_nights_ok (show decode code 2564 = .ok (.invokevirtual 252, 3) by decide +kernel) hG (K := fun rv σ' => ab_okM nz_M σ σ' ∧ rv = some (0, 0, v_nights A (ρ2 12 + 0) (ρ2 13 + 0) (ρ2 14 + 0) (ρ2 15 + 0))) (⟨A, (ρ2 12 + 0), (ρ2 13 + 0), (ρ2 14 + 0), (ρ2 15 + 0), rfl, ⟨ar0, ar1, ar2, ar3⟩, ⟨hiA, hnA, hcA⟩, fun _ h => ⟨h, rfl⟩⟩) ?_
  intro x hx9 ρ3 σ3 σf rv H1 locs1 st1 vr e1 hG3 hK hP hst
  have hv : vW σ3 σf := vW_of hG3.1.2.2.2.2.2.1 hG3.2.2.2.2.2.1 hP
  obtain ⟨w1, w2, w3, w4, w5, w6, w7⟩ := of_decide_eq_true (List.all_eq_true.mp lw_q_nights x hx9)
  obtain ⟨hK1, hK2v⟩ := hK
  obtain ⟨y0, hy0⟩ := lw_top hG3.2.2.2.2.1 w2 w3
  obtain ⟨y1, hy1, hyv⟩ : ∃ y1 : Int, st1 = [.int (Int32.ofInt y1)] ∧ y1 = v_nights A (ρ2 12 + 0) (ρ2 13 + 0) (ρ2 14 + 0) (ρ2 15 + 0) := by
    refine ⟨_, ?_, rfl⟩
    rw [hK2v] at hst
    have h9 : st1 = Value.int (Int32.ofInt (0 + v_nights A (ρ2 12 + 0) (ρ2 13 + 0) (ρ2 14 + 0) (ρ2 15 + 0))) :: vr := hst
    rw [hy0] at h9
    injection h9 with h9 h8
    rw [hy0, h9, Int.zero_add]
  have e140 : ∀ j : Nat, σ3 140 j = σ 140 j := fun j => mk_row hG3.1.2.2.2.2.2.2.2 w6 j
  have e23 : σ3 93 23 = ρ2 4 := (mk_at hG3.1.2.2.2.2.2.2.2 w7).trans dst
  have d131 : σ3 130 1 = 0 + 0 := by
    have h := lw_d hG3.1.2.2.2.2.1 w4 rfl
    rw [hG3.1.2.2.1] at h
    exact h
  have d132 : σ3 130 2 = 0 + 0 := by
    have h := lw_d hG3.1.2.2.2.2.1 w5 rfl
    rw [hG3.1.2.2.1] at h
    exact h
  rw [← e140] at d141
  rw [← e140] at d142
  rw [← e140] at d143
  rw [← e140] at d144
  have hkv3 : ∀ i : Nat, i < 3 → lw_v [0, ρ2 1, ρ2 2, ρ2 12, ρ2 13, ρ2 14, ρ2 15, fw_c y1, σ3 93 23] i = ρ2 i := fun i hi => by
    rcases (show i = 0 ∨ i = 1 ∨ i = 2 by omega) with rfl | rfl | rfl
    · exact hG.1.2.2.1.symm
    · rfl
    · rfl
  have hm : ab_Gm cy ad wr cr D vwCl nn_sh nn_T nn_C 8 9 (lw_v [0, ρ2 1, ρ2 2, ρ2 12, ρ2 13, ρ2 14, ρ2 15, fw_c y1, σ3 93 23]) σ3 (fun q : Nat => s.heap.size ≤ q) s.heap lw_M_nights.2.1 (lw_v [0, ρ2 1, ρ2 2, ρ2 12, ρ2 13, ρ2 14, ρ2 15, fw_c y1, σ3 93 23]) σ3 H1 locs1 ls st1 := by
    refine lw_re hG3 rfl (lw_B _ _ (lw_bc (Int.le_refl 0) (Int.le_refl 0) (lw_bc (by omega) (by omega) (lw_bc (by omega) (by omega) (lw_bc (by omega) (by omega) (lw_bc (by omega) (by omega) (lw_bc (by omega) (by omega) (lw_bc (by omega) (by omega) (lw_bc (lw_in y1).1 (lw_in y1).2 (lw_bc (by omega) (by omega) (lw_bn))))))))))) (by
      show ∀ f ∈ ([(2, 1, (-7))] : ab_FT), _
      exact List.forall_mem_cons.mpr ⟨⟨by decide, by decide, (by show ρ2 2 - ρ2 1 ≤ -7; omega)⟩, fun _ h => absurd h List.not_mem_nil⟩) rfl (by decide) (by
      show ∀ d ∈ ([((130, 1), (0, 0)), ((130, 2), (0, 0)), ((93, 23), (8, 0)), ((140, 2002001), (3, 0)), ((140, 2002002), (4, 0)), ((140, 2002003), (5, 0)), ((140, 2002004), (6, 0))] : ab_DL), _
      exact List.forall_mem_cons.mpr ⟨lw_di (by decide) rfl d131, List.forall_mem_cons.mpr ⟨lw_di (by decide) rfl d132, List.forall_mem_cons.mpr ⟨lw_di (by decide) rfl (Int.add_zero _).symm, List.forall_mem_cons.mpr ⟨lw_dk (ρ0 := ρ2) (by decide) (Or.inr (by decide)) (by decide) hkv3 d141, List.forall_mem_cons.mpr ⟨lw_dk (ρ0 := ρ2) (by decide) (Or.inr (by decide)) (by decide) hkv3 d142, List.forall_mem_cons.mpr ⟨lw_dk (ρ0 := ρ2) (by decide) (Or.inr (by decide)) (by decide) hkv3 d143, List.forall_mem_cons.mpr ⟨lw_dk (ρ0 := ρ2) (by decide) (Or.inr (by decide)) (by decide) hkv3 d144, fun _ h => absurd h List.not_mem_nil⟩⟩⟩⟩⟩⟩⟩) (by decide) (lw_L hG3.2.2.2.1 w1 (show ρ2 2 = ρ3 2 from (e1 2 (by decide)).symm) (by decide)) ⟨?_, ?_⟩
    · rw [hy1]
      show [Value.int (Int32.ofInt y1)] = [Value.int (Int32.ofInt (fw_c y1 + 0))]
      rw [Int.add_zero, fw_c_of]
    · show ∀ a ∈ ([(0, 7, 0)] : List ab_AV), ab_sy 9 a
      exact List.forall_mem_cons.mpr ⟨(show 7 < 9 by decide), fun _ h => absurd h List.not_mem_nil⟩
  refine lw_go C1 hinj hcr hAd hKK hN hF (ρ := lw_v [0, ρ2 1, ρ2 2, ρ2 12, ρ2 13, ρ2 14, ρ2 15, fw_c y1, σ3 93 23]) (σ := σ3) (by decide) (show ρ2 1 = (L : Int) from r1.trans h4) (fun j hj => (e140 j).trans (h5 j hj)) g1 g2 lw_cm_nights (fun nd hnd => ?_) List.mem_cons_self hm
  rw [List.mem_singleton.mp hnd]
  intro ρ4 σ4 H locs ls st hG4
  rw [lw_nil hG4 rfl] at hG4
  have a0 : ρ4 3 = ρ2 12 := hG4.2.1 3 (by decide)
  have a1 : ρ4 4 = ρ2 13 := hG4.2.1 4 (by decide)
  have a2 : ρ4 5 = ρ2 14 := hG4.2.1 5 (by decide)
  have a3 : ρ4 6 = ρ2 15 := hG4.2.1 6 (by decide)
  refine db_cl (own := "NameNotesLaw") (cells := cells) (slots := slots) (nL := 8) (Ts := lw_tbl) (q := (340, 8, md_240)) (mr := (⟨"NameNotesModel", "nights", "(IIII)I"⟩, prog_14_method_138_code, 7, (Option.some Jvm.ClassFile.FieldType.int), 4, true, 0)) (lv := 9) (lev := 9) (as := [(2, 93, 0), (0, 3, 0), (0, 4, 0), (0, 5, 0), (0, 6, 0)]) (rest := [(0, 7, 0)]) ⟨g1, g2⟩ hx hb hml hown2 hts hKK hN hF rfl hTT hAd (fun q hq => hq) rfl rfl (ab_mlk_mono (nn_PM0_ok (255, 0, 340) (by decide +kernel)) hTT) (hTT _ (nn_at_ok (i := 10021) (by decide +kernel))) (mt_240 l cy ad wr cr D hinj) (fm_m_nights hinj) (by decide) (by decide) ⟨by decide, by decide⟩ rfl rfl (by decide) (by decide) lw_T_nights_ok (show decode code 2592 = .ok (.invokevirtual 255, 3) by decide +kernel) hG4 (K := fun rv σ' => ab_okM nm_Z σ3 σ' ∧ rv = some (0, 0, v_nights A (ρ2 12 + 0) (ρ2 13 + 0) (ρ2 14 + 0) (ρ2 15 + 0))) (by
    show sp_m_nights [(2, 93, 0), (0, 0, ρ4 3 + 0), (0, 0, ρ4 4 + 0), (0, 0, ρ4 5 + 0), (0, 0, ρ4 6 + 0)] σ3 _
    rw [a0, a1, a2, a3]
    exact ⟨A, (ρ2 12 + 0), (ρ2 13 + 0), (ρ2 14 + 0), (ρ2 15 + 0), rfl, ⟨ar0, ar1, ar2, ar3⟩, NM_W hc hiA hnA hsA (vW_nj hc hK1 hv), fun hp => du_95j hc hR hK1 hv hcA hp, fun _ h => ⟨h, rfl⟩⟩) ?_
  intro x2 hx2 ρ5 σ5 σf2 rv2 H2 locs2 st2 vr2 e2 hG5 hK2 hP2 hst2
  have hv2 : vW σ5 σf2 := vW_of hG5.1.2.2.2.2.2.1 hG5.2.2.2.2.2.1 hP2
  have hok5 : ab_okR nn_T σ5 := hG5.1.2.2.2.2.2.1
  have hR5 : RQ σ5 := RQ_nj hc hR hK1 hv hK2.1 hv2
  obtain ⟨v1, v2, v3, v4, v5, v6, v7, v8⟩ := of_decide_eq_true (List.all_eq_true.mp lw_p_nights x2 hx2)
  have u140 : ∀ j : Nat, σ5 140 j = σ3 140 j := fun j => mk_row hG5.1.2.2.2.2.2.2.2 v6 j
  have u23 : 0 ≤ σ5 93 23 ∧ σ5 93 23 ≤ σ3 93 23 + 1 := by
    rw [mk_at hG5.1.2.2.2.2.2.2.2 v7]
    omega
  obtain ⟨y2, hy2⟩ : ∃ y2 : Int, st2 = [.int (Int32.ofInt y2), .int (Int32.ofInt y2)] := by
    have h9 : st2 = Value.int (Int32.ofInt (0 + v_nights A (ρ2 12 + 0) (ρ2 13 + 0) (ρ2 14 + 0) (ρ2 15 + 0))) :: vr2 := by
      rw [hK2.2] at hst2
      exact hst2
    rw [← hyv, Int.zero_add] at h9
    refine ⟨y1, ?_⟩
    have h8 : st2 = x2.2.1.map (ab_V ad wr cr ρ5) := hG5.2.2.2.2.1.1
    have h7 : st2.tail = [Value.int (Int32.ofInt y1)] := by
      rw [h8, ← List.map_tail, v8]
      show [Value.int (Int32.ofInt (ρ5 7 + 0))] = _
      rw [e2 7 (by decide), hG4.2.1 7 (by decide)]
      show [Value.int (Int32.ofInt (fw_c y1 + 0))] = _
      rw [Int.add_zero, fw_c_of]
    rw [h9] at h7 ⊢
    have h6 : vr2 = [Value.int (Int32.ofInt y1)] := h7
    rw [h6]
  have u131 : σ5 130 1 = 0 + 0 := by
    have h := lw_d hG5.1.2.2.2.2.1 v4 rfl
    rw [hG5.1.2.2.1] at h
    exact h
  have u132 : σ5 130 2 = 0 + 0 := by
    have h := lw_d hG5.1.2.2.2.2.1 v5 rfl
    rw [hG5.1.2.2.1] at h
    exact h
  have n22 : (0 : Int) ≤ σ5 93 22 ∧ σ5 93 22 ≤ 1 := by
    rcases hR5.1.2.1.2.2.2 with ⟨z, -⟩ | ⟨z, -⟩ <;> omega
  have ha : ab_Gm cy ad wr cr D vwCl nn_sh nn_T nn_C 8 10 (lw_v [0, ρ2 1, ρ2 2, σ5 1 1, σ5 93 23, σ5 93 22, σ5 95 0, σ5 95 1, σ5 95 2, σ5 95 3, fw_c y2]) σ5 (fun q : Nat => s.heap.size ≤ q) s.heap lw_A_nights.2.1 (lw_v [0, ρ2 1, ρ2 2, σ5 1 1, σ5 93 23, σ5 93 22, σ5 95 0, σ5 95 1, σ5 95 2, σ5 95 3, fw_c y2]) σ5 H2 locs2 ls st2 := by
    refine lw_re hG5 rfl (lw_B _ _ (lw_bc (Int.le_refl 0) (Int.le_refl 0) (lw_bc (by omega) (by omega) (lw_bc (by omega) (by omega) (lw_bc hR5.1.1.2.1 hR5.1.1.2.2.1 (lw_bc u23.1 (by omega) (lw_bc n22.1 n22.2 (lw_bc (ab_rdT_ok (r := (0, 9)) (k := 95) (a := 0) (b := 0) (j := 0) hok5 (by decide +kernel) (Nat.le_refl _) (Nat.le_refl _)).1 (ab_rdT_ok (r := (0, 9)) (k := 95) (a := 0) (b := 0) (j := 0) hok5 (by decide +kernel) (Nat.le_refl _) (Nat.le_refl _)).2 (lw_bc (ab_rdT_ok (r := (0, 6)) (k := 95) (a := 1) (b := 1) (j := 1) hok5 (by decide +kernel) (Nat.le_refl _) (Nat.le_refl _)).1 (ab_rdT_ok (r := (0, 6)) (k := 95) (a := 1) (b := 1) (j := 1) hok5 (by decide +kernel) (Nat.le_refl _) (Nat.le_refl _)).2 (lw_bc (ab_rdT_ok (r := (0, 5)) (k := 95) (a := 2) (b := 2) (j := 2) hok5 (by decide +kernel) (Nat.le_refl _) (Nat.le_refl _)).1 (ab_rdT_ok (r := (0, 5)) (k := 95) (a := 2) (b := 2) (j := 2) hok5 (by decide +kernel) (Nat.le_refl _) (Nat.le_refl _)).2 (lw_bc (ab_rdT_ok (r := (0, 9)) (k := 95) (a := 3) (b := 3) (j := 3) hok5 (by decide +kernel) (Nat.le_refl _) (Nat.le_refl _)).1 (ab_rdT_ok (r := (0, 9)) (k := 95) (a := 3) (b := 3) (j := 3) hok5 (by decide +kernel) (Nat.le_refl _) (Nat.le_refl _)).2 (lw_bc (lw_in y2).1 (lw_in y2).2 (lw_bn))))))))))))) (by
      show ∀ f ∈ ([(2, 1, (-7)), (4, 2, 1)] : ab_FT), _
      exact List.forall_mem_cons.mpr ⟨⟨by decide, by decide, (by show ρ2 2 - ρ2 1 ≤ -7; omega)⟩, List.forall_mem_cons.mpr ⟨⟨by decide, by decide, (by show σ5 93 23 - ρ2 2 ≤ 1; omega)⟩, fun _ h => absurd h List.not_mem_nil⟩⟩) rfl (by decide) (by
      show ∀ d ∈ ([((1, 1), (3, 0)), ((93, 2), (3, 0)), ((93, 23), (4, 0)), ((130, 1), (0, 0)), ((130, 2), (0, 0)), ((93, 22), (5, 0)), ((95, 0), (6, 0)), ((95, 1), (7, 0)), ((95, 2), (8, 0)), ((95, 3), (9, 0))] : ab_DL), _
      exact List.forall_mem_cons.mpr ⟨lw_di (by decide) rfl (Int.add_zero _).symm, List.forall_mem_cons.mpr ⟨lw_di (by decide) rfl (hR5.1.1.1.symm.trans (Int.add_zero _).symm), List.forall_mem_cons.mpr ⟨lw_di (by decide) rfl (Int.add_zero _).symm, List.forall_mem_cons.mpr ⟨lw_di (by decide) rfl u131, List.forall_mem_cons.mpr ⟨lw_di (by decide) rfl u132, List.forall_mem_cons.mpr ⟨lw_di (by decide) rfl (Int.add_zero _).symm, List.forall_mem_cons.mpr ⟨lw_di (by decide) rfl (Int.add_zero _).symm, List.forall_mem_cons.mpr ⟨lw_di (by decide) rfl (Int.add_zero _).symm, List.forall_mem_cons.mpr ⟨lw_di (by decide) rfl (Int.add_zero _).symm, List.forall_mem_cons.mpr ⟨lw_di (by decide) rfl (Int.add_zero _).symm, fun _ h => absurd h List.not_mem_nil⟩⟩⟩⟩⟩⟩⟩⟩⟩⟩) (by decide) (lw_L hG5.2.2.2.1 v1 (show ρ2 2 = ρ5 2 from ((e2 2 (by decide)).trans (hG4.2.1 2 (by decide))).symm) (by decide)) ⟨?_, ?_⟩
    · rw [hy2]
      show [Value.int (Int32.ofInt y2), Value.int (Int32.ofInt y2)] = [Value.int (Int32.ofInt (fw_c y2 + 0)), Value.int (Int32.ofInt (fw_c y2 + 0))]
      rw [Int.add_zero, fw_c_of]
    · show ∀ a ∈ ([(0, 10, 0), (0, 10, 0)] : List ab_AV), ab_sy 11 a
      exact List.forall_mem_cons.mpr ⟨(show 10 < 11 by decide), List.forall_mem_cons.mpr ⟨(show 10 < 11 by decide), fun _ h => absurd h List.not_mem_nil⟩⟩
  refine lw_go C1 hinj hcr hAd hKK hN hF (ρ := lw_v [0, ρ2 1, ρ2 2, σ5 1 1, σ5 93 23, σ5 93 22, σ5 95 0, σ5 95 1, σ5 95 2, σ5 95 3, fw_c y2]) (σ := σ5) (by decide) (show ρ2 1 = (L : Int) from r1.trans h4) (fun j hj => (u140 j).trans ((e140 j).trans (h5 j hj))) g1 g2 lw_ca_nights (fun nd hnd => ?_) List.mem_cons_self ha
  rw [List.mem_singleton.mp hnd]
  refine hH (lw_v [0, ρ2 1, ρ2 2, σ5 1 1, σ5 93 23, σ5 93 22, σ5 95 0, σ5 95 1, σ5 95 2, σ5 95 3, fw_c y2]) σ5 r1 r2 (fun j hj => (u140 j).trans ((e140 j).trans (h5 j hj))) hR5 (fun j hj => ?_)
  rcases (show j = 0 ∨ j = 1 ∨ j = 2 ∨ j = 3 by omega) with rfl | rfl | rfl | rfl <;> rfl
set_option maxHeartbeats 8000000 in
theorem lw_d_image {p : Program} {e : Env} {s : State} {m : MethodId} {below : List Frame} {meth : Method} {c : Code} {l : Launch} {b L : Nat} {xs : Nat → Int32} {cy : Nat → ClassId} {ad wr cr : Nat → Nat} {D : va_G} (C0 : lw_At p s m meth c b L xs) (hinj : nn_inj ad) (hcr : cr 999 = b) (hAd : ∀ k, k < nn_sh.length → s.heap.size ≤ ad k) (hKK : va_K D vwCl (ab_tys cy) s) (hN : ab_okN nn_NW s) (hF : fw_CB cy ad wr cr nn_kd fw_kv fw_wc (fun q : Nat => s.heap.size ≤ q) s) {cells slots : Nat} (g1 : cells ≤ 601024) (g2 : slots ≤ 7293034) {ρ : Nat → Int} {σ : ab_SG} (h4 : ρ 1 = (L : Int)) (h5 : ∀ j : Nat, j < L → σ 140 j = (xs j).toInt) (hR : RQ σ) (hH : ∀ (ρb : Nat → Int) (σb : ab_SG), ρb 1 = ρ 1 → ρb 2 = ρ 2 → (∀ j : Nat, j < L → σb 140 j = (xs j).toInt) → RQ σb → (∀ j : Nat, j < 4 → σb 95 j = ρb (6 + j)) → ∀ (ρ2 : Nat → Int) (σ2 : ab_SG) (H : Heap) (locs : List Loc) (ls : Array Slot) (st : List Value), ab_Gm cy ad wr cr D vwCl nn_sh nn_T nn_C 8 10 ρb σb (fun q : Nat => s.heap.size ≤ q) s.heap lw_X.2.1 ρ2 σ2 H locs ls st → W p l e room_1 s m #[Value.ref b] below meth c H locs cells slots (lw_Z below #[Value.ref b] s) (F0 m 23 ls st)) : ∀ (ρ2 : Nat → Int) (σ2 : ab_SG) (H : Heap) (locs : List Loc) (ls : Array Slot) (st : List Value), ab_Gm cy ad wr cr D vwCl nn_sh nn_T nn_C 8 10 ρ σ (fun q : Nat => s.heap.size ≤ q) s.heap lw_X2695.2.1 ρ2 σ2 H locs ls st → W p l e room_1 s m #[Value.ref b] below meth c H locs cells slots (lw_Z below #[Value.ref b] s) (F0 m 2695 ls st) := by
  intro ρ2 σ2 H locs ls st hG
  have C1 := C0
  obtain ⟨hx, hb, hr, hml, hown, hts, hX, hbl, hlocks, hgv⟩ := C0
  have hown2 : s.vm.findClass "NameNotesLaw" = some m.cls := hown
  have hTT : ∀ w ∈ nn_TT, w ∈ lw_tbl := fun w hw => (List.mem_filter.mp hw).1
  rw [lw_nil hG rfl] at hG
  have hok : ab_okR nn_T σ := hG.1.2.2.2.2.2.1
  have hc := cN_of hok
  have b1 : (7 : Int) ≤ ρ2 1 ∧ ρ2 1 ≤ 3584 := hG.1.1 1 (by decide)
  have b2 : (0 : Int) ≤ ρ2 2 ∧ ρ2 2 ≤ 3577 := hG.1.1 2 (by decide)
  have b4 : (0 : Int) ≤ ρ2 4 ∧ ρ2 4 ≤ 3577 := hG.1.1 4 (by decide)
  have f1 : ρ2 2 - ρ2 1 ≤ -7 := (hG.1.2.1 (2, 1, -7) (by decide +kernel)).2.2
  have f2 : ρ2 4 - ρ2 2 ≤ 0 := (hG.1.2.1 (4, 2, 0) (by decide +kernel)).2.2
  have r1 : ρ2 1 = ρ 1 := hG.2.1 1 (by decide)
  have r2 : ρ2 2 = ρ 2 := hG.2.1 2 (by decide)
  have dst : σ 93 23 = ρ2 4 := by
    have h := lw_d hG.1.2.2.2.2.1 (k := 93) (j := 23) (s := 4) (c := 0) (by decide +kernel) rfl
    rw [Int.add_zero] at h
    exact h
  have c12 : (-2147483648 : Int) ≤ ρ2 12 ∧ ρ2 12 ≤ 2147483647 := hG.1.1 12 (by decide)
  have d141 : σ 140 (ab_kv ρ2 2002001) = ρ2 12 + 0 := (hG.1.2.2.2.2.1 ((140, 2002001), (12, 0)) (by decide +kernel)).2.2
  have ar0 : fw_c (ρ2 12 + 0) = (ρ2 12 + 0) := fw_c_id (by omega) (by omega)
  refine db_cl (own := "NameNotesLaw") (cells := cells) (slots := slots) (nL := 8) (Ts := lw_tbl) (q := (184, 3, cd_310)) (mr := (⟨"NameNotes", "image", "(I)Z"⟩, prog_1_method_57_code, 3, (Option.some Jvm.ClassFile.FieldType.boolean), 1, true, 1)) (lv := 3) (lev := 3) (as := [(2, 0, 0), (0, 12, 0)]) (rest := []) ⟨g1, g2⟩ hx hb hml hown2 hts hKK hN hF rfl hTT hAd (fun q hq => hq) rfl rfl (ab_mlk_mono (nn_PM0_ok (272, 0, 184) (by decide +kernel)) hTT) (hTT _ (nn_at_ok (i := 6067) (by decide +kernel))) (ct_310 l cy ad wr cr D hinj) (fm_image hinj) (by decide) (by decide) ⟨by decide, by decide⟩ rfl rfl (by decide) (by decide) lw_R_image_ok (show decode code 2695 = .ok (.invokevirtual 272, 3) by decide +kernel) hG (K := fun _ σ' => k_image (ρ2 12 + 0) σ σ') (sk_image ar0) ?_
  intro x hx9 ρ3 σ3 σf rv H1 locs1 st1 vr e1 hG3 hK hP hst
  have hv : vW σ3 σf := vW_of hG3.1.2.2.2.2.2.1 hG3.2.2.2.2.2.1 hP
  obtain ⟨w1, w2, w3, w4, w5, w6, w7⟩ := of_decide_eq_true (List.all_eq_true.mp lw_q_image x hx9)
  obtain ⟨y1, hy1⟩ := lw_top hG3.2.2.2.2.1 w2 w3
  have e140 : ∀ j : Nat, σ3 140 j = σ 140 j := fun j => mk_row hG3.1.2.2.2.2.2.2.2 w6 j
  have e23 : σ3 93 23 = ρ2 4 := (mk_at hG3.1.2.2.2.2.2.2.2 w7).trans dst
  have d131 : σ3 130 1 = 0 + 0 := by
    have h := lw_d hG3.1.2.2.2.2.1 w4 rfl
    rw [hG3.1.2.2.1] at h
    exact h
  have d132 : σ3 130 2 = 0 + 0 := by
    have h := lw_d hG3.1.2.2.2.2.1 w5 rfl
    rw [hG3.1.2.2.1] at h
    exact h
  rw [← e140] at d141
  have hkv3 : ∀ i : Nat, i < 3 → lw_v [0, ρ2 1, ρ2 2, ρ2 12, fw_c y1, σ3 93 23] i = ρ2 i := fun i hi => by
    rcases (show i = 0 ∨ i = 1 ∨ i = 2 by omega) with rfl | rfl | rfl
    · exact hG.1.2.2.1.symm
    · rfl
    · rfl
  have hm : ab_Gm cy ad wr cr D vwCl nn_sh nn_T nn_C 8 6 (lw_v [0, ρ2 1, ρ2 2, ρ2 12, fw_c y1, σ3 93 23]) σ3 (fun q : Nat => s.heap.size ≤ q) s.heap lw_M_image.2.1 (lw_v [0, ρ2 1, ρ2 2, ρ2 12, fw_c y1, σ3 93 23]) σ3 H1 locs1 ls st1 := by
    refine lw_re hG3 rfl (lw_B _ _ (lw_bc (Int.le_refl 0) (Int.le_refl 0) (lw_bc (by omega) (by omega) (lw_bc (by omega) (by omega) (lw_bc (by omega) (by omega) (lw_bc (lw_in y1).1 (lw_in y1).2 (lw_bc (by omega) (by omega) (lw_bn)))))))) (by
      show ∀ f ∈ ([(2, 1, (-7))] : ab_FT), _
      exact List.forall_mem_cons.mpr ⟨⟨by decide, by decide, (by show ρ2 2 - ρ2 1 ≤ -7; omega)⟩, fun _ h => absurd h List.not_mem_nil⟩) rfl (by decide) (by
      show ∀ d ∈ ([((130, 1), (0, 0)), ((130, 2), (0, 0)), ((93, 23), (5, 0)), ((140, 2002001), (3, 0))] : ab_DL), _
      exact List.forall_mem_cons.mpr ⟨lw_di (by decide) rfl d131, List.forall_mem_cons.mpr ⟨lw_di (by decide) rfl d132, List.forall_mem_cons.mpr ⟨lw_di (by decide) rfl (Int.add_zero _).symm, List.forall_mem_cons.mpr ⟨lw_dk (ρ0 := ρ2) (by decide) (Or.inr (by decide)) (by decide) hkv3 d141, fun _ h => absurd h List.not_mem_nil⟩⟩⟩⟩) (by decide) (lw_L hG3.2.2.2.1 w1 (show ρ2 2 = ρ3 2 from (e1 2 (by decide)).symm) (by decide)) ⟨?_, ?_⟩
    · rw [hy1]
      show [Value.int (Int32.ofInt y1)] = [Value.int (Int32.ofInt (fw_c y1 + 0))]
      rw [Int.add_zero, fw_c_of]
    · show ∀ a ∈ ([(0, 4, 0)] : List ab_AV), ab_sy 6 a
      exact List.forall_mem_cons.mpr ⟨(show 4 < 6 by decide), fun _ h => absurd h List.not_mem_nil⟩
  refine lw_go C1 hinj hcr hAd hKK hN hF (ρ := lw_v [0, ρ2 1, ρ2 2, ρ2 12, fw_c y1, σ3 93 23]) (σ := σ3) (by decide) (show ρ2 1 = (L : Int) from r1.trans h4) (fun j hj => (e140 j).trans (h5 j hj)) g1 g2 lw_cm_image (fun nd hnd => ?_) List.mem_cons_self hm
  rw [List.mem_singleton.mp hnd]
  intro ρ4 σ4 H locs ls st hG4
  rw [lw_nil hG4 rfl] at hG4
  have a0 : ρ4 3 = ρ2 12 := hG4.2.1 3 (by decide)
  refine db_cl (own := "NameNotesLaw") (cells := cells) (slots := slots) (nL := 8) (Ts := lw_tbl) (q := (352, 1, gd_image)) (mr := (⟨"NameNotesModel", "image", "(I)Z"⟩, prog_14_method_150_code, 3, (Option.some Jvm.ClassFile.FieldType.boolean), 1, true, 1)) (lv := 1) (lev := 1) (as := [(2, 93, 0), (0, 3, 0)]) (rest := []) ⟨g1, g2⟩ hx hb hml hown2 hts hKK hN hF rfl hTT hAd (fun q hq => hq) rfl rfl (ab_mlk_mono (nn_PM0_ok (275, 0, 352) (by decide +kernel)) hTT) (hTT _ (nn_at_ok (i := 10069) (by decide +kernel))) (gt_image l cy ad wr cr D hinj) (fm_m_image hinj) (by decide) (by decide) ⟨by decide, by decide⟩ rfl rfl (by decide) (by decide) lw_T_image_ok (show decode code 2706 = .ok (.invokevirtual 275, 3) by decide +kernel) hG4 (K := fun _ σ' => km_image (ρ2 12 + 0) σ3 σ') (by
    show sp_m_image [(2, 93, 0), (0, 0, ρ4 3 + 0)] σ3 _
    rw [a0]
    exact sm_image ar0 (cn_N hc) hR.1 hK (vw_W hv)) ?_
  intro x2 hx2 ρ5 σ5 σf2 rv2 H2 locs2 st2 vr2 e2 hG5 hK2 hP2 hst2
  have hv2 : vW σ5 σf2 := vW_of hG5.1.2.2.2.2.2.1 hG5.2.2.2.2.2.1 hP2
  have hok5 : ab_okR nn_T σ5 := hG5.1.2.2.2.2.2.1
  have hR5 : RQ σ5 := RQ_image hc hR hK hv hK2 hv2
  obtain ⟨v1, v2, v3, v4, v5, v6, v7⟩ := of_decide_eq_true (List.all_eq_true.mp lw_p_image x2 hx2)
  have u140 : ∀ j : Nat, σ5 140 j = σ3 140 j := fun j => mk_row hG5.1.2.2.2.2.2.2.2 v6 j
  have u23 : 0 ≤ σ5 93 23 ∧ σ5 93 23 ≤ σ3 93 23 + 1 := by
    rw [mk_at hG5.1.2.2.2.2.2.2.2 v7]
    omega
  obtain ⟨y2, hy2⟩ := lw_top hG5.2.2.2.2.1 v2 v3
  have u131 : σ5 130 1 = 0 + 0 := by
    have h := lw_d hG5.1.2.2.2.2.1 v4 rfl
    rw [hG5.1.2.2.1] at h
    exact h
  have u132 : σ5 130 2 = 0 + 0 := by
    have h := lw_d hG5.1.2.2.2.2.1 v5 rfl
    rw [hG5.1.2.2.1] at h
    exact h
  have n22 : (0 : Int) ≤ σ5 93 22 ∧ σ5 93 22 ≤ 1 := by
    rcases hR5.1.2.1.2.2.2 with ⟨z, -⟩ | ⟨z, -⟩ <;> omega
  have ha : ab_Gm cy ad wr cr D vwCl nn_sh nn_T nn_C 8 10 (lw_v [0, ρ2 1, ρ2 2, σ5 1 1, σ5 93 23, σ5 93 22, σ5 95 0, σ5 95 1, σ5 95 2, σ5 95 3, fw_c y2]) σ5 (fun q : Nat => s.heap.size ≤ q) s.heap lw_A_image.2.1 (lw_v [0, ρ2 1, ρ2 2, σ5 1 1, σ5 93 23, σ5 93 22, σ5 95 0, σ5 95 1, σ5 95 2, σ5 95 3, fw_c y2]) σ5 H2 locs2 ls st2 := by
    refine lw_re hG5 rfl (lw_B _ _ (lw_bc (Int.le_refl 0) (Int.le_refl 0) (lw_bc (by omega) (by omega) (lw_bc (by omega) (by omega) (lw_bc hR5.1.1.2.1 hR5.1.1.2.2.1 (lw_bc u23.1 (by omega) (lw_bc n22.1 n22.2 (lw_bc (ab_rdT_ok (r := (0, 9)) (k := 95) (a := 0) (b := 0) (j := 0) hok5 (by decide +kernel) (Nat.le_refl _) (Nat.le_refl _)).1 (ab_rdT_ok (r := (0, 9)) (k := 95) (a := 0) (b := 0) (j := 0) hok5 (by decide +kernel) (Nat.le_refl _) (Nat.le_refl _)).2 (lw_bc (ab_rdT_ok (r := (0, 6)) (k := 95) (a := 1) (b := 1) (j := 1) hok5 (by decide +kernel) (Nat.le_refl _) (Nat.le_refl _)).1 (ab_rdT_ok (r := (0, 6)) (k := 95) (a := 1) (b := 1) (j := 1) hok5 (by decide +kernel) (Nat.le_refl _) (Nat.le_refl _)).2 (lw_bc (ab_rdT_ok (r := (0, 5)) (k := 95) (a := 2) (b := 2) (j := 2) hok5 (by decide +kernel) (Nat.le_refl _) (Nat.le_refl _)).1 (ab_rdT_ok (r := (0, 5)) (k := 95) (a := 2) (b := 2) (j := 2) hok5 (by decide +kernel) (Nat.le_refl _) (Nat.le_refl _)).2 (lw_bc (ab_rdT_ok (r := (0, 9)) (k := 95) (a := 3) (b := 3) (j := 3) hok5 (by decide +kernel) (Nat.le_refl _) (Nat.le_refl _)).1 (ab_rdT_ok (r := (0, 9)) (k := 95) (a := 3) (b := 3) (j := 3) hok5 (by decide +kernel) (Nat.le_refl _) (Nat.le_refl _)).2 (lw_bc (lw_in y2).1 (lw_in y2).2 (lw_bn))))))))))))) (by
      show ∀ f ∈ ([(2, 1, (-7)), (4, 2, 1)] : ab_FT), _
      exact List.forall_mem_cons.mpr ⟨⟨by decide, by decide, (by show ρ2 2 - ρ2 1 ≤ -7; omega)⟩, List.forall_mem_cons.mpr ⟨⟨by decide, by decide, (by show σ5 93 23 - ρ2 2 ≤ 1; omega)⟩, fun _ h => absurd h List.not_mem_nil⟩⟩) rfl (by decide) (by
      show ∀ d ∈ ([((1, 1), (3, 0)), ((93, 2), (3, 0)), ((93, 23), (4, 0)), ((130, 1), (0, 0)), ((130, 2), (0, 0)), ((93, 22), (5, 0)), ((95, 0), (6, 0)), ((95, 1), (7, 0)), ((95, 2), (8, 0)), ((95, 3), (9, 0))] : ab_DL), _
      exact List.forall_mem_cons.mpr ⟨lw_di (by decide) rfl (Int.add_zero _).symm, List.forall_mem_cons.mpr ⟨lw_di (by decide) rfl (hR5.1.1.1.symm.trans (Int.add_zero _).symm), List.forall_mem_cons.mpr ⟨lw_di (by decide) rfl (Int.add_zero _).symm, List.forall_mem_cons.mpr ⟨lw_di (by decide) rfl u131, List.forall_mem_cons.mpr ⟨lw_di (by decide) rfl u132, List.forall_mem_cons.mpr ⟨lw_di (by decide) rfl (Int.add_zero _).symm, List.forall_mem_cons.mpr ⟨lw_di (by decide) rfl (Int.add_zero _).symm, List.forall_mem_cons.mpr ⟨lw_di (by decide) rfl (Int.add_zero _).symm, List.forall_mem_cons.mpr ⟨lw_di (by decide) rfl (Int.add_zero _).symm, List.forall_mem_cons.mpr ⟨lw_di (by decide) rfl (Int.add_zero _).symm, fun _ h => absurd h List.not_mem_nil⟩⟩⟩⟩⟩⟩⟩⟩⟩⟩) (by decide) (lw_L hG5.2.2.2.1 v1 (show ρ2 2 = ρ5 2 from ((e2 2 (by decide)).trans (hG4.2.1 2 (by decide))).symm) (by decide)) ⟨?_, ?_⟩
    · rw [hy2]
      show [Value.int (Int32.ofInt y2)] = [Value.int (Int32.ofInt (fw_c y2 + 0))]
      rw [Int.add_zero, fw_c_of]
    · show ∀ a ∈ ([(0, 10, 0)] : List ab_AV), ab_sy 11 a
      exact List.forall_mem_cons.mpr ⟨(show 10 < 11 by decide), fun _ h => absurd h List.not_mem_nil⟩
  refine lw_go C1 hinj hcr hAd hKK hN hF (ρ := lw_v [0, ρ2 1, ρ2 2, σ5 1 1, σ5 93 23, σ5 93 22, σ5 95 0, σ5 95 1, σ5 95 2, σ5 95 3, fw_c y2]) (σ := σ5) (by decide) (show ρ2 1 = (L : Int) from r1.trans h4) (fun j hj => (u140 j).trans ((e140 j).trans (h5 j hj))) g1 g2 lw_ca_image (fun nd hnd => ?_) List.mem_cons_self ha
  rw [List.mem_singleton.mp hnd]
  refine hH (lw_v [0, ρ2 1, ρ2 2, σ5 1 1, σ5 93 23, σ5 93 22, σ5 95 0, σ5 95 1, σ5 95 2, σ5 95 3, fw_c y2]) σ5 r1 r2 (fun j hj => (u140 j).trans ((e140 j).trans (h5 j hj))) hR5 (fun j hj => ?_)
  rcases (show j = 0 ∨ j = 1 ∨ j = 2 ∨ j = 3 by omega) with rfl | rfl | rfl | rfl <;> rfl
set_option maxHeartbeats 8000000 in
theorem lw_d_restore {p : Program} {e : Env} {s : State} {m : MethodId} {below : List Frame} {meth : Method} {c : Code} {l : Launch} {b L : Nat} {xs : Nat → Int32} {cy : Nat → ClassId} {ad wr cr : Nat → Nat} {D : va_G} (C0 : lw_At p s m meth c b L xs) (hinj : nn_inj ad) (hcr : cr 999 = b) (hAd : ∀ k, k < nn_sh.length → s.heap.size ≤ ad k) (hKK : va_K D vwCl (ab_tys cy) s) (hN : ab_okN nn_NW s) (hF : fw_CB cy ad wr cr nn_kd fw_kv fw_wc (fun q : Nat => s.heap.size ≤ q) s) {cells slots : Nat} (g1 : cells ≤ 601024) (g2 : slots ≤ 7293034) {ρ : Nat → Int} {σ : ab_SG} (h4 : ρ 1 = (L : Int)) (h5 : ∀ j : Nat, j < L → σ 140 j = (xs j).toInt) (hR : RQ σ) (hH : ∀ (ρb : Nat → Int) (σb : ab_SG), ρb 1 = ρ 1 → ρb 2 = ρ 2 → (∀ j : Nat, j < L → σb 140 j = (xs j).toInt) → RQ σb → (∀ j : Nat, j < 4 → σb 95 j = ρb (6 + j)) → ∀ (ρ2 : Nat → Int) (σ2 : ab_SG) (H : Heap) (locs : List Loc) (ls : Array Slot) (st : List Value), ab_Gm cy ad wr cr D vwCl nn_sh nn_T nn_C 8 10 ρb σb (fun q : Nat => s.heap.size ≤ q) s.heap lw_X.2.1 ρ2 σ2 H locs ls st → W p l e room_1 s m #[Value.ref b] below meth c H locs cells slots (lw_Z below #[Value.ref b] s) (F0 m 23 ls st)) : ∀ (ρ2 : Nat → Int) (σ2 : ab_SG) (H : Heap) (locs : List Loc) (ls : Array Slot) (st : List Value), ab_Gm cy ad wr cr D vwCl nn_sh nn_T nn_C 8 10 ρ σ (fun q : Nat => s.heap.size ≤ q) s.heap lw_X2720.2.1 ρ2 σ2 H locs ls st → W p l e room_1 s m #[Value.ref b] below meth c H locs cells slots (lw_Z below #[Value.ref b] s) (F0 m 2720 ls st) := by
  intro ρ2 σ2 H locs ls st hG
  have C1 := C0
  obtain ⟨hx, hb, hr, hml, hown, hts, hX, hbl, hlocks, hgv⟩ := C0
  have hown2 : s.vm.findClass "NameNotesLaw" = some m.cls := hown
  have hTT : ∀ w ∈ nn_TT, w ∈ lw_tbl := fun w hw => (List.mem_filter.mp hw).1
  rw [lw_nil hG rfl] at hG
  have hok : ab_okR nn_T σ := hG.1.2.2.2.2.2.1
  have hc := cN_of hok
  have b1 : (7 : Int) ≤ ρ2 1 ∧ ρ2 1 ≤ 3584 := hG.1.1 1 (by decide)
  have b2 : (0 : Int) ≤ ρ2 2 ∧ ρ2 2 ≤ 3577 := hG.1.1 2 (by decide)
  have b4 : (0 : Int) ≤ ρ2 4 ∧ ρ2 4 ≤ 3577 := hG.1.1 4 (by decide)
  have f1 : ρ2 2 - ρ2 1 ≤ -7 := (hG.1.2.1 (2, 1, -7) (by decide +kernel)).2.2
  have f2 : ρ2 4 - ρ2 2 ≤ 0 := (hG.1.2.1 (4, 2, 0) (by decide +kernel)).2.2
  have r1 : ρ2 1 = ρ 1 := hG.2.1 1 (by decide)
  have r2 : ρ2 2 = ρ 2 := hG.2.1 2 (by decide)
  have dst : σ 93 23 = ρ2 4 := by
    have h := lw_d hG.1.2.2.2.2.1 (k := 93) (j := 23) (s := 4) (c := 0) (by decide +kernel) rfl
    rw [Int.add_zero] at h
    exact h
  have c12 : (-2147483648 : Int) ≤ ρ2 12 ∧ ρ2 12 ≤ 2147483647 := hG.1.1 12 (by decide)
  have d141 : σ 140 (ab_kv ρ2 2002001) = ρ2 12 + 0 := (hG.1.2.2.2.2.1 ((140, 2002001), (12, 0)) (by decide +kernel)).2.2
  have ar0 : fw_c (ρ2 12 + 0) = (ρ2 12 + 0) := fw_c_id (by omega) (by omega)
  refine db_cl (own := "NameNotesLaw") (cells := cells) (slots := slots) (nL := 8) (Ts := lw_tbl) (q := (186, 3, cd_339)) (mr := (⟨"NameNotes", "restore", "(I)Z"⟩, prog_1_method_58_code, 3, (Option.some Jvm.ClassFile.FieldType.boolean), 1, true, 1)) (lv := 3) (lev := 3) (as := [(2, 0, 0), (0, 12, 0)]) (rest := []) ⟨g1, g2⟩ hx hb hml hown2 hts hKK hN hF rfl hTT hAd (fun q hq => hq) rfl rfl (ab_mlk_mono (nn_PM0_ok (276, 0, 186) (by decide +kernel)) hTT) (hTT _ (nn_at_ok (i := 6075) (by decide +kernel))) (ct_339 l cy ad wr cr D hinj) (fm_restore hinj) (by decide) (by decide) ⟨by decide, by decide⟩ rfl rfl (by decide) (by decide) lw_R_restore_ok (show decode code 2720 = .ok (.invokevirtual 276, 3) by decide +kernel) hG (K := fun _ σ' => k_restore (ρ2 12 + 0) σ σ') (sk_restore ar0 hR.1.2.2) ?_
  intro x hx9 ρ3 σ3 σf rv H1 locs1 st1 vr e1 hG3 hK hP hst
  have hv : vW σ3 σf := vW_of hG3.1.2.2.2.2.2.1 hG3.2.2.2.2.2.1 hP
  obtain ⟨w1, w2, w3, w4, w5, w6, w7⟩ := of_decide_eq_true (List.all_eq_true.mp lw_q_restore x hx9)
  obtain ⟨y1, hy1⟩ := lw_top hG3.2.2.2.2.1 w2 w3
  have e140 : ∀ j : Nat, σ3 140 j = σ 140 j := fun j => mk_row hG3.1.2.2.2.2.2.2.2 w6 j
  have e23 : σ3 93 23 = ρ2 4 := (mk_at hG3.1.2.2.2.2.2.2.2 w7).trans dst
  have d131 : σ3 130 1 = 0 + 0 := by
    have h := lw_d hG3.1.2.2.2.2.1 w4 rfl
    rw [hG3.1.2.2.1] at h
    exact h
  have d132 : σ3 130 2 = 0 + 0 := by
    have h := lw_d hG3.1.2.2.2.2.1 w5 rfl
    rw [hG3.1.2.2.1] at h
    exact h
  rw [← e140] at d141
  have hkv3 : ∀ i : Nat, i < 3 → lw_v [0, ρ2 1, ρ2 2, ρ2 12, fw_c y1, σ3 93 23] i = ρ2 i := fun i hi => by
    rcases (show i = 0 ∨ i = 1 ∨ i = 2 by omega) with rfl | rfl | rfl
    · exact hG.1.2.2.1.symm
    · rfl
    · rfl
  have hm : ab_Gm cy ad wr cr D vwCl nn_sh nn_T nn_C 8 6 (lw_v [0, ρ2 1, ρ2 2, ρ2 12, fw_c y1, σ3 93 23]) σ3 (fun q : Nat => s.heap.size ≤ q) s.heap lw_M_restore.2.1 (lw_v [0, ρ2 1, ρ2 2, ρ2 12, fw_c y1, σ3 93 23]) σ3 H1 locs1 ls st1 := by
    refine lw_re hG3 rfl (lw_B _ _ (lw_bc (Int.le_refl 0) (Int.le_refl 0) (lw_bc (by omega) (by omega) (lw_bc (by omega) (by omega) (lw_bc (by omega) (by omega) (lw_bc (lw_in y1).1 (lw_in y1).2 (lw_bc (by omega) (by omega) (lw_bn)))))))) (by
      show ∀ f ∈ ([(2, 1, (-7))] : ab_FT), _
      exact List.forall_mem_cons.mpr ⟨⟨by decide, by decide, (by show ρ2 2 - ρ2 1 ≤ -7; omega)⟩, fun _ h => absurd h List.not_mem_nil⟩) rfl (by decide) (by
      show ∀ d ∈ ([((130, 1), (0, 0)), ((130, 2), (0, 0)), ((93, 23), (5, 0)), ((140, 2002001), (3, 0))] : ab_DL), _
      exact List.forall_mem_cons.mpr ⟨lw_di (by decide) rfl d131, List.forall_mem_cons.mpr ⟨lw_di (by decide) rfl d132, List.forall_mem_cons.mpr ⟨lw_di (by decide) rfl (Int.add_zero _).symm, List.forall_mem_cons.mpr ⟨lw_dk (ρ0 := ρ2) (by decide) (Or.inr (by decide)) (by decide) hkv3 d141, fun _ h => absurd h List.not_mem_nil⟩⟩⟩⟩) (by decide) (lw_L hG3.2.2.2.1 w1 (show ρ2 2 = ρ3 2 from (e1 2 (by decide)).symm) (by decide)) ⟨?_, ?_⟩
    · rw [hy1]
      show [Value.int (Int32.ofInt y1)] = [Value.int (Int32.ofInt (fw_c y1 + 0))]
      rw [Int.add_zero, fw_c_of]
    · show ∀ a ∈ ([(0, 4, 0)] : List ab_AV), ab_sy 6 a
      exact List.forall_mem_cons.mpr ⟨(show 4 < 6 by decide), fun _ h => absurd h List.not_mem_nil⟩
  refine lw_go C1 hinj hcr hAd hKK hN hF (ρ := lw_v [0, ρ2 1, ρ2 2, ρ2 12, fw_c y1, σ3 93 23]) (σ := σ3) (by decide) (show ρ2 1 = (L : Int) from r1.trans h4) (fun j hj => (e140 j).trans (h5 j hj)) g1 g2 lw_cm_restore (fun nd hnd => ?_) List.mem_cons_self hm
  rw [List.mem_singleton.mp hnd]
  intro ρ4 σ4 H locs ls st hG4
  rw [lw_nil hG4 rfl] at hG4
  have a0 : ρ4 3 = ρ2 12 := hG4.2.1 3 (by decide)
  refine db_cl (own := "NameNotesLaw") (cells := cells) (slots := slots) (nL := 8) (Ts := lw_tbl) (q := (353, 1, gd_restore)) (mr := (⟨"NameNotesModel", "restore", "(I)Z"⟩, prog_14_method_151_code, 3, (Option.some Jvm.ClassFile.FieldType.boolean), 1, true, 1)) (lv := 1) (lev := 1) (as := [(2, 93, 0), (0, 3, 0)]) (rest := []) ⟨g1, g2⟩ hx hb hml hown2 hts hKK hN hF rfl hTT hAd (fun q hq => hq) rfl rfl (ab_mlk_mono (nn_PM0_ok (279, 0, 353) (by decide +kernel)) hTT) (hTT _ (nn_at_ok (i := 10073) (by decide +kernel))) (gt_restore l cy ad wr cr D hinj) (fm_m_restore hinj) (by decide) (by decide) ⟨by decide, by decide⟩ rfl rfl (by decide) (by decide) lw_T_restore_ok (show decode code 2731 = .ok (.invokevirtual 279, 3) by decide +kernel) hG4 (K := fun _ σ' => km_restore (ρ2 12 + 0) σ3 σ') (by
    show sp_m_restore [(2, 93, 0), (0, 0, ρ4 3 + 0)] σ3 _
    rw [a0]
    exact sm_restore ar0 (cn_N hc) hR.1.2.2 hK (vw_W hv)) ?_
  intro x2 hx2 ρ5 σ5 σf2 rv2 H2 locs2 st2 vr2 e2 hG5 hK2 hP2 hst2
  have hv2 : vW σ5 σf2 := vW_of hG5.1.2.2.2.2.2.1 hG5.2.2.2.2.2.1 hP2
  have hok5 : ab_okR nn_T σ5 := hG5.1.2.2.2.2.2.1
  have hR5 : RQ σ5 := RQ_restore hc hR hK hv hK2 hv2
  obtain ⟨v1, v2, v3, v4, v5, v6, v7⟩ := of_decide_eq_true (List.all_eq_true.mp lw_p_restore x2 hx2)
  have u140 : ∀ j : Nat, σ5 140 j = σ3 140 j := fun j => mk_row hG5.1.2.2.2.2.2.2.2 v6 j
  have u23 : 0 ≤ σ5 93 23 ∧ σ5 93 23 ≤ σ3 93 23 + 1 := by
    rw [mk_at hG5.1.2.2.2.2.2.2.2 v7]
    omega
  obtain ⟨y2, hy2⟩ := lw_top hG5.2.2.2.2.1 v2 v3
  have u131 : σ5 130 1 = 0 + 0 := by
    have h := lw_d hG5.1.2.2.2.2.1 v4 rfl
    rw [hG5.1.2.2.1] at h
    exact h
  have u132 : σ5 130 2 = 0 + 0 := by
    have h := lw_d hG5.1.2.2.2.2.1 v5 rfl
    rw [hG5.1.2.2.1] at h
    exact h
  have n22 : (0 : Int) ≤ σ5 93 22 ∧ σ5 93 22 ≤ 1 := by
    rcases hR5.1.2.1.2.2.2 with ⟨z, -⟩ | ⟨z, -⟩ <;> omega
  have ha : ab_Gm cy ad wr cr D vwCl nn_sh nn_T nn_C 8 10 (lw_v [0, ρ2 1, ρ2 2, σ5 1 1, σ5 93 23, σ5 93 22, σ5 95 0, σ5 95 1, σ5 95 2, σ5 95 3, fw_c y2]) σ5 (fun q : Nat => s.heap.size ≤ q) s.heap lw_A_restore.2.1 (lw_v [0, ρ2 1, ρ2 2, σ5 1 1, σ5 93 23, σ5 93 22, σ5 95 0, σ5 95 1, σ5 95 2, σ5 95 3, fw_c y2]) σ5 H2 locs2 ls st2 := by
    refine lw_re hG5 rfl (lw_B _ _ (lw_bc (Int.le_refl 0) (Int.le_refl 0) (lw_bc (by omega) (by omega) (lw_bc (by omega) (by omega) (lw_bc hR5.1.1.2.1 hR5.1.1.2.2.1 (lw_bc u23.1 (by omega) (lw_bc n22.1 n22.2 (lw_bc (ab_rdT_ok (r := (0, 9)) (k := 95) (a := 0) (b := 0) (j := 0) hok5 (by decide +kernel) (Nat.le_refl _) (Nat.le_refl _)).1 (ab_rdT_ok (r := (0, 9)) (k := 95) (a := 0) (b := 0) (j := 0) hok5 (by decide +kernel) (Nat.le_refl _) (Nat.le_refl _)).2 (lw_bc (ab_rdT_ok (r := (0, 6)) (k := 95) (a := 1) (b := 1) (j := 1) hok5 (by decide +kernel) (Nat.le_refl _) (Nat.le_refl _)).1 (ab_rdT_ok (r := (0, 6)) (k := 95) (a := 1) (b := 1) (j := 1) hok5 (by decide +kernel) (Nat.le_refl _) (Nat.le_refl _)).2 (lw_bc (ab_rdT_ok (r := (0, 5)) (k := 95) (a := 2) (b := 2) (j := 2) hok5 (by decide +kernel) (Nat.le_refl _) (Nat.le_refl _)).1 (ab_rdT_ok (r := (0, 5)) (k := 95) (a := 2) (b := 2) (j := 2) hok5 (by decide +kernel) (Nat.le_refl _) (Nat.le_refl _)).2 (lw_bc (ab_rdT_ok (r := (0, 9)) (k := 95) (a := 3) (b := 3) (j := 3) hok5 (by decide +kernel) (Nat.le_refl _) (Nat.le_refl _)).1 (ab_rdT_ok (r := (0, 9)) (k := 95) (a := 3) (b := 3) (j := 3) hok5 (by decide +kernel) (Nat.le_refl _) (Nat.le_refl _)).2 (lw_bc (lw_in y2).1 (lw_in y2).2 (lw_bn))))))))))))) (by
      show ∀ f ∈ ([(2, 1, (-7)), (4, 2, 1)] : ab_FT), _
      exact List.forall_mem_cons.mpr ⟨⟨by decide, by decide, (by show ρ2 2 - ρ2 1 ≤ -7; omega)⟩, List.forall_mem_cons.mpr ⟨⟨by decide, by decide, (by show σ5 93 23 - ρ2 2 ≤ 1; omega)⟩, fun _ h => absurd h List.not_mem_nil⟩⟩) rfl (by decide) (by
      show ∀ d ∈ ([((1, 1), (3, 0)), ((93, 2), (3, 0)), ((93, 23), (4, 0)), ((130, 1), (0, 0)), ((130, 2), (0, 0)), ((93, 22), (5, 0)), ((95, 0), (6, 0)), ((95, 1), (7, 0)), ((95, 2), (8, 0)), ((95, 3), (9, 0))] : ab_DL), _
      exact List.forall_mem_cons.mpr ⟨lw_di (by decide) rfl (Int.add_zero _).symm, List.forall_mem_cons.mpr ⟨lw_di (by decide) rfl (hR5.1.1.1.symm.trans (Int.add_zero _).symm), List.forall_mem_cons.mpr ⟨lw_di (by decide) rfl (Int.add_zero _).symm, List.forall_mem_cons.mpr ⟨lw_di (by decide) rfl u131, List.forall_mem_cons.mpr ⟨lw_di (by decide) rfl u132, List.forall_mem_cons.mpr ⟨lw_di (by decide) rfl (Int.add_zero _).symm, List.forall_mem_cons.mpr ⟨lw_di (by decide) rfl (Int.add_zero _).symm, List.forall_mem_cons.mpr ⟨lw_di (by decide) rfl (Int.add_zero _).symm, List.forall_mem_cons.mpr ⟨lw_di (by decide) rfl (Int.add_zero _).symm, List.forall_mem_cons.mpr ⟨lw_di (by decide) rfl (Int.add_zero _).symm, fun _ h => absurd h List.not_mem_nil⟩⟩⟩⟩⟩⟩⟩⟩⟩⟩) (by decide) (lw_L hG5.2.2.2.1 v1 (show ρ2 2 = ρ5 2 from ((e2 2 (by decide)).trans (hG4.2.1 2 (by decide))).symm) (by decide)) ⟨?_, ?_⟩
    · rw [hy2]
      show [Value.int (Int32.ofInt y2)] = [Value.int (Int32.ofInt (fw_c y2 + 0))]
      rw [Int.add_zero, fw_c_of]
    · show ∀ a ∈ ([(0, 10, 0)] : List ab_AV), ab_sy 11 a
      exact List.forall_mem_cons.mpr ⟨(show 10 < 11 by decide), fun _ h => absurd h List.not_mem_nil⟩
  refine lw_go C1 hinj hcr hAd hKK hN hF (ρ := lw_v [0, ρ2 1, ρ2 2, σ5 1 1, σ5 93 23, σ5 93 22, σ5 95 0, σ5 95 1, σ5 95 2, σ5 95 3, fw_c y2]) (σ := σ5) (by decide) (show ρ2 1 = (L : Int) from r1.trans h4) (fun j hj => (u140 j).trans ((e140 j).trans (h5 j hj))) g1 g2 lw_ca_restore (fun nd hnd => ?_) List.mem_cons_self ha
  rw [List.mem_singleton.mp hnd]
  refine hH (lw_v [0, ρ2 1, ρ2 2, σ5 1 1, σ5 93 23, σ5 93 22, σ5 95 0, σ5 95 1, σ5 95 2, σ5 95 3, fw_c y2]) σ5 r1 r2 (fun j hj => (u140 j).trans ((e140 j).trans (h5 j hj))) hR5 (fun j hj => ?_)
  rcases (show j = 0 ∨ j = 1 ∨ j = 2 ∨ j = 3 by omega) with rfl | rfl | rfl | rfl <;> rfl
set_option maxHeartbeats 8000000 in
theorem lw_d_count {p : Program} {e : Env} {s : State} {m : MethodId} {below : List Frame} {meth : Method} {c : Code} {l : Launch} {b L : Nat} {xs : Nat → Int32} {cy : Nat → ClassId} {ad wr cr : Nat → Nat} {D : va_G} (C0 : lw_At p s m meth c b L xs) (hinj : nn_inj ad) (hcr : cr 999 = b) (hAd : ∀ k, k < nn_sh.length → s.heap.size ≤ ad k) (hKK : va_K D vwCl (ab_tys cy) s) (hN : ab_okN nn_NW s) (hF : fw_CB cy ad wr cr nn_kd fw_kv fw_wc (fun q : Nat => s.heap.size ≤ q) s) {cells slots : Nat} (g1 : cells ≤ 601024) (g2 : slots ≤ 7293034) {ρ : Nat → Int} {σ : ab_SG} (h4 : ρ 1 = (L : Int)) (h5 : ∀ j : Nat, j < L → σ 140 j = (xs j).toInt) (hR : RQ σ) (hH : ∀ (ρb : Nat → Int) (σb : ab_SG), ρb 1 = ρ 1 → ρb 2 = ρ 2 → (∀ j : Nat, j < L → σb 140 j = (xs j).toInt) → RQ σb → (∀ j : Nat, j < 4 → σb 95 j = ρb (6 + j)) → ∀ (ρ2 : Nat → Int) (σ2 : ab_SG) (H : Heap) (locs : List Loc) (ls : Array Slot) (st : List Value), ab_Gm cy ad wr cr D vwCl nn_sh nn_T nn_C 8 10 ρb σb (fun q : Nat => s.heap.size ≤ q) s.heap lw_X.2.1 ρ2 σ2 H locs ls st → W p l e room_1 s m #[Value.ref b] below meth c H locs cells slots (lw_Z below #[Value.ref b] s) (F0 m 23 ls st)) : ∀ (ρ2 : Nat → Int) (σ2 : ab_SG) (H : Heap) (locs : List Loc) (ls : Array Slot) (st : List Value), ab_Gm cy ad wr cr D vwCl nn_sh nn_T nn_C 8 10 ρ σ (fun q : Nat => s.heap.size ≤ q) s.heap lw_X2745.2.1 ρ2 σ2 H locs ls st → W p l e room_1 s m #[Value.ref b] below meth c H locs cells slots (lw_Z below #[Value.ref b] s) (F0 m 2745 ls st) := by
  intro ρ2 σ2 H locs ls st hG
  have C1 := C0
  obtain ⟨hx, hb, hr, hml, hown, hts, hX, hbl, hlocks, hgv⟩ := C0
  have hown2 : s.vm.findClass "NameNotesLaw" = some m.cls := hown
  have hTT : ∀ w ∈ nn_TT, w ∈ lw_tbl := fun w hw => (List.mem_filter.mp hw).1
  rw [lw_nil hG rfl] at hG
  have hok : ab_okR nn_T σ := hG.1.2.2.2.2.2.1
  have hc := cN_of hok
  have b1 : (7 : Int) ≤ ρ2 1 ∧ ρ2 1 ≤ 3584 := hG.1.1 1 (by decide)
  have b2 : (0 : Int) ≤ ρ2 2 ∧ ρ2 2 ≤ 3577 := hG.1.1 2 (by decide)
  have b4 : (0 : Int) ≤ ρ2 4 ∧ ρ2 4 ≤ 3577 := hG.1.1 4 (by decide)
  have f1 : ρ2 2 - ρ2 1 ≤ -7 := (hG.1.2.1 (2, 1, -7) (by decide +kernel)).2.2
  have f2 : ρ2 4 - ρ2 2 ≤ 0 := (hG.1.2.1 (4, 2, 0) (by decide +kernel)).2.2
  have r1 : ρ2 1 = ρ 1 := hG.2.1 1 (by decide)
  have r2 : ρ2 2 = ρ 2 := hG.2.1 2 (by decide)
  have dst : σ 93 23 = ρ2 4 := by
    have h := lw_d hG.1.2.2.2.2.1 (k := 93) (j := 23) (s := 4) (c := 0) (by decide +kernel) rfl
    rw [Int.add_zero] at h
    exact h
  have c12 : (-2147483648 : Int) ≤ ρ2 12 ∧ ρ2 12 ≤ 2147483647 := hG.1.1 12 (by decide)
  have d141 : σ 140 (ab_kv ρ2 2002001) = ρ2 12 + 0 := (hG.1.2.2.2.2.1 ((140, 2002001), (12, 0)) (by decide +kernel)).2.2
  have ar0 : fw_c (ρ2 12 + 0) = (ρ2 12 + 0) := fw_c_id (by omega) (by omega)
  refine db_cl (own := "NameNotesLaw") (cells := cells) (slots := slots) (nL := 8) (Ts := lw_tbl) (q := (187, 0, cd_340)) (mr := (⟨"NameNotes", "count", "(I)I"⟩, prog_1_method_59_code, 2, (Option.some Jvm.ClassFile.FieldType.int), 1, true, 0)) (lv := 0) (lev := 0) (as := [(2, 0, 0), (0, 12, 0)]) (rest := []) ⟨g1, g2⟩ hx hb hml hown2 hts hKK hN hF rfl hTT hAd (fun q hq => hq) rfl rfl (ab_mlk_mono (nn_PM0_ok (280, 0, 187) (by decide +kernel)) hTT) (hTT _ (nn_at_ok (i := 6079) (by decide +kernel))) (ct_340 l cy ad wr cr D hinj) (fm_count hinj) (by decide) (by decide) ⟨by decide, by decide⟩ rfl rfl (by decide) (by decide) lw_R_count_ok (show decode code 2745 = .ok (.invokevirtual 280, 3) by decide +kernel) hG (K := fun rv σ' => σ' = σ ∧ rv = some (0, 0, cq_v (σ 3 11) (σ 3 12) (σ 3 13) (σ 3 14) (σ 1 1) (fw_c (ρ2 12 + 0)))) (sk_count) ?_
  intro x hx9 ρ3 σ3 σf rv H1 locs1 st1 vr e1 hG3 hK hP hst
  have hv : vW σ3 σf := vW_of hG3.1.2.2.2.2.2.1 hG3.2.2.2.2.2.1 hP
  obtain ⟨w1, w2, w3, w4, w5, w6, w7⟩ := of_decide_eq_true (List.all_eq_true.mp lw_q_count x hx9)
  obtain ⟨hK1, hK2v⟩ := hK
  rw [hK1] at hv
  obtain ⟨y1, hy1⟩ := lw_top hG3.2.2.2.2.1 w2 w3
  have e140 : ∀ j : Nat, σ3 140 j = σ 140 j := fun j => mk_row hG3.1.2.2.2.2.2.2.2 w6 j
  have e23 : σ3 93 23 = ρ2 4 := (mk_at hG3.1.2.2.2.2.2.2.2 w7).trans dst
  have d131 : σ3 130 1 = 0 + 0 := by
    have h := lw_d hG3.1.2.2.2.2.1 w4 rfl
    rw [hG3.1.2.2.1] at h
    exact h
  have d132 : σ3 130 2 = 0 + 0 := by
    have h := lw_d hG3.1.2.2.2.2.1 w5 rfl
    rw [hG3.1.2.2.1] at h
    exact h
  rw [← e140] at d141
  have hkv3 : ∀ i : Nat, i < 3 → lw_v [0, ρ2 1, ρ2 2, ρ2 12, fw_c y1, σ3 93 23] i = ρ2 i := fun i hi => by
    rcases (show i = 0 ∨ i = 1 ∨ i = 2 by omega) with rfl | rfl | rfl
    · exact hG.1.2.2.1.symm
    · rfl
    · rfl
  have hm : ab_Gm cy ad wr cr D vwCl nn_sh nn_T nn_C 8 6 (lw_v [0, ρ2 1, ρ2 2, ρ2 12, fw_c y1, σ3 93 23]) σ3 (fun q : Nat => s.heap.size ≤ q) s.heap lw_M_count.2.1 (lw_v [0, ρ2 1, ρ2 2, ρ2 12, fw_c y1, σ3 93 23]) σ3 H1 locs1 ls st1 := by
    refine lw_re hG3 rfl (lw_B _ _ (lw_bc (Int.le_refl 0) (Int.le_refl 0) (lw_bc (by omega) (by omega) (lw_bc (by omega) (by omega) (lw_bc (by omega) (by omega) (lw_bc (lw_in y1).1 (lw_in y1).2 (lw_bc (by omega) (by omega) (lw_bn)))))))) (by
      show ∀ f ∈ ([(2, 1, (-7))] : ab_FT), _
      exact List.forall_mem_cons.mpr ⟨⟨by decide, by decide, (by show ρ2 2 - ρ2 1 ≤ -7; omega)⟩, fun _ h => absurd h List.not_mem_nil⟩) rfl (by decide) (by
      show ∀ d ∈ ([((130, 1), (0, 0)), ((130, 2), (0, 0)), ((93, 23), (5, 0)), ((140, 2002001), (3, 0))] : ab_DL), _
      exact List.forall_mem_cons.mpr ⟨lw_di (by decide) rfl d131, List.forall_mem_cons.mpr ⟨lw_di (by decide) rfl d132, List.forall_mem_cons.mpr ⟨lw_di (by decide) rfl (Int.add_zero _).symm, List.forall_mem_cons.mpr ⟨lw_dk (ρ0 := ρ2) (by decide) (Or.inr (by decide)) (by decide) hkv3 d141, fun _ h => absurd h List.not_mem_nil⟩⟩⟩⟩) (by decide) (lw_L hG3.2.2.2.1 w1 (show ρ2 2 = ρ3 2 from (e1 2 (by decide)).symm) (by decide)) ⟨?_, ?_⟩
    · rw [hy1]
      show [Value.int (Int32.ofInt y1)] = [Value.int (Int32.ofInt (fw_c y1 + 0))]
      rw [Int.add_zero, fw_c_of]
    · show ∀ a ∈ ([(0, 4, 0)] : List ab_AV), ab_sy 6 a
      exact List.forall_mem_cons.mpr ⟨(show 4 < 6 by decide), fun _ h => absurd h List.not_mem_nil⟩
  refine lw_go C1 hinj hcr hAd hKK hN hF (ρ := lw_v [0, ρ2 1, ρ2 2, ρ2 12, fw_c y1, σ3 93 23]) (σ := σ3) (by decide) (show ρ2 1 = (L : Int) from r1.trans h4) (fun j hj => (e140 j).trans (h5 j hj)) g1 g2 lw_cm_count (fun nd hnd => ?_) List.mem_cons_self hm
  rw [List.mem_singleton.mp hnd]
  intro ρ4 σ4 H locs ls st hG4
  rw [lw_nil hG4 rfl] at hG4
  have a0 : ρ4 3 = ρ2 12 := hG4.2.1 3 (by decide)
  refine db_cl (own := "NameNotesLaw") (cells := cells) (slots := slots) (nL := 8) (Ts := lw_tbl) (q := (354, 1, md_385)) (mr := (⟨"NameNotesModel", "count", "(I)I"⟩, prog_14_method_152_code, 2, (Option.some Jvm.ClassFile.FieldType.int), 1, true, 0)) (lv := 1) (lev := 1) (as := [(2, 93, 0), (0, 3, 0)]) (rest := []) ⟨g1, g2⟩ hx hb hml hown2 hts hKK hN hF rfl hTT hAd (fun q hq => hq) rfl rfl (ab_mlk_mono (nn_PM0_ok (283, 0, 354) (by decide +kernel)) hTT) (hTT _ (nn_at_ok (i := 10077) (by decide +kernel))) (mt_385 l cy ad wr cr D hinj) (fm_m_count hinj) (by decide) (by decide) ⟨by decide, by decide⟩ rfl rfl (by decide) (by decide) lw_T_count_ok (show decode code 2756 = .ok (.invokevirtual 283, 3) by decide +kernel) hG4 (K := fun rv σ' => ab_okM lm_M σ3 σ' ∧ ly_is σ3 σ' ∧ rv = some (0, 0, cq_v (σ' 95 0) (σ' 95 1) (σ' 95 2) (σ' 95 3) (σ' 93 2) (fw_c (ρ2 12 + 0)))) (by
    show sp_m_count [(2, 93, 0), (0, 0, ρ4 3 + 0)] σ3 _
    rw [a0]
    exact sm_count (cn_N hc) hR.1 (vw_W hv)) ?_
  intro x2 hx2 ρ5 σ5 σf2 rv2 H2 locs2 st2 vr2 e2 hG5 hK2 hP2 hst2
  have hv2 : vW σ5 σf2 := vW_of hG5.1.2.2.2.2.2.1 hG5.2.2.2.2.2.1 hP2
  have hok5 : ab_okR nn_T σ5 := hG5.1.2.2.2.2.2.1
  have hR5 : RQ σ5 := RQ_ask hc hR hv hK2.1 hK2.2.1 hv2
  obtain ⟨v1, v2, v3, v4, v5, v6, v7⟩ := of_decide_eq_true (List.all_eq_true.mp lw_p_count x2 hx2)
  have u140 : ∀ j : Nat, σ5 140 j = σ3 140 j := fun j => mk_row hG5.1.2.2.2.2.2.2.2 v6 j
  have u23 : 0 ≤ σ5 93 23 ∧ σ5 93 23 ≤ σ3 93 23 + 1 := by
    rw [mk_at hG5.1.2.2.2.2.2.2.2 v7]
    omega
  obtain ⟨y2, hy2⟩ := lw_top hG5.2.2.2.2.1 v2 v3
  have u131 : σ5 130 1 = 0 + 0 := by
    have h := lw_d hG5.1.2.2.2.2.1 v4 rfl
    rw [hG5.1.2.2.1] at h
    exact h
  have u132 : σ5 130 2 = 0 + 0 := by
    have h := lw_d hG5.1.2.2.2.2.1 v5 rfl
    rw [hG5.1.2.2.1] at h
    exact h
  have n22 : (0 : Int) ≤ σ5 93 22 ∧ σ5 93 22 ≤ 1 := by
    rcases hR5.1.2.1.2.2.2 with ⟨z, -⟩ | ⟨z, -⟩ <;> omega
  have ha : ab_Gm cy ad wr cr D vwCl nn_sh nn_T nn_C 8 10 (lw_v [0, ρ2 1, ρ2 2, σ5 1 1, σ5 93 23, σ5 93 22, σ5 95 0, σ5 95 1, σ5 95 2, σ5 95 3, fw_c y2]) σ5 (fun q : Nat => s.heap.size ≤ q) s.heap lw_A_count.2.1 (lw_v [0, ρ2 1, ρ2 2, σ5 1 1, σ5 93 23, σ5 93 22, σ5 95 0, σ5 95 1, σ5 95 2, σ5 95 3, fw_c y2]) σ5 H2 locs2 ls st2 := by
    refine lw_re hG5 rfl (lw_B _ _ (lw_bc (Int.le_refl 0) (Int.le_refl 0) (lw_bc (by omega) (by omega) (lw_bc (by omega) (by omega) (lw_bc hR5.1.1.2.1 hR5.1.1.2.2.1 (lw_bc u23.1 (by omega) (lw_bc n22.1 n22.2 (lw_bc (ab_rdT_ok (r := (0, 9)) (k := 95) (a := 0) (b := 0) (j := 0) hok5 (by decide +kernel) (Nat.le_refl _) (Nat.le_refl _)).1 (ab_rdT_ok (r := (0, 9)) (k := 95) (a := 0) (b := 0) (j := 0) hok5 (by decide +kernel) (Nat.le_refl _) (Nat.le_refl _)).2 (lw_bc (ab_rdT_ok (r := (0, 6)) (k := 95) (a := 1) (b := 1) (j := 1) hok5 (by decide +kernel) (Nat.le_refl _) (Nat.le_refl _)).1 (ab_rdT_ok (r := (0, 6)) (k := 95) (a := 1) (b := 1) (j := 1) hok5 (by decide +kernel) (Nat.le_refl _) (Nat.le_refl _)).2 (lw_bc (ab_rdT_ok (r := (0, 5)) (k := 95) (a := 2) (b := 2) (j := 2) hok5 (by decide +kernel) (Nat.le_refl _) (Nat.le_refl _)).1 (ab_rdT_ok (r := (0, 5)) (k := 95) (a := 2) (b := 2) (j := 2) hok5 (by decide +kernel) (Nat.le_refl _) (Nat.le_refl _)).2 (lw_bc (ab_rdT_ok (r := (0, 9)) (k := 95) (a := 3) (b := 3) (j := 3) hok5 (by decide +kernel) (Nat.le_refl _) (Nat.le_refl _)).1 (ab_rdT_ok (r := (0, 9)) (k := 95) (a := 3) (b := 3) (j := 3) hok5 (by decide +kernel) (Nat.le_refl _) (Nat.le_refl _)).2 (lw_bc (lw_in y2).1 (lw_in y2).2 (lw_bn))))))))))))) (by
      show ∀ f ∈ ([(2, 1, (-7)), (4, 2, 1)] : ab_FT), _
      exact List.forall_mem_cons.mpr ⟨⟨by decide, by decide, (by show ρ2 2 - ρ2 1 ≤ -7; omega)⟩, List.forall_mem_cons.mpr ⟨⟨by decide, by decide, (by show σ5 93 23 - ρ2 2 ≤ 1; omega)⟩, fun _ h => absurd h List.not_mem_nil⟩⟩) rfl (by decide) (by
      show ∀ d ∈ ([((1, 1), (3, 0)), ((93, 2), (3, 0)), ((93, 23), (4, 0)), ((130, 1), (0, 0)), ((130, 2), (0, 0)), ((93, 22), (5, 0)), ((95, 0), (6, 0)), ((95, 1), (7, 0)), ((95, 2), (8, 0)), ((95, 3), (9, 0))] : ab_DL), _
      exact List.forall_mem_cons.mpr ⟨lw_di (by decide) rfl (Int.add_zero _).symm, List.forall_mem_cons.mpr ⟨lw_di (by decide) rfl (hR5.1.1.1.symm.trans (Int.add_zero _).symm), List.forall_mem_cons.mpr ⟨lw_di (by decide) rfl (Int.add_zero _).symm, List.forall_mem_cons.mpr ⟨lw_di (by decide) rfl u131, List.forall_mem_cons.mpr ⟨lw_di (by decide) rfl u132, List.forall_mem_cons.mpr ⟨lw_di (by decide) rfl (Int.add_zero _).symm, List.forall_mem_cons.mpr ⟨lw_di (by decide) rfl (Int.add_zero _).symm, List.forall_mem_cons.mpr ⟨lw_di (by decide) rfl (Int.add_zero _).symm, List.forall_mem_cons.mpr ⟨lw_di (by decide) rfl (Int.add_zero _).symm, List.forall_mem_cons.mpr ⟨lw_di (by decide) rfl (Int.add_zero _).symm, fun _ h => absurd h List.not_mem_nil⟩⟩⟩⟩⟩⟩⟩⟩⟩⟩) (by decide) (lw_L hG5.2.2.2.1 v1 (show ρ2 2 = ρ5 2 from ((e2 2 (by decide)).trans (hG4.2.1 2 (by decide))).symm) (by decide)) ⟨?_, ?_⟩
    · rw [hy2]
      show [Value.int (Int32.ofInt y2)] = [Value.int (Int32.ofInt (fw_c y2 + 0))]
      rw [Int.add_zero, fw_c_of]
    · show ∀ a ∈ ([(0, 10, 0)] : List ab_AV), ab_sy 11 a
      exact List.forall_mem_cons.mpr ⟨(show 10 < 11 by decide), fun _ h => absurd h List.not_mem_nil⟩
  refine lw_go C1 hinj hcr hAd hKK hN hF (ρ := lw_v [0, ρ2 1, ρ2 2, σ5 1 1, σ5 93 23, σ5 93 22, σ5 95 0, σ5 95 1, σ5 95 2, σ5 95 3, fw_c y2]) (σ := σ5) (by decide) (show ρ2 1 = (L : Int) from r1.trans h4) (fun j hj => (u140 j).trans ((e140 j).trans (h5 j hj))) g1 g2 lw_ca_count (fun nd hnd => ?_) List.mem_cons_self ha
  rw [List.mem_singleton.mp hnd]
  refine hH (lw_v [0, ρ2 1, ρ2 2, σ5 1 1, σ5 93 23, σ5 93 22, σ5 95 0, σ5 95 1, σ5 95 2, σ5 95 3, fw_c y2]) σ5 r1 r2 (fun j hj => (u140 j).trans ((e140 j).trans (h5 j hj))) hR5 (fun j hj => ?_)
  rcases (show j = 0 ∨ j = 1 ∨ j = 2 ∨ j = 3 by omega) with rfl | rfl | rfl | rfl <;> rfl
