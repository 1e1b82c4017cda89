/-! contracts that read the texts, out of a run of their bodies; Text.addWord -/
theorem np_hold {l : Launch} {cy : Nat → ClassId} {ad wr cr av : Nat → Nat} {D : va_G} {own : String} {KI KJ : List (Nat × Int)} {PF : ab_PT} {PS : ab_PS} {PM : ab_PC2} {KS : ab_KS} {lev mn : Nat} {ct : ab_CN} {mr : ab_MR} {dt : ab_DT}
    (hinj : nn_inj ad) (hmr : nn_MT[mn]? = some mr) (hdt : nn_DT[mn]? = some dt)
    (hpre : ((1 : Nat).ble ct.2.1.length && (!mr.2.2.2.2.2.1 || nn_rcB vwCl nn_sh mr.1.cls ct.1) && (ab_cat ct.1).ble mr.2.2.1 && nn_rkB mr.2.2.2.2.2.2 mr.2.2.2.1 && plainName mr.1.cls && decide (mr.1.cls = own)) = true)
    (hKI : ∀ q ∈ KI, Jvm.Cond.constant own q.1 (Int32.ofInt q.2) ∈ nn_TT) (hKJ : ∀ q ∈ KJ, Jvm.Cond.constantLong own q.1 (Int64.ofInt q.2) ∈ nn_TT) (hPF : ∀ q ∈ PF, ab_fok vwCl nn_TT own q) (hPS : ∀ q ∈ PS, ab_psok nn_TT nn_kd own q) (hPM : ∀ q ∈ PM, ab_mlk nn_MT nn_TT nn_NW own q)
    (hKS : ∀ q ∈ KS, nn_H l cy ad wr cr D q)
    (body : ∀ (p : Program) (e : Env) (s : State) (m : MethodId) (below : List Frame) (meth : Method) (c : Code) (R : Room) (Q : State → Prop) (ρ : Nat → Int) (σ : ab_SG), R.frames = lev + 10 → R.locals = 40 * lev + 200 → nx_Z (ab_A ad nn_sh.length s.heap.size) s → nt_Z cr av (ab_A ad nn_sh.length s.heap.size) s →
      ab_Ev p l s m (ct.1.map (ab_V ad wr cr ρ)).toArray meth c mr.2.1 mr.2.2.1 lev R cy ad wr cr D vwCl nn_sh nn_T nn_C own (ab_A ad nn_sh.length s.heap.size) s.heap (Jvm.Cond.code mr.1 mr.2.1 mr.2.2.1 mr.2.2.2.1 :: nn_TT) nn_TT nn_NW nn_MT KI KJ PF nn_kd PS PM KS 0 ct.2.1.length ρ 0 0 dt σ →
      ab_K nn_T nn_C σ ct.2.1 ct.2.2.1 ct.2.2.2.1 [] ρ σ → (∀ a ∈ ct.1, ab_sy ct.2.1.length a) → va_P D vwCl (ab_WD cy ad wr nn_sh σ) s.heap →
      (∀ (pc : Nat) (X : ab_AS) (ρ2 : Nat → Int) (σ2 : ab_SG) (H : Heap) (locs : List Loc) (ls : Array Slot) (st : List Value) (i : Instr) (len : Nat), decode mr.2.1 pc = .ok (i, len) → ab_rt nn_T ct.2.1.length ct.2.2.2.2 mr.2.2.2.2.2.2 i len X = true → ab_Gm cy ad wr cr D vwCl nn_sh nn_T nn_C mr.2.2.1 ct.2.1.length ρ σ (ab_A ad nn_sh.length s.heap.size) s.heap X ρ2 σ2 H locs ls st → W p l e R s m (ct.1.map (ab_V ad wr cr ρ)).toArray below meth c H locs 0 0 Q (F0 m pc ls st)) →
      W p l e R s m (ct.1.map (ab_V ad wr cr ρ)).toArray below meth c s.heap [] 0 0 Q (entryFrame m (ct.1.map (ab_V ad wr cr ρ)).toArray mr.2.2.1)) :
    np_H l cy ad wr cr av D (mn, lev, ct) := by
  intro mr9 hmr9
  replace hmr9 : nn_MT[mn]? = some mr9 := hmr9
  rw [hmr] at hmr9
  cases hmr9
  rw [Bool.and_eq_true, Bool.and_eq_true, Bool.and_eq_true, Bool.and_eq_true, Bool.and_eq_true, Bool.or_eq_true, Bool.not_eq_true', decide_eq_true_eq] at hpre
  obtain ⟨⟨⟨⟨⟨h1, h2⟩, h3⟩, h4⟩, hy⟩, hown⟩ := hpre
  refine ⟨Nat.le_of_ble_eq_true h1, fun g => ?_, fun ρ σ sz hK hsy => ?_⟩
  · rcases h2 with h2 | h2
    · rw [g] at h2; cases h2
    · exact nn_rc_ok h2
  refine vx_ofW (cc := mr.2.1) (maxL := mr.2.2.1) (ret := mr.2.2.2.1) hy rfl ?_
  intro p e s m args below meth c s₁ B hml hex hv
  obtain ⟨rfl, hsz, hP, hKK, hN, hCB, hZ, hY⟩ := hv
  have hts := atoms_spec (ws := Jvm.Cond.code mr.1 mr.2.1 mr.2.2.1 mr.2.2.2.1 :: nn_TT) B.pre
  have hown2 : s.vm.findClass own = some m.cls := by rw [← hown]; exact findClass_of_methodNamed B.named
  subst hsz
  have hA : ∀ k, k < nn_sh.length → ab_A ad nn_sh.length s.heap.size (ad k) := fun k hk => Or.inl ⟨k, hk, rfl⟩
  have hsub : ∀ w ∈ nn_TT, w ∈ (Jvm.Cond.code mr.1 mr.2.1 mr.2.2.1 mr.2.2.2.1 :: nn_TT) := fun w hw => List.mem_cons_of_mem _ hw
  exact body p e s m below meth c (headSpec (Jvm.Cond.code mr.1 mr.2.1 mr.2.2.1 mr.2.2.2.1 :: nn_TT) (np_room lev)).room _ ρ σ rfl rfl hZ hY
    ⟨B.exec, B.bytes, hml, hown2, hts, hKK, hN, fun w hw => ⟨hsub w hw, nn_TT_good w hw⟩, nn_MT_code, hA, fun q hq => Or.inr hq, fun q hq => ab_mlk_mono (hPM q hq) hsub, hKS, ⟨Nat.le_add_right lev 10, Nat.le_trans (Nat.le_refl _) (Nat.le_add_right (40 * lev) 200)⟩, fun q hq => hts _ (hsub _ (hKI q hq)), fun q hq => hts _ (hsub _ (hKJ q hq)), fun q hq => ab_fok_mono (hPF q hq) hsub, ab_WD_D hinj hA, hCB, rfl, fun q hq => ab_psok_mono (hPS q hq) hsub, ⟨Nat.zero_le _, Nat.zero_le _⟩, (fun q => by cases q), nn_DT_ok hmr hdt⟩
    hK hsy hP (fun pc X ρ2 σ2 H locs ls2 st i len hd hr hG => vx_ret (ab_rt_ok B.exec B.bytes B.returns (nn_rk_ok h4) B.notSynchronized hr hd hG))
/-- Text.addWord of the k-th of what never changes -/
def aw_M : ab_ML := [(87, 1), (88, 1000000)]
def aw_d (k : Nat) : ab_CN := ([(2, 87, 0), (5, k, 0)], [(0, 0)], [], [], [([], [(0, 0)], [], [], aw_M)])
def aw_L (k : Nat) (j : Int) : ab_LS := [(2, (0, 0, j)), (0, (2, 87, 0)), (1, (5, k, 0))]
def aw_H (k : Nat) (j : Int) : ab_AS := (aw_L k j, [], [(0, 0)], [], [], aw_M)
def aw_A (k : Nat) (j : Int) : ab_AS := (aw_L k j, [(5, k, 0), (0, 0, j)], [(0, 0)], [], [], aw_M)
def aw_B (k : Nat) (j : Int) : ab_AS := (aw_L k j, [(0, 0, 5), (0, 0, j)], [(0, 0)], [], [], aw_M)
def aw_C (k : Nat) (j : Int) : ab_AS := (aw_L k j, [(0, 0, j), (5, k, 0), (2, 87, 0)], [(0, 0)], [], [], aw_M)
def aw_D (k : Nat) (j : Int) : ab_AS := (aw_L k j, [(0, 1, 0), (2, 87, 0)], [(0, 0), ((-2147483648), 2147483647)], [], [], aw_M)
def aw_K : ab_KS := [(122, 1, cd_136)]
abbrev aw_ck (k : Nat) (EX NS : List ab_ND) : Bool := NS.all (ab_cn vwCl nn_T nn_C nn_sh nn_MT (nn_KI11.map (fun x => x.1)) (nn_KJ11.map (fun x => x.1)) (nn_PF11.map (fun x => x.1)) nn_kd (nn_PS11.map (fun x => x.1)) (nn_PM11.map (fun x => x.1)) aw_K 6 0 nn_dt110 3 1 (aw_d k).2.2.2.2 4 [] [2, 4, 7, 13, 16] [] EX NS 20)
abbrev aw_E (k : Nat) : ab_ND := nq_nd 0 (ab_en0 0 (aw_d k).1, [], (aw_d k).2.1, (aw_d k).2.2.1, (aw_d k).2.2.2.1, [])
theorem aw_ok : ∀ i, i < 2 → aw_ck (3 + i) [nq_nd 2 (aw_H (3 + i) 0)] [aw_E (3 + i)] = true ∧ (∀ j, j < 6 → aw_ck (3 + i) [nq_nd 4 (aw_A (3 + i) (j : Nat))] [nq_nd 2 (aw_H (3 + i) (j : Nat))] = true) ∧ (∀ j, j < 5 → aw_ck (3 + i) [nq_nd 13 (aw_C (3 + i) (j : Nat))] [nq_nd 7 (aw_B (3 + i) (j : Nat))] = true) ∧ aw_ck (3 + i) [] [nq_nd 7 (aw_B (3 + i) 5)] = true ∧ (∀ j, j < 5 → aw_ck (3 + i) [nq_nd 2 (aw_H (3 + i) ((j + 1 : Nat)))] [nq_nd 16 (aw_D (3 + i) (j : Nat))] = true) := by decide +kernel
set_option maxHeartbeats 8000000 in
theorem aw_held (l : Launch) (cy : Nat → ClassId) (ad wr cr av : Nat → Nat) (D : va_G) (hinj : nn_inj ad) {i : Nat} (hi : i < 2) : np_H l cy ad wr cr av D (110, 6, aw_d (3 + i)) := by
  refine np_hold (mr := (⟨"NameNotes$Text", "addWord", "(Ljava/lang/String;)V"⟩, prog_11_method_4_code, 3, (Option.none : Option Jvm.ClassFile.FieldType), 1, true, 4)) (dt := nn_dt110) (own := "NameNotes$Text") (KS := aw_K) hinj rfl rfl (by rcases (show i = 0 ∨ i = 1 by omega) with rfl | rfl <;> decide +kernel) nn_KI11_ok nn_KJ11_ok nn_PF11_ok nn_PS11_ok nn_PM11_ok (List.forall_mem_cons.mpr ⟨ct_136 l cy ad wr cr D hinj, fun _ h => absurd h List.not_mem_nil⟩) ?_
  intro p e s m below meth c R Q ρ σ hR1 hR2 hZ hY hE hK hsy hP hRT
  obtain ⟨k0, k1, k2, k3, k4⟩ := aw_ok i hi
  have hE2 := hE
  obtain ⟨hx, hb, hml, hown, hts, hKK, hN, hTTg, -⟩ := hE2
  have hsub : ∀ w ∈ nn_TT, w ∈ (Jvm.Cond.code (⟨"NameNotes$Text", "addWord", "(Ljava/lang/String;)V"⟩ : MethodName) prog_11_method_4_code 3 (Option.none : Option Jvm.ClassFile.FieldType) :: nn_TT) := fun w hw => List.mem_cons_of_mem _ hw
  have loop : ∀ t : Nat, t ≤ 5 → ∀ (ρ2 : Nat → Int) (σ2 : ab_SG) (H : Heap) (locs : List Loc) (ls : Array Slot) (st : List Value), ab_Gm cy ad wr cr D vwCl nn_sh nn_T nn_C 3 (aw_d (3 + i)).2.1.length ρ σ (ab_A ad nn_sh.length s.heap.size) s.heap (aw_H (3 + i) ((5 - t : Nat))) ρ2 σ2 H locs ls st → W p l e R s m ((aw_d (3 + i)).1.map (ab_V ad wr cr ρ)).toArray below meth c H locs 0 0 Q (F0 m 2 ls st) := by
    intro t
    induction t with
    | zero =>
      intro _ ρ2 σ2 H locs ls st hG
      refine ab_nodes_ok (EX := [nq_nd 4 (aw_A (3 + i) ((5 - 0 : Nat)))]) (NS := [nq_nd 2 (aw_H (3 + i) ((5 - 0 : Nat)))]) hE hRT (fun nd hnd => ?_) (List.all_eq_true.mp (k1 (5 - 0) (by omega))) _ List.mem_cons_self ρ2 σ2 H locs ls st hG
      rw [List.mem_singleton.mp hnd]
      intro ρ3 σ3 H locs ls st hG
      obtain ⟨g1, g2, g3, g4, g5, g6, g7⟩ := hG
      have h0 : ρ3 0 = 0 := g1.2.2.1
      have hst : st = [.ref (cr (3 + i)), .int (Int32.ofInt ((5 - 0 : Nat) : Int))] := by
        rw [g5.1]
        show [Value.ref (cr (3 + i)), .int (Int32.ofInt (ρ3 0 + ((5 - 0 : Nat) : Int)))] = _
        rw [h0, Int.zero_add]
      subst hst
      refine ns_V (as := []) (rest := [.int (Int32.ofInt ((5 - 0 : Nat) : Int))]) (own := "NameNotes$Text") (mr := nr_len) (mn := 111) (d := 2) ⟨Nat.zero_le _, Nat.zero_le _⟩ hx hb hml hown hts hsub rfl rfl (ab_mlk_mono (nn_PM11_ok (23, 0, 111) (by decide +kernel)) hsub) (hsub _ (nn_at_ok (i := 4183) (by decide +kernel))) (nc_len l cr av hi) hY (ns_recv hY g7 hi) ⟨by rw [hR1]; decide, by rw [hR2]; decide⟩ (by decide) rfl g4.1.1 (Nat.le_of_ble_eq_true rfl) (show decode prog_11_method_4_code 4 = .ok (.invokevirtual 23, 3) by decide +kernel) g7 ?_
      intro v H1 locs1 hv hq1 hS1
      subst hv
      refine ab_nodes_ok (EX := []) (NS := [nq_nd 7 (aw_B (3 + i) 5)]) hE hRT nh_nil (List.all_eq_true.mp k3) _ List.mem_cons_self ρ3 σ3 H1 locs1 ls _ ⟨g1, g2, g3, g4, ⟨?_, List.forall_mem_cons.mpr ⟨Nat.zero_lt_one, List.forall_mem_cons.mpr ⟨Nat.zero_lt_one, nh_nil⟩⟩⟩, g6.kept (fun k q hk => hq1 _ (vx_lt g6 hk)), hS1⟩
      show [Value.int 5, .int (Int32.ofInt ((5 - 0 : Nat) : Int))] = [Value.int (Int32.ofInt (ρ3 0 + 5)), .int (Int32.ofInt (ρ3 0 + 5))]
      rw [h0]
      rfl
    | succ t ih =>
      intro ht ρ2 σ2 H locs ls st hG
      obtain ⟨j, hj, hj5, hj1⟩ : ∃ j : Nat, 5 - (t + 1) = j ∧ j < 5 ∧ 5 - t = j + 1 := ⟨_, rfl, by omega, by omega⟩
      rw [hj] at hG
      rw [hj1] at ih
      refine ab_nodes_ok (EX := [nq_nd 4 (aw_A (3 + i) (j : Nat))]) (NS := [nq_nd 2 (aw_H (3 + i) (j : Nat))]) hE hRT (fun nd hnd => ?_) (List.all_eq_true.mp (k1 j (by omega))) _ List.mem_cons_self ρ2 σ2 H locs ls st hG
      rw [List.mem_singleton.mp hnd]
      intro ρ3 σ3 H locs ls st hG
      obtain ⟨g1, g2, g3, g4, g5, g6, g7⟩ := hG
      have h0 : ρ3 0 = 0 := g1.2.2.1
      have hst : st = [.ref (cr (3 + i)), .int (Int32.ofInt (j : Int))] := by
        rw [g5.1]
        show [Value.ref (cr (3 + i)), .int (Int32.ofInt (ρ3 0 + (j : Int)))] = _
        rw [h0, Int.zero_add]
      subst hst
      refine ns_V (as := []) (rest := [.int (Int32.ofInt (j : Int))]) (own := "NameNotes$Text") (mr := nr_len) (mn := 111) (d := 2) ⟨Nat.zero_le _, Nat.zero_le _⟩ hx hb hml hown hts hsub rfl rfl (ab_mlk_mono (nn_PM11_ok (23, 0, 111) (by decide +kernel)) hsub) (hsub _ (nn_at_ok (i := 4183) (by decide +kernel))) (nc_len l cr av hi) hY (ns_recv hY g7 hi) ⟨by rw [hR1]; decide, by rw [hR2]; decide⟩ (by decide) rfl g4.1.1 (Nat.le_of_ble_eq_true rfl) (show decode prog_11_method_4_code 4 = .ok (.invokevirtual 23, 3) by decide +kernel) g7 ?_
      intro v H1 locs1 hv hq1 hS1
      subst hv
      refine ab_nodes_ok (EX := [nq_nd 13 (aw_C (3 + i) (j : Nat))]) (NS := [nq_nd 7 (aw_B (3 + i) (j : Nat))]) hE hRT (fun nd hnd => ?_) (List.all_eq_true.mp (k2 j hj5)) _ List.mem_cons_self ρ3 σ3 H1 locs1 ls _ ⟨g1, g2, g3, g4, ⟨?_, List.forall_mem_cons.mpr ⟨Nat.zero_lt_one, List.forall_mem_cons.mpr ⟨Nat.zero_lt_one, nh_nil⟩⟩⟩, g6.kept (fun k q hk => hq1 _ (vx_lt g6 hk)), hS1⟩
      · rw [List.mem_singleton.mp hnd]
        intro ρ4 σ4 H locs ls st hG
        obtain ⟨z1, z2, z3, z4, z5, z6, z7⟩ := hG
        have h4 : ρ4 0 = 0 := z1.2.2.1
        have hst : st = [.int (Int32.ofNat j), .ref (cr (3 + i)), .ref (ad 87)] := by
          rw [z5.1]
          show [Value.int (Int32.ofInt (ρ4 0 + (j : Int))), .ref (cr (3 + i)), .ref (ad 87)] = _
          rw [h4, Int.zero_add]
          rfl
        subst hst
        refine ns_V (as := [.int (Int32.ofNat j)]) (rest := [.ref (ad 87)]) (own := "NameNotes$Text") (mr := nr_chr) (mn := 113) (d := 4) ⟨Nat.zero_le _, Nat.zero_le _⟩ hx hb hml hown hts hsub rfl rfl (ab_mlk_mono (nn_PM11_ok (29, 0, 113) (by decide +kernel)) hsub) (hsub _ (nn_at_ok (i := 4193) (by decide +kernel))) (nc_chr l cr av hi hj5) hY (ns_recv hY z7 hi) ⟨by rw [hR1]; decide, by rw [hR2]; decide⟩ (by decide) rfl z4.1.1 (Nat.le_of_ble_eq_true rfl) (show decode prog_11_method_4_code 13 = .ok (.invokevirtual 29, 3) by decide +kernel) z7 ?_
        intro v H2 locs2 hv hq2 hS2
        obtain ⟨z, rfl⟩ := hv
        have hz1 : (-2147483648 : Int) ≤ z.toInt := Int32.le_toInt z
        have hz2 : z.toInt ≤ 2147483647 := Int.le_of_lt_add_one (Int32.toInt_lt z)
        have hK9 := ab_K_fresh (v := z.toInt) (l := -2147483648) (u := 2147483647) z1 hz1 hz2 [] nh_nil
        have hag : ∀ q : Nat, q < 1 → (fun q => if q = 1 then z.toInt else ρ4 q) q = ρ4 q := fun q hq => if_neg (by omega)
        refine ab_nodes_ok (EX := [nq_nd 2 (aw_H (3 + i) ((j + 1 : Nat)))]) (NS := [nq_nd 16 (aw_D (3 + i) (j : Nat))]) hE hRT (fun nd hnd => ?_) (List.all_eq_true.mp (k4 j hj5)) _ List.mem_cons_self (fun q => if q = 1 then z.toInt else ρ4 q) σ4 H2 locs2 ls _ ⟨hK9, fun q hq => (hag q hq).trans (z2 q hq), Nat.le_succ 1, ab_okL_ext z4 (Nat.le_succ 1) hag, ⟨?_, List.forall_mem_cons.mpr ⟨Nat.lt_succ_self 1, List.forall_mem_cons.mpr ⟨trivial, nh_nil⟩⟩⟩, z6.kept (fun k q hk => hq2 _ (vx_lt z6 hk)), hS2⟩
        · rw [List.mem_singleton.mp hnd]
          exact fun ρ5 σ5 H locs ls st hG => ih (by omega) ρ5 σ5 H locs ls st hG
        · show [Value.int z, .ref (ad 87)] = [Value.int (Int32.ofInt (z.toInt + 0)), .ref (ad 87)]
          rw [Int.add_zero, Int32.ofInt_toInt]
      · show [Value.int 5, .int (Int32.ofInt (j : Int))] = [Value.int (Int32.ofInt (ρ3 0 + 5)), .int (Int32.ofInt (ρ3 0 + (j : Int)))]
        rw [h0, Int.zero_add, Int.zero_add]
        rfl
  refine ab_entry (lev := 6) (sp := []) (HD := [2, 4, 7, 13, 16]) (HN := []) (EX := [nq_nd 2 (aw_H (3 + i) 0)]) (NS := [aw_E (3 + i)]) (fuel := 20) (mu := ((0, [], []), (0, [], []), (0, [], []))) hE (Nat.le_refl 2 |> fun _ => by rfl) hK hsy hP List.mem_cons_self hRT (fun nd hnd => ?_) (List.all_eq_true.mp k0)
  rw [List.mem_singleton.mp hnd]
  exact fun ρ5 σ5 H locs ls st hG => loop 5 (Nat.le_refl 5) ρ5 σ5 H locs ls st hG
