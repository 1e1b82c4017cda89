/-! the law, turn by turn -/
theorem lw_cut {cy : Nat → ClassId} {ad wr cr : Nat → Nat} {D : va_G} {nL n0 : Nat} {ρ0 : Nat → Int} {σ0 : ab_SG} {A : Nat → Prop} {H0 : Heap} {X : ab_AS} {ρ : Nat → Int} {σ : ab_SG} {H : Heap} {locs : List Loc} {ls : Array Slot} {st : List Value} {s : Nat} {l h : Int} (hG : ab_Gm cy ad wr cr D vwCl nn_sh nn_T nn_C nL n0 ρ0 σ0 A H0 X ρ σ H locs ls st) (h1 : l ≤ ρ s) (h2 : ρ s ≤ h) :
    ab_Gm cy ad wr cr D vwCl nn_sh nn_T nn_C nL n0 ρ0 σ0 A H0 (X.1, X.2.1, X.2.2.1.set s (l, h), X.2.2.2.1, X.2.2.2.2.1, X.2.2.2.2.2) ρ σ H locs ls st := by
  obtain ⟨⟨k1, k2, k3, k4, k5, k6, k7, k8⟩, g2, g3, g4, g5, g6, g7⟩ := hG
  have e : (X.2.2.1.set s (l, h)).length = X.2.2.1.length := List.length_set
  refine ⟨⟨ab_okB_set k1 s (fun _ => ⟨h1, h2⟩), ?_, k3, ?_, ?_, k6, k7, k8⟩, g2, ?_, ?_, ?_, g6, g7⟩
  · show ab_okF (X.2.2.1.set s (l, h)).length _ _
    rw [e]; exact k2
  · show 0 < (X.2.2.1.set s (l, h)).length
    rw [e]; exact k4
  · show ab_okD (X.2.2.1.set s (l, h)).length _ _ _
    rw [e]; exact k5
  · show n0 ≤ (X.2.2.1.set s (l, h)).length
    rw [e]; exact g3
  · show ab_okL _ _ _ (X.2.2.1.set s (l, h)).length _ _ _ _
    rw [e]; exact g4
  · show ab_okS _ _ _ (X.2.2.1.set s (l, h)).length _ _ _
    rw [e]; exact g5
def lw_E : ab_AS := (lw_X.2.1.1, lw_X.2.1.2.1, lw_X.2.1.2.2.1, lw_X.2.1.2.2.2.1, lw_X.2.1.2.2.2.2.1, [])
def lw_hit : ab_BD × ab_TH := (ab_hit0 nn_T 2 lw_E lw_S).getD ([], [])
theorem nq_someD {α : Type} {o : Option α} {d : α} (h : o.isSome = true) : o = some (o.getD d) := by
  cases o with
  | none => cases h
  | some a => rfl
theorem lw_hit_ok : ab_hit0 nn_T 2 lw_E lw_S = some (lw_hit.1, lw_hit.2) := nq_someD (d := ([], [])) (by decide +kernel)
theorem lw_th1 : lw_hit.2[1]? = some (1, 0) := by decide +kernel
theorem lw_th2 : lw_hit.2[2]? = some (3, 0) := by decide +kernel
theorem lw_M140 : lw_X.2.1.2.2.2.2.2.all (fun q => !(q.1.beq 140)) = true := by decide +kernel
set_option maxHeartbeats 8000000 in
theorem lw_turns {p : Program} {e : Env} {s : State} {m : MethodId} {below : List Frame} {meth : Method} {c : Code} (l : Launch) (htr : l.stackTraces = false) {b L : Nat} {xs : Nat → Int32} (C0 : lw_At p s m meth c b L xs) {cy : Nat → ClassId} {ad wr cr av : Nat → Nat} {D : va_G} (hinj : nn_inj ad) (hcr : cr 999 = b) (hAd : ∀ k, k < nn_sh.length → s.heap.size ≤ ad k) (hKK : va_K D vwCl (ab_tys cy) s) (hN : ab_okN nn_NW s) (hCB : ab_CB cy ad wr cr nn_kd (fun q : Nat => s.heap.size ≤ q) s) (hZ : nx_Z (fun q : Nat => s.heap.size ≤ q) s) (hY : nt_Z cr av (fun q : Nat => s.heap.size ≤ q) s) (hplay : np_H l cy ad wr cr av D (108, 12, npd_play)) :
    ∀ (n : Nat) (cells slots : Nat) (ρ : Nat → Int) (σ : ab_SG) (H : Heap) (locs : List Loc) (ls : Array Slot) (st : List Value), 3584 - ρ 2 < (n : Int) → cells + n ≤ 601024 → slots + 6 * n ≤ 7293034 → ρ 1 = (L : Int) → (∀ j : Nat, j < L → σ 140 j = (xs j).toInt) → ab_Gm cy ad wr cr D vwCl nn_sh nn_T nn_C 8 3 ρ σ (fun q : Nat => s.heap.size ≤ q) s.heap lw_S.2.1 ρ σ H locs ls st → W p l e room_1 s m #[Value.ref b] below meth c H locs cells slots (lw_Z below #[Value.ref b] s) (F0 m 23 ls st) := by
  obtain ⟨hx, hb, hr, hml, hown, hts, hX, hbl, hlocks, hgv⟩ := C0
  have hown2 : s.vm.findClass "NameNotesLaw" = some m.cls := hown
  have hTT : ∀ w ∈ nn_TT, w ∈ lw_tbl := fun w hw => (List.mem_filter.mp hw).1
  intro n
  induction n with
  | zero =>
    intro cells slots ρ σ H locs ls st h1 _ _ _ _ hG
    have := (hG.1.1 2 (by decide)).2
    exact absurd h1 (by
      have h9 : ab_hi lw_S.2.1.2.2.1 2 = 3584 := by decide +kernel
      rw [h9] at this
      omega)
  | succ n ih =>
    intro cells slots ρ σ H locs ls st h1 h2 h3 h4 h5 hG
    have hEv : ∀ cells slots, cells ≤ 601024 → slots ≤ 7293034 → ab_Ev p l s m #[Value.ref b] meth c code 8 82 room_1 cy ad wr cr D vwCl nn_sh nn_T nn_C "NameNotesLaw" (fun q : Nat => s.heap.size ≤ q) s.heap lw_tbl nn_TT nn_NW nn_MT (nn_KI0.map (fun x => x.1)) (nn_KJ0.map (fun x => x.1)) (nn_PF0.map (fun x => x.1)) nn_kd (nn_PS0.map (fun x => x.1)) (nn_PM0.map (fun x => x.1)) lw_K 1 3 ρ cells slots nq_dt_law σ := by
      intro cells slots g1 g2
      exact ⟨hx, hb, hml, hown2, hts, hKK, hN, fun w hw => ⟨hTT w hw, nn_TT_good w hw⟩, nn_MT_code, hAd, fun q hq => hq, fun q hq => ab_mlk_mono (nn_PM0_ok q hq) hTT, lw_K_ok l cy ad wr cr D hinj, ⟨by decide, by decide⟩, fun q hq => hts _ (hTT _ (nn_KI0_ok q hq)), fun q hq => hts _ (hTT _ (nn_KJ0_ok q hq)), fun q hq => ab_fok_mono (nn_PF0_ok q hq) hTT, ab_WD_D hinj hAd, hCB, rfl, fun q hq => ab_psok_mono (nn_PS0_ok q hq) hTT, ⟨g1, g2⟩, fun _ => ⟨L, xs, by rw [hcr]; exact hX, by rw [hcr]; exact hbl, by rw [hcr]; exact Nat.not_le.mpr hbl, h4, by decide, h5⟩, nq_dt_law_ok⟩
    have hRT : ∀ (c2 s2 : Nat) (pc : Nat) (X : ab_AS) (ρ2 : Nat → Int) (σ2 : ab_SG) (H : Heap) (locs : List Loc) (ls : Array Slot) (st : List Value) (i : Instr) (len : Nat), decode code pc = .ok (i, len) → ab_rt nn_T 3 [] 0 i len X = true → ab_Gm cy ad wr cr D vwCl nn_sh nn_T nn_C 8 3 ρ σ (fun q : Nat => s.heap.size ≤ q) s.heap X ρ2 σ2 H locs ls st → W p l e room_1 s m #[Value.ref b] below meth c H locs c2 s2 (lw_Z below #[Value.ref b] s) (F0 m pc ls st) := by
      intro c2 s2 pc X ρ2 σ2 H locs ls st i len _ hr9 _
      unfold ab_rt at hr9
      rw [Bool.and_eq_true] at hr9
      cases hr9.2
    have hhead : ∀ c2 s2 : Nat, c2 ≤ cells + 1 → s2 ≤ slots + 6 → ∀ (ρ2 : Nat → Int) (σ2 : ab_SG) (H : Heap) (locs : List Loc) (ls : Array Slot) (st : List Value), ab_Gm cy ad wr cr D vwCl nn_sh nn_T nn_C 8 3 ρ σ (fun q : Nat => s.heap.size ≤ q) s.heap lw_X.2.1 ρ2 σ2 H locs ls st → W p l e room_1 s m #[Value.ref b] below meth c H locs c2 s2 (lw_Z below #[Value.ref b] s) (F0 m 23 ls st) := by
      intro c2 s2 g1 g2 ρ2 σ2 H locs ls st hG2
      obtain ⟨q1, q2, q3, q4, q5, q6, q7⟩ := hG2
      have hG3 : ab_Gm cy ad wr cr D vwCl nn_sh nn_T nn_C 8 2 ρ2 σ2 (fun q : Nat => s.heap.size ≤ q) s.heap lw_E ρ2 σ2 H locs ls st := ⟨ab_K_start q1, fun _ _ => rfl, by decide +kernel, q4, q5, q6, q7⟩
      obtain ⟨ρ1, k1, k2, k3, k4, k5, k6⟩ := ab_hit0_ok lw_hit_ok hG3
      obtain ⟨z1, z2, z3, z4, z5, z6, z7⟩ := k6
      have e1 : ab_thv lw_hit.2 ρ1 1 = ρ2 1 := by
        unfold ab_thv
        rw [lw_th1]
        show ρ1 1 + 0 = _
        rw [Int.add_zero, k2 1 (by decide +kernel)]
      have e2 : ab_thv lw_hit.2 ρ1 2 = ρ2 3 := by
        unfold ab_thv
        rw [lw_th2]
        show ρ1 3 + 0 = _
        rw [Int.add_zero, k2 3 (by decide +kernel)]
      have f1 : ρ2 2 - ρ2 3 ≤ -1 := (q1.2.1 (2, 3, -1) (by decide +kernel)).2.2
      have f2 : ρ2 2 = ρ 2 := q2 2 (by decide)
      have f3 : ρ2 1 = ρ 1 := q2 1 (by decide)
      refine ih c2 s2 (ab_thv lw_hit.2 ρ1) σ2 H locs ls st (by rw [e2]; omega) (by omega) (by omega) (by rw [e1, f3]; exact h4) (fun j hj => ?_) ⟨z1, fun _ _ => rfl, by decide +kernel, z4, z5, z6, z7⟩
      rw [← h5 j hj]
      refine q1.2.2.2.2.2.2.2 140 j (fun q hq hh => ?_)
      have := List.all_eq_true.mp lw_M140 q hq
      rw [hh.1] at this
      cases this
    have haft : ∀ (pcB : Nat) (RR : List ab_AS), (RR.map (nq_nd pcB)).all (ab_cn vwCl nn_T nn_C nn_sh nn_MT (nn_KI0.map (fun x => x.1)) (nn_KJ0.map (fun x => x.1)) (nn_PF0.map (fun x => x.1)) nn_kd (nn_PS0.map (fun x => x.1)) (nn_PM0.map (fun x => x.1)) lw_K 82 1 nq_dt_law 8 3 [] 0 [] [23, 33, 396, 813, 883, 1063, 1200, 1332, 1409, 1589, 1879, 1942, 2010, 2445, 2770] [(33, [(5, 0, 0, 0)]), (396, [(9, 40, 0, 0), (5, 0, 0, 0)])] [lw_X] (RR.map (nq_nd pcB)) 76) = true → ∀ c2 s2 : Nat, c2 ≤ cells + 1 → s2 ≤ slots + 6 → ∀ x ∈ RR, ∀ (ρ2 : Nat → Int) (σ2 : ab_SG) (H : Heap) (locs : List Loc) (ls : Array Slot) (st : List Value), ab_Gm cy ad wr cr D vwCl nn_sh nn_T nn_C 8 3 ρ σ (fun q : Nat => s.heap.size ≤ q) s.heap x ρ2 σ2 H locs ls st → W p l e room_1 s m #[Value.ref b] below meth c H locs c2 s2 (lw_Z below #[Value.ref b] s) (F0 m pcB ls st) := by
      intro pcB RR hck c2 s2 g1 g2 x hx9 ρ2 σ2 H locs ls st hG2
      refine ab_nodes_ok (EX := [lw_X]) (NS := RR.map (nq_nd pcB)) (hEv c2 s2 (by omega) (by omega)) (hRT c2 s2) (fun nd hnd => ?_) (List.all_eq_true.mp hck) (nq_nd pcB x) (List.mem_map.mpr ⟨x, hx9, rfl⟩) ρ2 σ2 H locs ls st hG2
      rw [List.mem_singleton.mp hnd]
      exact fun ρ2 σ2 H locs ls st hG2 => hhead c2 s2 g1 g2 ρ2 σ2 H locs ls st hG2
    refine ab_nodes_ok (EX := [lw_X, lw_X813, lw_X883, lw_X1063, lw_X1200, lw_X1332, lw_X1409, lw_X1589, lw_X1879, lw_X1942, lw_X2010, lw_X2445, lw_X2770]) (NS := [lw_S]) (hEv cells slots (by omega) (by omega)) (hRT cells slots) (fun nd hnd => ?_) (List.all_eq_true.mp lw_ck) lw_S List.mem_cons_self ρ σ H locs ls st hG
    rcases List.mem_cons.mp hnd with rfl | hnd
    · exact fun ρ2 σ2 H locs ls st hG2 => hhead cells slots (Nat.le_succ _) (Nat.le_add_right _ _) ρ2 σ2 H locs ls st hG2
    rcases List.mem_cons.mp hnd with rfl | hnd
    · exact fun ρ2 σ2 H locs ls st hG2 => nq_cl (own := "NameNotesLaw") (cells := cells) (slots := slots) (nL := 8) (Ts := lw_tbl) (na := 7) (rest := []) ⟨(show cells + 1 ≤ 601024 by omega), (show slots + 6 ≤ 7293034 by omega)⟩ hx hb hml hown2 hts hKK hN hCB hZ rfl hTT hAd (fun q hq => hq) (nqh_named l htr cy ad wr cr D hinj) (nn_at_ok (i := 6085) (by decide +kernel)) (nn_at_ok (i := 1000) (by decide +kernel)) ⟨by decide, by decide⟩ (by decide +kernel) (nn_at_ok (i := 6083) (by decide +kernel)) (nn_at_ok (i := 6084) (by decide +kernel)) ⟨by decide, by decide⟩ (as := [(2, 0, 0), (0, 7, 0), (0, 8, 0), (0, 9, 0), (0, 10, 0), (0, 11, 0), (2, 122, 0)]) rfl rfl (by decide) (by decide) lw_R813_ok (show decode code 813 = .ok (.invokestatic 105, 3) by decide +kernel) hG2
        (fun x hx9 ρ3 σ3 H1 locs1 st1 _ hG3 => haft 816 lw_R813 lw_c813 (cells + 1) (slots + 6) (Nat.le_refl _) (Nat.le_refl _) x hx9 ρ3 σ3 H1 locs1 ls st1 hG3)
    rcases List.mem_cons.mp hnd with rfl | hnd
    · exact fun ρ2 σ2 H locs ls st hG2 => nq_cl (own := "NameNotesLaw") (cells := cells) (slots := slots) (nL := 8) (Ts := lw_tbl) (na := 6) (rest := []) ⟨(show cells + 1 ≤ 601024 by omega), (show slots + 6 ≤ 7293034 by omega)⟩ hx hb hml hown2 hts hKK hN hCB hZ rfl hTT hAd (fun q hq => hq) (nqh_odds l htr cy ad wr cr D hinj) (nn_at_ok (i := 6177) (by decide +kernel)) (nn_at_ok (i := 1000) (by decide +kernel)) ⟨by decide, by decide⟩ (by decide +kernel) (nn_at_ok (i := 6175) (by decide +kernel)) (nn_at_ok (i := 6176) (by decide +kernel)) ⟨by decide, by decide⟩ (as := [(2, 0, 0), (0, 7, 0), (0, 8, 0), (0, 9, 0), (0, 10, 0), (2, 122, 0)]) rfl rfl (by decide) (by decide) lw_R883_ok (show decode code 883 = .ok (.invokestatic 111, 3) by decide +kernel) hG2
        (fun x hx9 ρ3 σ3 H1 locs1 st1 _ hG3 => haft 886 lw_R883 lw_c883 (cells + 1) (slots + 6) (Nat.le_refl _) (Nat.le_refl _) x hx9 ρ3 σ3 H1 locs1 ls st1 hG3)
    rcases List.mem_cons.mp hnd with rfl | hnd
    · exact fun ρ2 σ2 H locs ls st hG2 => nq_cl (own := "NameNotesLaw") (cells := cells) (slots := slots) (nL := 8) (Ts := lw_tbl) (na := 7) (rest := []) ⟨(show cells + 1 ≤ 601024 by omega), (show slots + 6 ≤ 7293034 by omega)⟩ hx hb hml hown2 hts hKK hN hCB hZ rfl hTT hAd (fun q hq => hq) (nqh_worth l htr cy ad wr cr D hinj) (nn_at_ok (i := 6184) (by decide +kernel)) (nn_at_ok (i := 1000) (by decide +kernel)) ⟨by decide, by decide⟩ (by decide +kernel) (nn_at_ok (i := 6182) (by decide +kernel)) (nn_at_ok (i := 6183) (by decide +kernel)) ⟨by decide, by decide⟩ (as := [(2, 0, 0), (0, 7, 0), (0, 8, 0), (0, 9, 0), (0, 10, 0), (0, 11, 0), (2, 122, 0)]) rfl rfl (by decide) (by decide) lw_R1063_ok (show decode code 1063 = .ok (.invokestatic 123, 3) by decide +kernel) hG2
        (fun x hx9 ρ3 σ3 H1 locs1 st1 _ hG3 => haft 1066 lw_R1063 lw_c1063 (cells + 1) (slots + 6) (Nat.le_refl _) (Nat.le_refl _) x hx9 ρ3 σ3 H1 locs1 ls st1 hG3)
    rcases List.mem_cons.mp hnd with rfl | hnd
    · exact fun ρ2 σ2 H locs ls st hG2 => nq_cl (own := "NameNotesLaw") (cells := cells) (slots := slots) (nL := 8) (Ts := lw_tbl) (na := 7) (rest := []) ⟨(show cells + 1 ≤ 601024 by omega), (show slots + 6 ≤ 7293034 by omega)⟩ hx hb hml hown2 hts hKK hN hCB hZ rfl hTT hAd (fun q hq => hq) (nqh_gains l htr cy ad wr cr D hinj) (nn_at_ok (i := 6191) (by decide +kernel)) (nn_at_ok (i := 1000) (by decide +kernel)) ⟨by decide, by decide⟩ (by decide +kernel) (nn_at_ok (i := 6189) (by decide +kernel)) (nn_at_ok (i := 6190) (by decide +kernel)) ⟨by decide, by decide⟩ (as := [(2, 0, 0), (0, 7, 0), (0, 8, 0), (0, 9, 0), (0, 10, 0), (0, 11, 0), (2, 122, 0)]) rfl rfl (by decide) (by decide) lw_R1200_ok (show decode code 1200 = .ok (.invokestatic 130, 3) by decide +kernel) hG2
        (fun x hx9 ρ3 σ3 H1 locs1 st1 _ hG3 => haft 1203 lw_R1200 lw_c1200 (cells + 1) (slots + 6) (Nat.le_refl _) (Nat.le_refl _) x hx9 ρ3 σ3 H1 locs1 ls st1 hG3)
    rcases List.mem_cons.mp hnd with rfl | hnd
    · exact fun ρ2 σ2 H locs ls st hG2 => nq_cl (own := "NameNotesLaw") (cells := cells) (slots := slots) (nL := 8) (Ts := lw_tbl) (na := 8) (rest := []) ⟨(show cells + 1 ≤ 601024 by omega), (show slots + 6 ≤ 7293034 by omega)⟩ hx hb hml hown2 hts hKK hN hCB hZ rfl hTT hAd (fun q hq => hq) (nqh_held l htr cy ad wr cr D hinj) (nn_at_ok (i := 6198) (by decide +kernel)) (nn_at_ok (i := 1000) (by decide +kernel)) ⟨by decide, by decide⟩ (by decide +kernel) (nn_at_ok (i := 6196) (by decide +kernel)) (nn_at_ok (i := 6197) (by decide +kernel)) ⟨by decide, by decide⟩ (as := [(2, 0, 0), (0, 7, 0), (0, 8, 0), (0, 9, 0), (0, 10, 0), (0, 11, 0), (0, 12, 0), (2, 122, 0)]) rfl rfl (by decide) (by decide) lw_R1332_ok (show decode code 1332 = .ok (.invokestatic 137, 3) by decide +kernel) hG2
        (fun x hx9 ρ3 σ3 H1 locs1 st1 _ hG3 => haft 1335 lw_R1332 lw_c1332 (cells + 1) (slots + 6) (Nat.le_refl _) (Nat.le_refl _) x hx9 ρ3 σ3 H1 locs1 ls st1 hG3)
    rcases List.mem_cons.mp hnd with rfl | hnd
    · exact fun ρ2 σ2 H locs ls st hG2 => nq_cl (own := "NameNotesLaw") (cells := cells) (slots := slots) (nL := 8) (Ts := lw_tbl) (na := 6) (rest := []) ⟨(show cells + 1 ≤ 601024 by omega), (show slots + 6 ≤ 7293034 by omega)⟩ hx hb hml hown2 hts hKK hN hCB hZ rfl hTT hAd (fun q hq => hq) (nqh_among l htr cy ad wr cr D hinj) (nn_at_ok (i := 6207) (by decide +kernel)) (nn_at_ok (i := 1000) (by decide +kernel)) ⟨by decide, by decide⟩ (by decide +kernel) (nn_at_ok (i := 6205) (by decide +kernel)) (nn_at_ok (i := 6206) (by decide +kernel)) ⟨by decide, by decide⟩ (as := [(2, 0, 0), (0, 7, 0), (0, 8, 0), (0, 9, 0), (0, 10, 0), (2, 122, 0)]) rfl rfl (by decide) (by decide) lw_R1409_ok (show decode code 1409 = .ok (.invokestatic 141, 3) by decide +kernel) hG2
        (fun x hx9 ρ3 σ3 H1 locs1 st1 _ hG3 => haft 1412 lw_R1409 lw_c1409 (cells + 1) (slots + 6) (Nat.le_refl _) (Nat.le_refl _) x hx9 ρ3 σ3 H1 locs1 ls st1 hG3)
    rcases List.mem_cons.mp hnd with rfl | hnd
    · exact fun ρ2 σ2 H locs ls st hG2 => np_cl (own := "NameNotesLaw") (cells := cells) (slots := slots) (nL := 8) (Ts := lw_tbl) (rest := []) (q := (108, 12, npd_play)) (mr := (⟨"NameNotes", "play", "(III)I"⟩, prog_1_method_28_code, 7, (Option.some Jvm.ClassFile.FieldType.int), 3, true, 0)) ⟨(show cells ≤ 601024 by omega), (show slots ≤ 7293034 by omega)⟩ hx hb hml hown2 hts hKK hN hCB hZ hY rfl hTT hAd (fun q hq => hq) rfl rfl (ab_mlk_mono (nn_PM0_ok (156, 0, 108) (by decide +kernel)) hTT) (hTT _ (nn_at_ok (i := 4170) (by decide +kernel))) hplay ⟨by decide, by decide⟩ (as := [(2, 0, 0), (0, 7, 0), (0, 8, 0), (0, 9, 0)]) rfl rfl (by decide) (by decide) lw_R1589_ok (show decode code 1589 = .ok (.invokevirtual 156, 3) by decide +kernel) hG2
        (fun x hx9 ρ3 σ3 H1 locs1 st1 _ hG3 => haft 1592 lw_R1589 lw_c1589 cells slots (Nat.le_succ _) (Nat.le_add_right _ _) x hx9 ρ3 σ3 H1 locs1 ls st1 hG3)
    rcases List.mem_cons.mp hnd with rfl | hnd
    · exact fun ρ2 σ2 H locs ls st hG2 => nq_cl (own := "NameNotesLaw") (cells := cells) (slots := slots) (nL := 8) (Ts := lw_tbl) (na := 6) (rest := []) ⟨(show cells + 1 ≤ 601024 by omega), (show slots + 6 ≤ 7293034 by omega)⟩ hx hb hml hown2 hts hKK hN hCB hZ rfl hTT hAd (fun q hq => hq) (nqh_match l htr cy ad wr cr D hinj) (nn_at_ok (i := 6214) (by decide +kernel)) (nn_at_ok (i := 1000) (by decide +kernel)) ⟨by decide, by decide⟩ (by decide +kernel) (nn_at_ok (i := 6212) (by decide +kernel)) (nn_at_ok (i := 6213) (by decide +kernel)) ⟨by decide, by decide⟩ (as := [(2, 0, 0), (0, 7, 0), (0, 8, 0), (0, 9, 0), (0, 10, 0), (2, 122, 0)]) rfl rfl (by decide) (by decide) lw_R1879_ok (show decode code 1879 = .ok (.invokestatic 186, 3) by decide +kernel) hG2
        (fun x hx9 ρ3 σ3 H1 locs1 st1 _ hG3 => haft 1882 lw_R1879 lw_c1879 (cells + 1) (slots + 6) (Nat.le_refl _) (Nat.le_refl _) x hx9 ρ3 σ3 H1 locs1 ls st1 hG3)
    rcases List.mem_cons.mp hnd with rfl | hnd
    · intro ρ2 σ2 H locs ls st hG2
      have hB9 : (-2147483648 : Int) ≤ ρ2 9 ∧ ρ2 9 ≤ 2147483647 := hG2.1.1 9 (by decide)
      rcases (show ρ2 9 ≤ (-1) ∨ ρ2 9 = 0 ∨ ρ2 9 = 1 ∨ ρ2 9 = 2 ∨ ρ2 9 = 3 ∨ ρ2 9 = 4 ∨ ρ2 9 = 5 ∨ ρ2 9 = 6 ∨ ρ2 9 = 7 ∨ ρ2 9 = 8 ∨ ρ2 9 = 9 ∨ 10 ≤ ρ2 9 by omega) with h9 | h9 | h9 | h9 | h9 | h9 | h9 | h9 | h9 | h9 | h9 | h9
      · exact haft 1942 [lw_X1942_0] lw_c1942_0 cells slots (Nat.le_succ _) (Nat.le_add_right _ _) lw_X1942_0 List.mem_cons_self ρ2 σ2 H locs ls st (lw_cut hG2 (by omega) (by omega))
      · exact haft 1942 [lw_X1942_1] lw_c1942_1 cells slots (Nat.le_succ _) (Nat.le_add_right _ _) lw_X1942_1 List.mem_cons_self ρ2 σ2 H locs ls st (lw_cut hG2 (by omega) (by omega))
      · exact haft 1942 [lw_X1942_2] lw_c1942_2 cells slots (Nat.le_succ _) (Nat.le_add_right _ _) lw_X1942_2 List.mem_cons_self ρ2 σ2 H locs ls st (lw_cut hG2 (by omega) (by omega))
      · exact haft 1942 [lw_X1942_3] lw_c1942_3 cells slots (Nat.le_succ _) (Nat.le_add_right _ _) lw_X1942_3 List.mem_cons_self ρ2 σ2 H locs ls st (lw_cut hG2 (by omega) (by omega))
      · exact haft 1942 [lw_X1942_4] lw_c1942_4 cells slots (Nat.le_succ _) (Nat.le_add_right _ _) lw_X1942_4 List.mem_cons_self ρ2 σ2 H locs ls st (lw_cut hG2 (by omega) (by omega))
      · exact haft 1942 [lw_X1942_5] lw_c1942_5 cells slots (Nat.le_succ _) (Nat.le_add_right _ _) lw_X1942_5 List.mem_cons_self ρ2 σ2 H locs ls st (lw_cut hG2 (by omega) (by omega))
      · exact haft 1942 [lw_X1942_6] lw_c1942_6 cells slots (Nat.le_succ _) (Nat.le_add_right _ _) lw_X1942_6 List.mem_cons_self ρ2 σ2 H locs ls st (lw_cut hG2 (by omega) (by omega))
      · exact haft 1942 [lw_X1942_7] lw_c1942_7 cells slots (Nat.le_succ _) (Nat.le_add_right _ _) lw_X1942_7 List.mem_cons_self ρ2 σ2 H locs ls st (lw_cut hG2 (by omega) (by omega))
      · exact haft 1942 [lw_X1942_8] lw_c1942_8 cells slots (Nat.le_succ _) (Nat.le_add_right _ _) lw_X1942_8 List.mem_cons_self ρ2 σ2 H locs ls st (lw_cut hG2 (by omega) (by omega))
      · exact haft 1942 [lw_X1942_9] lw_c1942_9 cells slots (Nat.le_succ _) (Nat.le_add_right _ _) lw_X1942_9 List.mem_cons_self ρ2 σ2 H locs ls st (lw_cut hG2 (by omega) (by omega))
      · exact haft 1942 [lw_X1942_10] lw_c1942_10 cells slots (Nat.le_succ _) (Nat.le_add_right _ _) lw_X1942_10 List.mem_cons_self ρ2 σ2 H locs ls st (lw_cut hG2 (by omega) (by omega))
      · exact haft 1942 [lw_X1942_11] lw_c1942_11 cells slots (Nat.le_succ _) (Nat.le_add_right _ _) lw_X1942_11 List.mem_cons_self ρ2 σ2 H locs ls st (lw_cut hG2 (by omega) (by omega))
    rcases List.mem_cons.mp hnd with rfl | hnd
    · exact fun ρ2 σ2 H locs ls st hG2 => nq_cl (own := "NameNotesLaw") (cells := cells) (slots := slots) (nL := 8) (Ts := lw_tbl) (na := 7) (rest := []) ⟨(show cells + 1 ≤ 601024 by omega), (show slots + 6 ≤ 7293034 by omega)⟩ hx hb hml hown2 hts hKK hN hCB hZ rfl hTT hAd (fun q hq => hq) (nqh_bolder l htr cy ad wr cr D hinj) (nn_at_ok (i := 6222) (by decide +kernel)) (nn_at_ok (i := 1000) (by decide +kernel)) ⟨by decide, by decide⟩ (by decide +kernel) (nn_at_ok (i := 6220) (by decide +kernel)) (nn_at_ok (i := 6221) (by decide +kernel)) ⟨by decide, by decide⟩ (as := [(2, 0, 0), (0, 7, 0), (0, 8, 0), (0, 9, 0), (0, 10, 0), (0, 11, 0), (2, 122, 0)]) rfl rfl (by decide) (by decide) lw_R2010_ok (show decode code 2010 = .ok (.invokestatic 193, 3) by decide +kernel) hG2
        (fun x hx9 ρ3 σ3 H1 locs1 st1 _ hG3 => haft 2013 lw_R2010 lw_c2010 (cells + 1) (slots + 6) (Nat.le_refl _) (Nat.le_refl _) x hx9 ρ3 σ3 H1 locs1 ls st1 hG3)
    rcases List.mem_cons.mp hnd with rfl | hnd
    · exact fun ρ2 σ2 H locs ls st hG2 => nq_cl (own := "NameNotesLaw") (cells := cells) (slots := slots) (nL := 8) (Ts := lw_tbl) (na := 3) (rest := []) ⟨(show cells + 1 ≤ 601024 by omega), (show slots + 6 ≤ 7293034 by omega)⟩ hx hb hml hown2 hts hKK hN hCB hZ rfl hTT hAd (fun q hq => hq) (nqh_told l htr cy ad wr cr D hinj) (nn_at_ok (i := 6229) (by decide +kernel)) (nn_at_ok (i := 1000) (by decide +kernel)) ⟨by decide, by decide⟩ (by decide +kernel) (nn_at_ok (i := 6227) (by decide +kernel)) (nn_at_ok (i := 6228) (by decide +kernel)) ⟨by decide, by decide⟩ (as := [(2, 0, 0), (0, 7, 0), (2, 122, 0)]) rfl rfl (by decide) (by decide) lw_R2445_ok (show decode code 2445 = .ok (.invokestatic 240, 3) by decide +kernel) hG2
        (fun x hx9 ρ3 σ3 H1 locs1 st1 _ hG3 => haft 2448 lw_R2445 lw_c2445 (cells + 1) (slots + 6) (Nat.le_refl _) (Nat.le_refl _) x hx9 ρ3 σ3 H1 locs1 ls st1 hG3)
    rcases List.mem_cons.mp hnd with rfl | hnd
    · intro ρ2 σ2 H locs ls st hG2
      obtain ⟨q1, q2, q3, q4, q5, q6, q7⟩ := hG2
      have hst : st = [.int 1] := by
        rw [q5.1]
        show [Value.int (Int32.ofInt (ρ2 0 + 1))] = _
        rw [q1.2.2.1]
        rfl
      subst hst
      refine va_forget (fun q hq => q7.2.2 q hq) ?_
      refine W.widen (k := 601024) (n := 7293034) (by omega) (by omega) ?_
      exact lw_ret hx hb hr hlocks (show decode code 2770 = .ok (.ireturn, 1) by decide +kernel)
    exact absurd hnd List.not_mem_nil
