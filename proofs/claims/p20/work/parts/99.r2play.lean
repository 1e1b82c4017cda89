/-! NameNotes.play -/
theorem np_ldcw {p : Program} {l : Launch} {e : Env} {R : Room} {s : State} {m : MethodId} {args : Array Value} {below : List Frame} {meth : Method} {c : Code} {H : Heap} {locs : List Loc} {cells slots : Nat} {Q : State → Prop} {cc : ByteArray} {pc : Nat} {ls : Array Slot} {st : List Value} {own tx : String} {is a : Nat}
    (hx : p.tables.exec = Jvm.exec) (hb : c.code = cc) (hown : s.vm.findClass own = some m.cls) (h : vk_R own is tx a s) (hdg : decode cc pc = .ok (.ldc_w is, 3)) (kk : W p l e R s m args below meth c H locs cells slots Q (F0 m (pc + 3) ls (.ref a :: st))) : W p l e R s m args below meth c H locs cells slots Q (F0 m pc ls st) := by
  intro T hT X
  obtain ⟨t, a1, b1⟩ := kk T hT X
  exact ⟨t, X.ldcStringW hx (own := own) (text := tx) (index := is) (a := a) hown h.1 h.2 (g := F0 m pc ls st) rfl (by rw [hb]; exact hdg) _ a1, b1⟩
theorem np_push {cy : Nat → ClassId} {ad wr cr : Nat → Nat} {D : va_G} {nL n0 : Nat} {ρ0 : Nat → Int} {σ0 : ab_SG} {A : Nat → Prop} {H0 : Heap} {X : ab_AS} {ρ : Nat → Int} {σ : ab_SG} {H : Heap} {locs : List Loc} {ls : Array Slot} {st : List Value} (k : Nat) (h : ab_Gm cy ad wr cr D vwCl nn_sh nn_T nn_C nL n0 ρ0 σ0 A H0 X ρ σ H locs ls st) : ab_Gm cy ad wr cr D vwCl nn_sh nn_T nn_C nL n0 ρ0 σ0 A H0 (X.1, (5, k, 0) :: X.2.1, X.2.2) ρ σ H locs ls (.ref (cr k) :: st) := by
  obtain ⟨g1, g2, g3, g4, g5, g6, g7⟩ := h
  refine ⟨g1, g2, g3, g4, ⟨?_, List.forall_mem_cons.mpr ⟨trivial, g5.2⟩⟩, g6, g7⟩
  rw [g5.1]
  rfl
/-- NameNotes.at 12 -/
def lq_735 : ab_CN := ([(2, 12, 0), (0, 1, 0)], [(0, 0), ((-2147483648), 2147483647)], [], [], [([(1, 2, 0)], [(0, 0), ((-2147483648), 2147483647), ((-9223372036854775808), 9223372036854775807)], [], [], [])])
theorem lr_735 (l : Launch) (cy : Nat → ClassId) (ad wr cr : Nat → Nat) (D : va_G) (hinj : nn_inj ad) : nn_H l cy ad wr cr D (87, 0, lq_735) := nn_hold (fuel := 17) (sp := []) (HD := []) (HN := []) (mu := ((0, [], []), (0, [], []), (0, [], []))) (KS := []) (NS := []) hinj nn_MT_code nn_KI1_ok nn_KJ1_ok nn_PF1_ok nn_PS1_ok nn_PM1_ok (fun _ h => absurd h List.not_mem_nil) (by decide +kernel)
def npl_A : ab_AS := ([(0, (2, 0, 0)), (1, (0, 1, 0)), (2, (0, 2, 0)), (3, (0, 3, 0))], [(2, 87, 0)], [(0, 0), (0, 4), (0, 4), (0, 5), ((-2147483648), 2147483647)], [], [((87, 1), (0, 0)), ((3, 14), (4, 0))], [(73, 3), (74, 1000000), (75, 1000000), (78, 1000000), (79, 1000000), (80, 1000000), (87, 1)])
def npl_p (k : Nat) (X : ab_AS) : ab_AS := (X.1, (5, k, 0) :: X.2.1, X.2.2)
def npl_B : ab_AS := ([(0, (2, 0, 0))], [(2, 87, 0)], [(0, 0), ((-2147483648), 2147483647), ((-2147483648), 2147483647), ((-2147483648), 2147483647)], [], [], [(73, 3), (74, 1000000), (75, 1000000), (78, 1000000), (79, 1000000), (80, 1000000), (87, 1), (88, 1000000)])
def npl_K : ab_KS := [(96, 1, cd_128), (109, 0, cd_134), (122, 1, cd_136), (123, 2, cd_137), (125, 2, cd_138), (91, 1, cd_177), (92, 5, cd_180), (124, 3, cd_343), (87, 0, lq_735)]
theorem npl_K_ok (l : Launch) (cy : Nat → ClassId) (ad wr cr : Nat → Nat) (D : va_G) (hinj : nn_inj ad) : ∀ q ∈ npl_K, nn_H l cy ad wr cr D q := List.forall_mem_cons.mpr ⟨ct_128 l cy ad wr cr D hinj, List.forall_mem_cons.mpr ⟨ct_134 l cy ad wr cr D hinj, List.forall_mem_cons.mpr ⟨ct_136 l cy ad wr cr D hinj, List.forall_mem_cons.mpr ⟨ct_137 l cy ad wr cr D hinj, List.forall_mem_cons.mpr ⟨ct_138 l cy ad wr cr D hinj, List.forall_mem_cons.mpr ⟨ct_177 l cy ad wr cr D hinj, List.forall_mem_cons.mpr ⟨ct_180 l cy ad wr cr D hinj, List.forall_mem_cons.mpr ⟨ct_343 l cy ad wr cr D hinj, List.forall_mem_cons.mpr ⟨lr_735 l cy ad wr cr D hinj, fun _ h => absurd h List.not_mem_nil⟩⟩⟩⟩⟩⟩⟩⟩⟩
def npl_E : ab_ND := (0, (ab_en0 0 npd_play.1, [], npd_play.2.1, npd_play.2.2.1, npd_play.2.2.2.1, []), ((0, [], []), (0, [], []), (0, [], [])))
theorem npl_c1 : ([npl_E]).all (ab_cn vwCl nn_T nn_C nn_sh nn_MT (nn_KI1.map (fun x => x.1)) (nn_KJ1.map (fun x => x.1)) (nn_PF1.map (fun x => x.1)) nn_kd (nn_PS1.map (fun x => x.1)) (nn_PM1.map (fun x => x.1)) npl_K 12 0 nn_dt108 7 4 npd_play.2.2.2.2 0 [] [31] [] [nq_nd 31 npl_A] ([npl_E]) 25) = true := by rw [← fz_cn_eq]; decide +kernel
def npl_R : List ab_AS := (ab_tr1 nn_T (110, 6, aw_d 3) 7 110 [(2, 87, 0), (5, 3, 0)] [] npl_A.1 npl_A.2.2.1 npl_A.2.2.2.1 npl_A.2.2.2.2.1 npl_A.2.2.2.2.2).getD []
theorem npl_R_ok : ab_tr1 nn_T (110, 6, aw_d 3) 7 110 [(2, 87, 0), (5, 3, 0)] [] npl_A.1 npl_A.2.2.1 npl_A.2.2.2.1 npl_A.2.2.2.2.1 npl_A.2.2.2.2.2 = some npl_R := nq_some (by decide +kernel)
def npl_N (x : ab_AS) : ab_ND := (37, x, ((1000000000000000000000, [], []), (0, [], []), (0, [], [])))
def npl_2 : List ab_ND := npl_R.map npl_N ++ [(81, ([(6, (0, 4, 0)), (5, (0, 5, 0)), (4, (0, 6, 0)), (0, (2, 0, 0)), (1, (0, 1, 0)), (2, (0, 2, 0)), (3, (0, 3, 0))], [], [(0, 0), (0, 4), (0, 4), (0, 5), (0, 9), ((-2147483648), 2147483647), (0, 1), ((-2147483648), 2147483647), ((-2147483648), 2147483647)], [], [((87, 1), (7, 0)), ((3, 14), (8, 0))], [(73, 3), (74, 1000000), (75, 1000000), (78, 1000000), (79, 1000000), (80, 1000000), (87, 1), (88, 1000000)]), ((9, [], [4]), (0, [], []), (0, [], [])))]
theorem npl_c2 : (npl_2).all (ab_cn vwCl nn_T nn_C nn_sh nn_MT (nn_KI1.map (fun x => x.1)) (nn_KJ1.map (fun x => x.1)) (nn_PF1.map (fun x => x.1)) nn_kd (nn_PS1.map (fun x => x.1)) (nn_PM1.map (fun x => x.1)) npl_K 12 0 nn_dt108 7 4 npd_play.2.2.2.2 0 [] [81, 168] [] [nq_nd 168 npl_B] (npl_2) 39) = true := by rw [← fz_cn_eq]; decide +kernel
def npl_S : List ab_AS := (ab_tr1 nn_T (110, 6, aw_d 4) 7 110 [(2, 87, 0), (5, 4, 0)] [] npl_B.1 npl_B.2.2.1 npl_B.2.2.2.1 npl_B.2.2.2.2.1 npl_B.2.2.2.2.2).getD []
theorem npl_S_ok : ab_tr1 nn_T (110, 6, aw_d 4) 7 110 [(2, 87, 0), (5, 4, 0)] [] npl_B.1 npl_B.2.2.1 npl_B.2.2.2.1 npl_B.2.2.2.2.1 npl_B.2.2.2.2.2 = some npl_S := nq_some (by decide +kernel)
theorem npl_c3 : (npl_S.map (nq_nd 174)).all (ab_cn vwCl nn_T nn_C nn_sh nn_MT (nn_KI1.map (fun x => x.1)) (nn_KJ1.map (fun x => x.1)) (nn_PF1.map (fun x => x.1)) nn_kd (nn_PS1.map (fun x => x.1)) (nn_PM1.map (fun x => x.1)) npl_K 12 0 nn_dt108 7 4 npd_play.2.2.2.2 0 [] [] [] [] (npl_S.map (nq_nd 174)) 20) = true := by rw [← fz_cn_eq]; decide +kernel
set_option maxHeartbeats 8000000 in
theorem npl_held (l : Launch) (cy : Nat → ClassId) (ad wr cr av : Nat → Nat) (D : va_G) (hinj : nn_inj ad) : np_H l cy ad wr cr av D (108, 12, npd_play) := by
  refine np_hold (mr := (⟨"NameNotes", "play", "(III)I"⟩, prog_1_method_28_code, 7, (Option.some Jvm.ClassFile.FieldType.int), 3, true, 0)) (dt := nn_dt108) (own := "NameNotes") (KS := npl_K) hinj rfl rfl (by decide +kernel) nn_KI1_ok nn_KJ1_ok nn_PF1_ok nn_PS1_ok nn_PM1_ok (npl_K_ok l cy ad wr cr D hinj) ?_
  intro p e s m below meth c R Q ρ σ hR1 hR2 hZ hY hE hK hsy hP hRT
  have hE2 := hE
  obtain ⟨hx, hb, hml, hown, hts, hKK, hN, hTTg, hcode, hA, hA2, hPM, hKS, hlev, hKI, hKJ, hPF, hD9, hCB, -⟩ := hE2
  have hsub : ∀ w ∈ nn_TT, w ∈ (Jvm.Cond.code (⟨"NameNotes", "play", "(III)I"⟩ : MethodName) prog_1_method_28_code 7 (Option.some Jvm.ClassFile.FieldType.int) :: nn_TT) := fun w hw => List.mem_cons_of_mem _ hw
  refine ab_entry (lev := 12) (sp := []) (HD := [31]) (HN := []) (EX := [nq_nd 31 npl_A]) (NS := [npl_E]) (fuel := 25) (mu := ((0, [], []), (0, [], []), (0, [], []))) hE (by decide +kernel) hK hsy hP List.mem_cons_self hRT (fun nd hnd => ?_) (List.all_eq_true.mp npl_c1)
  rw [List.mem_singleton.mp hnd]
  intro ρ2 σ2 H locs ls st hG
  refine np_ldcw hx hb hown (hCB.2.2.2.2 ("NameNotes", 284, "clue ", 3) (by decide +kernel)) (show decode prog_1_method_28_code 31 = .ok (.ldc_w 284, 3) by decide +kernel) ?_
  replace hG := np_push 3 hG
  refine np_cl (own := "NameNotes") (cells := 0) (slots := 0) (nL := 7) (rest := []) (q := (110, 6, aw_d 3)) (mr := (⟨"NameNotes$Text", "addWord", "(Ljava/lang/String;)V"⟩, prog_11_method_4_code, 3, (Option.none : Option Jvm.ClassFile.FieldType), 1, true, 4)) ⟨Nat.zero_le _, Nat.zero_le _⟩ hx hb hml hown hts hKK hN hCB hZ hY rfl hsub hA hA2 rfl rfl (ab_mlk_mono (nn_PM1_ok (286, 0, 110) (by decide +kernel)) hsub) (hsub _ (nn_at_ok (i := 4179) (by decide +kernel))) (aw_held l cy ad wr cr av D hinj (i := 0) (by decide)) ⟨by rw [hR1]; decide, by rw [hR2]; decide⟩ (as := [(2, 87, 0), (5, 3, 0)]) rfl rfl (by decide) (by decide) npl_R_ok (show decode prog_1_method_28_code 34 = .ok (.invokevirtual 286, 3) by decide +kernel) hG ?_
  intro x hx9 ρ3 σ3 H1 locs1 st1 _ hG
  refine ab_nodes_ok (EX := [nq_nd 168 npl_B]) (NS := npl_2) hE hRT (fun nd hnd => ?_) (List.all_eq_true.mp npl_c2) (npl_N x) (List.mem_append_left _ (List.mem_map.mpr ⟨x, hx9, rfl⟩)) ρ3 σ3 H1 locs1 ls st1 hG
  rw [List.mem_singleton.mp hnd]
  intro ρ4 σ4 H locs ls st hG
  refine np_ldcw hx hb hown (hCB.2.2.2.2 ("NameNotes", 309, "name;", 4) (by decide +kernel)) (show decode prog_1_method_28_code 168 = .ok (.ldc_w 309, 3) by decide +kernel) ?_
  replace hG := np_push 4 hG
  refine np_cl (own := "NameNotes") (cells := 0) (slots := 0) (nL := 7) (rest := []) (q := (110, 6, aw_d 4)) (mr := (⟨"NameNotes$Text", "addWord", "(Ljava/lang/String;)V"⟩, prog_11_method_4_code, 3, (Option.none : Option Jvm.ClassFile.FieldType), 1, true, 4)) ⟨Nat.zero_le _, Nat.zero_le _⟩ hx hb hml hown hts hKK hN hCB hZ hY rfl hsub hA hA2 rfl rfl (ab_mlk_mono (nn_PM1_ok (286, 0, 110) (by decide +kernel)) hsub) (hsub _ (nn_at_ok (i := 4179) (by decide +kernel))) (aw_held l cy ad wr cr av D hinj (i := 1) (by decide)) ⟨by rw [hR1]; decide, by rw [hR2]; decide⟩ (as := [(2, 87, 0), (5, 4, 0)]) rfl rfl (by decide) (by decide) npl_S_ok (show decode prog_1_method_28_code 171 = .ok (.invokevirtual 286, 3) by decide +kernel) hG ?_
  intro x hx9 ρ3 σ3 H1 locs1 st1 _ hG
  exact ab_nodes_ok (EX := []) (NS := npl_S.map (nq_nd 174)) hE hRT nh_nil (List.all_eq_true.mp npl_c3) (nq_nd 174 x) (List.mem_map.mpr ⟨x, hx9, rfl⟩) ρ3 σ3 H1 locs1 ls st1 hG
